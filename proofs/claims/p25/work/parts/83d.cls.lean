theorem gdX10_move_0 : ckS (List.drop 0 cX10_move.data.toList) 0 [(0, .aload_n 0, 1), (1, .getfield 10, 3), (4, .bipush 15, 2), (6, .iload_n 1, 1), (7, .iconst 0, 1), (8, .iconst 0, 1), (9, .iconst 0, 1), (10, .invokevirtual 32, 3), (13, .ireturn, 1)] = true := by decide +kernel
theorem dX10_move_0 : decode cX10_move 0 = .ok (.aload_n 0, 1) := ckS_g gdX10_move_0 0 rfl
theorem dX10_move_1 : decode cX10_move 1 = .ok (.getfield 10, 3) := ckS_g gdX10_move_0 1 rfl
theorem dX10_move_4 : decode cX10_move 4 = .ok (.bipush 15, 2) := ckS_g gdX10_move_0 2 rfl
theorem dX10_move_6 : decode cX10_move 6 = .ok (.iload_n 1, 1) := ckS_g gdX10_move_0 3 rfl
theorem dX10_move_7 : decode cX10_move 7 = .ok (.iconst 0, 1) := ckS_g gdX10_move_0 4 rfl
theorem dX10_move_8 : decode cX10_move 8 = .ok (.iconst 0, 1) := ckS_g gdX10_move_0 5 rfl
theorem dX10_move_9 : decode cX10_move 9 = .ok (.iconst 0, 1) := ckS_g gdX10_move_0 6 rfl
theorem dX10_move_10 : decode cX10_move 10 = .ok (.invokevirtual 32, 3) := ckS_g gdX10_move_0 7 rfl
theorem dX10_move_13 : decode cX10_move 13 = .ok (.ireturn, 1) := ckS_g gdX10_move_0 8 rfl
set_option maxRecDepth 100000 in
theorem zc708 : wZ (.code yX10_move cX10_move 2 (some .int)) := ⟨wT4 (List.mem_of_getElem? (i := 83) rfl), Or.inl rfl⟩
def b_Y10_move_13a (S : Cst) (x0 : Nat) (x1 : Int32) (y0 : Int32) : Int32 × Cst := (y0, S)
def q_Y10_move_13a (S : Cst) (x0 : Nat) (lc : Nat) (ls : Nat) (x1 : Int32) (y0 : Int32) : Prop := True
def f_Y10_move (S : Cst) (x0 : Nat) (x1 : Int32) : Int32 × Cst := (b_Y10_move_13a ((f_Y0_enact S ((grC S x0 0).getD 0) (15 : Int32) x1 (0 : Int32) (0 : Int32) (0 : Int32)).2) x0 x1 ((f_Y0_enact S ((grC S x0 0).getD 0) (15 : Int32) x1 (0 : Int32) (0 : Int32) (0 : Int32)).1))
def p_Y10_move (S : Cst) (x0 : Nat) (lc : Nat) (ls : Nat) (x1 : Int32) : Prop := (iR S (grC S x0 0) 0) ∧ ((S.1 ≤ (f_Y0_enact S ((grC S x0 0).getD 0) (15 : Int32) x1 (0 : Int32) (0 : Int32) (0 : Int32)).2.1 ∧ (f_Y0_enact S ((grC S x0 0).getD 0) (15 : Int32) x1 (0 : Int32) (0 : Int32) (0 : Int32)).2.1 ≤ lc) ∧ (S.2.1 ≤ (f_Y0_enact S ((grC S x0 0).getD 0) (15 : Int32) x1 (0 : Int32) (0 : Int32) (0 : Int32)).2.2.1 ∧ (f_Y0_enact S ((grC S x0 0).getD 0) (15 : Int32) x1 (0 : Int32) (0 : Int32) (0 : Int32)).2.2.1 ≤ ls)) ∧ (p_Y0_enact S ((grC S x0 0).getD 0) (f_Y0_enact S ((grC S x0 0).getD 0) (15 : Int32) x1 (0 : Int32) (0 : Int32) (0 : Int32)).2.1 (f_Y0_enact S ((grC S x0 0).getD 0) (15 : Int32) x1 (0 : Int32) (0 : Int32) (0 : Int32)).2.2.1 (15 : Int32) x1 (0 : Int32) (0 : Int32) (0 : Int32)) ∧ (q_Y10_move_13a ((f_Y0_enact S ((grC S x0 0).getD 0) (15 : Int32) x1 (0 : Int32) (0 : Int32) (0 : Int32)).2) x0 lc ls x1 ((f_Y0_enact S ((grC S x0 0).getD 0) (15 : Int32) x1 (0 : Int32) (0 : Int32) (0 : Int32)).1))
def e_Y10_move : List Cond := [.fieldLink RX10 10 "MotionFloor" "now" "LMotionFloor$Assembly;", .methodLink RX10 32 yX0_enact, .instanceMethod yX0_enact, .selects RX0 yX0_enact yX0_enact, .initialized RX0]
def v_Y10_move : List Cond := .code yX10_move cX10_move 2 (some .int) :: (e_Y10_move ++ (wsX100 ++ (v_Y0_enact ++ [])))
theorem te_Y10_move : GoodIn lw_tbl e_Y10_move := wGc zc496 (wGc zc693 (wGc zc692 (wGc zc691 (wGc zc39 (wG0)))))
theorem t_Y10_move : GoodIn lw_tbl v_Y10_move := wGc zc708 (wGa te_Y10_move (wGa zcX10 (wGa t_Y0_enact (wG0))))
set_option maxHeartbeats 4000000 in
set_option maxRecDepth 100000 in
theorem c_Y10_move (l : Launch) (G : va_G) (K : Nat → ClassId) (ad0 : Nat → Nat) (S0 : Cst) (x0 : Nat) (lc : Nat) (ls : Nat) (a1 : Int32) (sz : Nat) : Met l yX10_move v_Y10_move ({ frames := 8, cells := lc - S0.1, slots := ls - S0.2.1, locals := 226 }) (va_Pc [.ref (ad0 x0), .int a1] (cSt G K ad0 sz S0 ((S0.1 ≤ lc ∧ S0.2.1 ≤ ls) ∧ iK S0 x0 7 ∧ p_Y10_move S0 x0 lc ls a1))) (va_Qi (fun (r : Int32) (u : Cst × (Nat → Nat)) => (r, u.1) = f_Y10_move S0 x0 a1 ∧ eN S0 u.1 ∧ (∀ q, q < S0.1 → u.2 q = ad0 q)) (fun u t => cBt G K u.2 (va_A (wsC K ad0 S0) sz) u.1 t) (va_A (wsC K ad0 S0) sz)) (lc - S0.1) (ls - S0.2.1) (va_A (wsC K ad0 S0) sz) := by
  refine Met.ofW (cc := cX10_move) (maxL := 2) (ret := (some .int)) (by decide) rfl ?_
  intro p e s m args below meth c s₁ B hml hv
  obtain ⟨rfl, ⟨hsz, hP, hK, hD0, hTE⟩, hp⟩ := hv
  obtain ⟨k_l, hp⟩ := hp
  obtain ⟨k_x0, hp⟩ := hp
  have hx := B.exec
  have hb := B.bytes
  have hr := B.returns
  have hts := atoms_spec (ws := v_Y10_move) B.pre
  have t_ := t_Y10_move
  have mw : ∀ w ∈ e_Y10_move, w ∈ v_Y10_move := fun w h => List.mem_cons_of_mem _ (List.mem_append_left _ h)
  have hw := fun w (h : w ∈ e_Y10_move) => hts w (mw w h)
  have iX10 : ∀ w ∈ wsX100, w ∈ v_Y10_move := fun w h => List.mem_cons_of_mem _ (List.mem_append_right _ (List.mem_append_left _ h))
  have j_Y0_enact : ∀ w ∈ v_Y0_enact, w ∈ v_Y10_move := fun w h => List.mem_cons_of_mem _ (List.mem_append_right _ (List.mem_append_right _ (List.mem_append_left _ h)))
  have hown : s.vm.findClass RX10 = some m.cls := findClass_of_methodNamed B.named
  have hlocks := B.notSynchronized
  subst hsz
  have hD := hD0.self (sz := s.heap.size)
  generalize hAe : va_A (wsC K ad0 S0) s.heap.size = A at hD ⊢
  have hA : ∀ q : Nat, s.heap.size ≤ q → A q := fun q h => by rw [← hAe]; exact Or.inr h
  have hS : va_S A s.heap s.heap [] := va_S.rf
  have hl : lv_has (lg_sl ([.ref (ad0 x0), .int a1]) ++ List.replicate (2 - (lg_sl ([.ref (ad0 x0), .int a1])).length) Slot.unset).toArray 2 [(0, .ref (ad0 x0)), (1, .int a1)] := by
    exact lv_entry ([.ref (ad0 x0), .int a1]) (n := 2) (Nat.le_of_ble_eq_true rfl)
  rw [lg_entry_eq]
  generalize (lg_sl ([.ref (ad0 x0), .int a1]) ++ List.replicate (2 - (lg_sl ([.ref (ad0 x0), .int a1])).length) Slot.unset).toArray = ls_ at hl ⊢
  refine wGen (fun Q hQ => ?_)
  obtain ⟨X, hX⟩ : ∃ X, f_Y10_move S0 x0 a1 = X := ⟨_, rfl⟩
  have B_Y10_move_13a : ∀ (S : Cst) (ad : Nat → Nat) (x1 : Int32) (y0 : Int32) (H : Heap) (locs : List Loc) (ls_ : Array Slot), b_Y10_move_13a S x0 x1 y0 = X → q_Y10_move_13a S x0 lc ls x1 y0 → nH S0 ad0 lc ls S ad → va_P G vwCl (wsC K ad S) H → va_D A (wsC K ad S) → va_S A s.heap H locs → lv_has ls_ 2 [(0, .ref (ad x0)), (1, .int x1)] → W p l e ({ frames := 8, cells := lc - S0.1, slots := ls - S0.2.1, locals := 226 } : Room) s m #[Value.ref (ad0 x0), Value.int a1] below meth c H locs (S.1 - S0.1) (S.2.1 - S0.2.1) Q (F0 m 13 ls_ [.int y0]) := by
    intro S ad x1 y0 H locs ls_ hE hp hZ hP hD hS hl
    unfold b_Y10_move_13a at hE
    unfold q_Y10_move_13a at hp
    refine W.widen (k := lc - S0.1) (n := ls - S0.2.1) (show S.1 - S0.1 ≤ lc - S0.1 from Nat.sub_le_sub_right hZ.2.2.1 _) (show S.2.1 - S0.2.1 ≤ ls - S0.2.1 from Nat.sub_le_sub_right hZ.2.2.2 _) ?_
    subst hQ
    exact W.iret (v := y0) hx hb hr (fun t ht hW => ⟨⟨y0, (S, ad), rfl, ⟨hE.trans hX.symm, hZ.1, hZ.2.1⟩, by rw [ht]; exact hP, hD⟩, hS.F ht⟩) hS.2.2 dX10_move_13
  have B_M : ∀ (S : Cst) (ad : Nat → Nat) (x1 : Int32) (H : Heap) (locs : List Loc) (ls_ : Array Slot), f_Y10_move S x0 x1 = X → p_Y10_move S x0 lc ls x1 → nH S0 ad0 lc ls S ad → va_P G vwCl (wsC K ad S) H → va_D A (wsC K ad S) → va_S A s.heap H locs → lv_has ls_ 2 [(0, .ref (ad x0)), (1, .int x1)] → W p l e ({ frames := 8, cells := lc - S0.1, slots := ls - S0.2.1, locals := 226 } : Room) s m #[Value.ref (ad0 x0), Value.int a1] below meth c H locs (S.1 - S0.1) (S.2.1 - S0.2.1) Q (F0 m 0 ls_ []) := by
    intro S ad x1 H locs ls_ hE hp hZ hP hD hS hl
    unfold f_Y10_move at hE
    unfold p_Y10_move at hp
    refine lv_aload_n hx hb dX10_move_0 rfl (lv_at hl 0 rfl) ?_
    refine va_get (D := G) (ci := 7) (v := va_re ad (grC S x0 0)) (C := RX10) (T := TX10) (N := 5) hx hb hts iX10 hown hK hP x0 (at_7 (k_x0.n hZ.1)) rfl 0 (by decide) (hw (.fieldLink RX10 10 "MotionFloor" "now" "LMotionFloor$Assembly;") (List.mem_of_getElem? (i := 0) rfl)) (fun _ h9 => h9) rfl dX10_move_1 ?_
    refine lv_bipush (v := 15) hx hb dX10_move_4 (by decide) ?_
    refine lv_iload_n hx hb dX10_move_6 rfl (lv_at hl 1 rfl) ?_
    refine lv_iconst (v := 0) hx hb dX10_move_7 (by decide) ?_
    refine lv_iconst (v := 0) hx hb dX10_move_8 (by decide) ?_
    refine lv_iconst (v := 0) hx hb dX10_move_9 (by decide) ?_
    obtain ⟨hy1, hp⟩ := hp
    refine cTop6 (r := (grC S x0 0)) hy1.1 ?_
    obtain ⟨hy2, hp⟩ := hp
    obtain ⟨hy3, hp⟩ := hp
    refine cNoi (va_runV (As := [.int 15, .int x1, .int 0, .int 0, .int 0]) (rest := []) ⟨hx, hb, hml, hown, hts⟩ (c_Y0_enact l G K ad S ((grC S x0 0).getD 0) (f_Y0_enact S ((grC S x0 0).getD 0) (15 : Int32) x1 (0 : Int32) (0 : Int32) (0 : Int32)).2.1 (f_Y0_enact S ((grC S x0 0).getD 0) (15 : Int32) x1 (0 : Int32) (0 : Int32) (0 : Int32)).2.2.1 (15 : Int32) x1 (0 : Int32) (0 : Int32) (0 : Int32) _) (cwV 5 hts (wGV t_ (mw (.methodLink RX10 32 yX0_enact) (List.mem_of_getElem? (i := 1) rfl)) (mw (.instanceMethod yX0_enact) (List.mem_of_getElem? (i := 2) rfl)) (mw (.selects RX0 yX0_enact yX0_enact) (List.mem_of_getElem? (i := 3) rfl)) (mw (.initialized RX0) (List.mem_of_getElem? (i := 4) rfl)) j_Y0_enact) rfl rfl rfl (by decide +kernel) ⟨Nat.le_of_ble_eq_true rfl, Nat.le_of_ble_eq_true rfl⟩) (cPV hK hTE hP hD 0 rfl (at_0 hy1.2) ⟨⟨hy2.1.1, hy2.2.1⟩, hy1.2, hy3⟩) rfl rfl hl.1 rfl (lv_room (Nat.le_of_ble_eq_true rfl)) dX10_move_10 ⟨by show _ ≤ lc - S0.1; have := hZ.1.1.1; have := hy2.1; omega, by show _ ≤ ls - S0.2.1; have := hZ.1.1.2; have := hy2.2; omega⟩) hP hD hS hA (fun r5 u4 H locs hv hP hD hS => ?_)
    obtain ⟨hv, hz, ha⟩ := hv
    have e1 : (f_Y0_enact S ((grC S x0 0).getD 0) (15 : Int32) x1 (0 : Int32) (0 : Int32) (0 : Int32)).2.1 = u4.1.1 := by rw [← hv]
    have e2 : (f_Y0_enact S ((grC S x0 0).getD 0) (15 : Int32) x1 (0 : Int32) (0 : Int32) (0 : Int32)).2.2.1 = u4.1.2.1 := by rw [← hv]
    refine cCells (cells' := u4.1.1 - S0.1) (slots' := u4.1.2.1 - S0.2.1) (by have := hZ.1.1.1; have := hy2.1; omega) (by have := hZ.1.1.2; have := hy2.2; omega) ?_
    rw [← ha x0 (k_x0.n hZ.1).1] at hl
    have hZ := hZ.n hz ha (by rw [← e1]; exact hy2.1.2) (by rw [← e2]; exact hy2.2.2)
    rw [← hv] at hE hp
    dsimp only at hE hp
    exact B_Y10_move_13a u4.1 u4.2 x1 r5 _ _ _ hE hp hZ hP hD hS (lv_sub hl [0, 1] rfl)
  exact cCells (Nat.sub_self _).symm (Nat.sub_self _).symm (B_M S0 ad0 a1 _ _ _ hX hp (nH.rf S0 ad0 k_l) hP hD hS hl)
theorem gdX10_second_0 : ckS (List.drop 0 cX10_second.data.toList) 0 [(0, .aload_n 0, 1), (1, .getfield 10, 3), (4, .bipush 16, 2), (6, .iload_n 1, 1), (7, .iconst 0, 1), (8, .iconst 0, 1), (9, .iconst 0, 1), (10, .invokevirtual 32, 3), (13, .ireturn, 1)] = true := by decide +kernel
theorem dX10_second_0 : decode cX10_second 0 = .ok (.aload_n 0, 1) := ckS_g gdX10_second_0 0 rfl
theorem dX10_second_1 : decode cX10_second 1 = .ok (.getfield 10, 3) := ckS_g gdX10_second_0 1 rfl
theorem dX10_second_4 : decode cX10_second 4 = .ok (.bipush 16, 2) := ckS_g gdX10_second_0 2 rfl
theorem dX10_second_6 : decode cX10_second 6 = .ok (.iload_n 1, 1) := ckS_g gdX10_second_0 3 rfl
theorem dX10_second_7 : decode cX10_second 7 = .ok (.iconst 0, 1) := ckS_g gdX10_second_0 4 rfl
theorem dX10_second_8 : decode cX10_second 8 = .ok (.iconst 0, 1) := ckS_g gdX10_second_0 5 rfl
theorem dX10_second_9 : decode cX10_second 9 = .ok (.iconst 0, 1) := ckS_g gdX10_second_0 6 rfl
theorem dX10_second_10 : decode cX10_second 10 = .ok (.invokevirtual 32, 3) := ckS_g gdX10_second_0 7 rfl
theorem dX10_second_13 : decode cX10_second 13 = .ok (.ireturn, 1) := ckS_g gdX10_second_0 8 rfl
set_option maxRecDepth 100000 in
theorem zc709 : wZ (.code yX10_second cX10_second 2 (some .int)) := ⟨wT4 (List.mem_of_getElem? (i := 87) rfl), Or.inl rfl⟩
def b_Y10_second_13a (S : Cst) (x0 : Nat) (x1 : Int32) (y0 : Int32) : Int32 × Cst := (y0, S)
def q_Y10_second_13a (S : Cst) (x0 : Nat) (lc : Nat) (ls : Nat) (x1 : Int32) (y0 : Int32) : Prop := True
def f_Y10_second (S : Cst) (x0 : Nat) (x1 : Int32) : Int32 × Cst := (b_Y10_second_13a ((f_Y0_enact S ((grC S x0 0).getD 0) (16 : Int32) x1 (0 : Int32) (0 : Int32) (0 : Int32)).2) x0 x1 ((f_Y0_enact S ((grC S x0 0).getD 0) (16 : Int32) x1 (0 : Int32) (0 : Int32) (0 : Int32)).1))
def p_Y10_second (S : Cst) (x0 : Nat) (lc : Nat) (ls : Nat) (x1 : Int32) : Prop := (iR S (grC S x0 0) 0) ∧ ((S.1 ≤ (f_Y0_enact S ((grC S x0 0).getD 0) (16 : Int32) x1 (0 : Int32) (0 : Int32) (0 : Int32)).2.1 ∧ (f_Y0_enact S ((grC S x0 0).getD 0) (16 : Int32) x1 (0 : Int32) (0 : Int32) (0 : Int32)).2.1 ≤ lc) ∧ (S.2.1 ≤ (f_Y0_enact S ((grC S x0 0).getD 0) (16 : Int32) x1 (0 : Int32) (0 : Int32) (0 : Int32)).2.2.1 ∧ (f_Y0_enact S ((grC S x0 0).getD 0) (16 : Int32) x1 (0 : Int32) (0 : Int32) (0 : Int32)).2.2.1 ≤ ls)) ∧ (p_Y0_enact S ((grC S x0 0).getD 0) (f_Y0_enact S ((grC S x0 0).getD 0) (16 : Int32) x1 (0 : Int32) (0 : Int32) (0 : Int32)).2.1 (f_Y0_enact S ((grC S x0 0).getD 0) (16 : Int32) x1 (0 : Int32) (0 : Int32) (0 : Int32)).2.2.1 (16 : Int32) x1 (0 : Int32) (0 : Int32) (0 : Int32)) ∧ (q_Y10_second_13a ((f_Y0_enact S ((grC S x0 0).getD 0) (16 : Int32) x1 (0 : Int32) (0 : Int32) (0 : Int32)).2) x0 lc ls x1 ((f_Y0_enact S ((grC S x0 0).getD 0) (16 : Int32) x1 (0 : Int32) (0 : Int32) (0 : Int32)).1))
def e_Y10_second : List Cond := [.fieldLink RX10 10 "MotionFloor" "now" "LMotionFloor$Assembly;", .methodLink RX10 32 yX0_enact, .instanceMethod yX0_enact, .selects RX0 yX0_enact yX0_enact, .initialized RX0]
def v_Y10_second : List Cond := .code yX10_second cX10_second 2 (some .int) :: (e_Y10_second ++ (wsX100 ++ (v_Y0_enact ++ [])))
theorem te_Y10_second : GoodIn lw_tbl e_Y10_second := wGc zc496 (wGc zc693 (wGc zc692 (wGc zc691 (wGc zc39 (wG0)))))
theorem t_Y10_second : GoodIn lw_tbl v_Y10_second := wGc zc709 (wGa te_Y10_second (wGa zcX10 (wGa t_Y0_enact (wG0))))
set_option maxHeartbeats 4000000 in
set_option maxRecDepth 100000 in
theorem c_Y10_second (l : Launch) (G : va_G) (K : Nat → ClassId) (ad0 : Nat → Nat) (S0 : Cst) (x0 : Nat) (lc : Nat) (ls : Nat) (a1 : Int32) (sz : Nat) : Met l yX10_second v_Y10_second ({ frames := 8, cells := lc - S0.1, slots := ls - S0.2.1, locals := 226 }) (va_Pc [.ref (ad0 x0), .int a1] (cSt G K ad0 sz S0 ((S0.1 ≤ lc ∧ S0.2.1 ≤ ls) ∧ iK S0 x0 7 ∧ p_Y10_second S0 x0 lc ls a1))) (va_Qi (fun (r : Int32) (u : Cst × (Nat → Nat)) => (r, u.1) = f_Y10_second S0 x0 a1 ∧ eN S0 u.1 ∧ (∀ q, q < S0.1 → u.2 q = ad0 q)) (fun u t => cBt G K u.2 (va_A (wsC K ad0 S0) sz) u.1 t) (va_A (wsC K ad0 S0) sz)) (lc - S0.1) (ls - S0.2.1) (va_A (wsC K ad0 S0) sz) := by
  refine Met.ofW (cc := cX10_second) (maxL := 2) (ret := (some .int)) (by decide) rfl ?_
  intro p e s m args below meth c s₁ B hml hv
  obtain ⟨rfl, ⟨hsz, hP, hK, hD0, hTE⟩, hp⟩ := hv
  obtain ⟨k_l, hp⟩ := hp
  obtain ⟨k_x0, hp⟩ := hp
  have hx := B.exec
  have hb := B.bytes
  have hr := B.returns
  have hts := atoms_spec (ws := v_Y10_second) B.pre
  have t_ := t_Y10_second
  have mw : ∀ w ∈ e_Y10_second, w ∈ v_Y10_second := fun w h => List.mem_cons_of_mem _ (List.mem_append_left _ h)
  have hw := fun w (h : w ∈ e_Y10_second) => hts w (mw w h)
  have iX10 : ∀ w ∈ wsX100, w ∈ v_Y10_second := fun w h => List.mem_cons_of_mem _ (List.mem_append_right _ (List.mem_append_left _ h))
  have j_Y0_enact : ∀ w ∈ v_Y0_enact, w ∈ v_Y10_second := fun w h => List.mem_cons_of_mem _ (List.mem_append_right _ (List.mem_append_right _ (List.mem_append_left _ h)))
  have hown : s.vm.findClass RX10 = some m.cls := findClass_of_methodNamed B.named
  have hlocks := B.notSynchronized
  subst hsz
  have hD := hD0.self (sz := s.heap.size)
  generalize hAe : va_A (wsC K ad0 S0) s.heap.size = A at hD ⊢
  have hA : ∀ q : Nat, s.heap.size ≤ q → A q := fun q h => by rw [← hAe]; exact Or.inr h
  have hS : va_S A s.heap s.heap [] := va_S.rf
  have hl : lv_has (lg_sl ([.ref (ad0 x0), .int a1]) ++ List.replicate (2 - (lg_sl ([.ref (ad0 x0), .int a1])).length) Slot.unset).toArray 2 [(0, .ref (ad0 x0)), (1, .int a1)] := by
    exact lv_entry ([.ref (ad0 x0), .int a1]) (n := 2) (Nat.le_of_ble_eq_true rfl)
  rw [lg_entry_eq]
  generalize (lg_sl ([.ref (ad0 x0), .int a1]) ++ List.replicate (2 - (lg_sl ([.ref (ad0 x0), .int a1])).length) Slot.unset).toArray = ls_ at hl ⊢
  refine wGen (fun Q hQ => ?_)
  obtain ⟨X, hX⟩ : ∃ X, f_Y10_second S0 x0 a1 = X := ⟨_, rfl⟩
  have B_Y10_second_13a : ∀ (S : Cst) (ad : Nat → Nat) (x1 : Int32) (y0 : Int32) (H : Heap) (locs : List Loc) (ls_ : Array Slot), b_Y10_second_13a S x0 x1 y0 = X → q_Y10_second_13a S x0 lc ls x1 y0 → nH S0 ad0 lc ls S ad → va_P G vwCl (wsC K ad S) H → va_D A (wsC K ad S) → va_S A s.heap H locs → lv_has ls_ 2 [(0, .ref (ad x0)), (1, .int x1)] → W p l e ({ frames := 8, cells := lc - S0.1, slots := ls - S0.2.1, locals := 226 } : Room) s m #[Value.ref (ad0 x0), Value.int a1] below meth c H locs (S.1 - S0.1) (S.2.1 - S0.2.1) Q (F0 m 13 ls_ [.int y0]) := by
    intro S ad x1 y0 H locs ls_ hE hp hZ hP hD hS hl
    unfold b_Y10_second_13a at hE
    unfold q_Y10_second_13a at hp
    refine W.widen (k := lc - S0.1) (n := ls - S0.2.1) (show S.1 - S0.1 ≤ lc - S0.1 from Nat.sub_le_sub_right hZ.2.2.1 _) (show S.2.1 - S0.2.1 ≤ ls - S0.2.1 from Nat.sub_le_sub_right hZ.2.2.2 _) ?_
    subst hQ
    exact W.iret (v := y0) hx hb hr (fun t ht hW => ⟨⟨y0, (S, ad), rfl, ⟨hE.trans hX.symm, hZ.1, hZ.2.1⟩, by rw [ht]; exact hP, hD⟩, hS.F ht⟩) hS.2.2 dX10_second_13
  have B_M : ∀ (S : Cst) (ad : Nat → Nat) (x1 : Int32) (H : Heap) (locs : List Loc) (ls_ : Array Slot), f_Y10_second S x0 x1 = X → p_Y10_second S x0 lc ls x1 → nH S0 ad0 lc ls S ad → va_P G vwCl (wsC K ad S) H → va_D A (wsC K ad S) → va_S A s.heap H locs → lv_has ls_ 2 [(0, .ref (ad x0)), (1, .int x1)] → W p l e ({ frames := 8, cells := lc - S0.1, slots := ls - S0.2.1, locals := 226 } : Room) s m #[Value.ref (ad0 x0), Value.int a1] below meth c H locs (S.1 - S0.1) (S.2.1 - S0.2.1) Q (F0 m 0 ls_ []) := by
    intro S ad x1 H locs ls_ hE hp hZ hP hD hS hl
    unfold f_Y10_second at hE
    unfold p_Y10_second at hp
    refine lv_aload_n hx hb dX10_second_0 rfl (lv_at hl 0 rfl) ?_
    refine va_get (D := G) (ci := 7) (v := va_re ad (grC S x0 0)) (C := RX10) (T := TX10) (N := 5) hx hb hts iX10 hown hK hP x0 (at_7 (k_x0.n hZ.1)) rfl 0 (by decide) (hw (.fieldLink RX10 10 "MotionFloor" "now" "LMotionFloor$Assembly;") (List.mem_of_getElem? (i := 0) rfl)) (fun _ h9 => h9) rfl dX10_second_1 ?_
    refine lv_bipush (v := 16) hx hb dX10_second_4 (by decide) ?_
    refine lv_iload_n hx hb dX10_second_6 rfl (lv_at hl 1 rfl) ?_
    refine lv_iconst (v := 0) hx hb dX10_second_7 (by decide) ?_
    refine lv_iconst (v := 0) hx hb dX10_second_8 (by decide) ?_
    refine lv_iconst (v := 0) hx hb dX10_second_9 (by decide) ?_
    obtain ⟨hy1, hp⟩ := hp
    refine cTop6 (r := (grC S x0 0)) hy1.1 ?_
    obtain ⟨hy2, hp⟩ := hp
    obtain ⟨hy3, hp⟩ := hp
    refine cNoi (va_runV (As := [.int 16, .int x1, .int 0, .int 0, .int 0]) (rest := []) ⟨hx, hb, hml, hown, hts⟩ (c_Y0_enact l G K ad S ((grC S x0 0).getD 0) (f_Y0_enact S ((grC S x0 0).getD 0) (16 : Int32) x1 (0 : Int32) (0 : Int32) (0 : Int32)).2.1 (f_Y0_enact S ((grC S x0 0).getD 0) (16 : Int32) x1 (0 : Int32) (0 : Int32) (0 : Int32)).2.2.1 (16 : Int32) x1 (0 : Int32) (0 : Int32) (0 : Int32) _) (cwV 5 hts (wGV t_ (mw (.methodLink RX10 32 yX0_enact) (List.mem_of_getElem? (i := 1) rfl)) (mw (.instanceMethod yX0_enact) (List.mem_of_getElem? (i := 2) rfl)) (mw (.selects RX0 yX0_enact yX0_enact) (List.mem_of_getElem? (i := 3) rfl)) (mw (.initialized RX0) (List.mem_of_getElem? (i := 4) rfl)) j_Y0_enact) rfl rfl rfl (by decide +kernel) ⟨Nat.le_of_ble_eq_true rfl, Nat.le_of_ble_eq_true rfl⟩) (cPV hK hTE hP hD 0 rfl (at_0 hy1.2) ⟨⟨hy2.1.1, hy2.2.1⟩, hy1.2, hy3⟩) rfl rfl hl.1 rfl (lv_room (Nat.le_of_ble_eq_true rfl)) dX10_second_10 ⟨by show _ ≤ lc - S0.1; have := hZ.1.1.1; have := hy2.1; omega, by show _ ≤ ls - S0.2.1; have := hZ.1.1.2; have := hy2.2; omega⟩) hP hD hS hA (fun r5 u4 H locs hv hP hD hS => ?_)
    obtain ⟨hv, hz, ha⟩ := hv
    have e1 : (f_Y0_enact S ((grC S x0 0).getD 0) (16 : Int32) x1 (0 : Int32) (0 : Int32) (0 : Int32)).2.1 = u4.1.1 := by rw [← hv]
    have e2 : (f_Y0_enact S ((grC S x0 0).getD 0) (16 : Int32) x1 (0 : Int32) (0 : Int32) (0 : Int32)).2.2.1 = u4.1.2.1 := by rw [← hv]
    refine cCells (cells' := u4.1.1 - S0.1) (slots' := u4.1.2.1 - S0.2.1) (by have := hZ.1.1.1; have := hy2.1; omega) (by have := hZ.1.1.2; have := hy2.2; omega) ?_
    rw [← ha x0 (k_x0.n hZ.1).1] at hl
    have hZ := hZ.n hz ha (by rw [← e1]; exact hy2.1.2) (by rw [← e2]; exact hy2.2.2)
    rw [← hv] at hE hp
    dsimp only at hE hp
    exact B_Y10_second_13a u4.1 u4.2 x1 r5 _ _ _ hE hp hZ hP hD hS (lv_sub hl [0, 1] rfl)
  exact cCells (Nat.sub_self _).symm (Nat.sub_self _).symm (B_M S0 ad0 a1 _ _ _ hX hp (nH.rf S0 ad0 k_l) hP hD hS hl)
theorem gdX10_vote_0 : ckS (List.drop 0 cX10_vote.data.toList) 0 [(0, .aload_n 0, 1), (1, .getfield 10, 3), (4, .bipush 17, 2), (6, .iload_n 1, 1), (7, .iload_n 2, 1), (8, .iconst 0, 1), (9, .iconst 0, 1), (10, .invokevirtual 32, 3), (13, .ireturn, 1)] = true := by decide +kernel
theorem dX10_vote_0 : decode cX10_vote 0 = .ok (.aload_n 0, 1) := ckS_g gdX10_vote_0 0 rfl
theorem dX10_vote_1 : decode cX10_vote 1 = .ok (.getfield 10, 3) := ckS_g gdX10_vote_0 1 rfl
theorem dX10_vote_4 : decode cX10_vote 4 = .ok (.bipush 17, 2) := ckS_g gdX10_vote_0 2 rfl
theorem dX10_vote_6 : decode cX10_vote 6 = .ok (.iload_n 1, 1) := ckS_g gdX10_vote_0 3 rfl
theorem dX10_vote_7 : decode cX10_vote 7 = .ok (.iload_n 2, 1) := ckS_g gdX10_vote_0 4 rfl
theorem dX10_vote_8 : decode cX10_vote 8 = .ok (.iconst 0, 1) := ckS_g gdX10_vote_0 5 rfl
theorem dX10_vote_9 : decode cX10_vote 9 = .ok (.iconst 0, 1) := ckS_g gdX10_vote_0 6 rfl
theorem dX10_vote_10 : decode cX10_vote 10 = .ok (.invokevirtual 32, 3) := ckS_g gdX10_vote_0 7 rfl
theorem dX10_vote_13 : decode cX10_vote 13 = .ok (.ireturn, 1) := ckS_g gdX10_vote_0 8 rfl
set_option maxRecDepth 100000 in
theorem zc710 : wZ (.code yX10_vote cX10_vote 3 (some .int)) := ⟨wT4 (List.mem_of_getElem? (i := 91) rfl), Or.inl rfl⟩
def b_Y10_vote_13a (S : Cst) (x0 : Nat) (x1 : Int32) (x2 : Int32) (y0 : Int32) : Int32 × Cst := (y0, S)
def q_Y10_vote_13a (S : Cst) (x0 : Nat) (lc : Nat) (ls : Nat) (x1 : Int32) (x2 : Int32) (y0 : Int32) : Prop := True
def f_Y10_vote (S : Cst) (x0 : Nat) (x1 : Int32) (x2 : Int32) : Int32 × Cst := (b_Y10_vote_13a ((f_Y0_enact S ((grC S x0 0).getD 0) (17 : Int32) x1 x2 (0 : Int32) (0 : Int32)).2) x0 x1 x2 ((f_Y0_enact S ((grC S x0 0).getD 0) (17 : Int32) x1 x2 (0 : Int32) (0 : Int32)).1))
def p_Y10_vote (S : Cst) (x0 : Nat) (lc : Nat) (ls : Nat) (x1 : Int32) (x2 : Int32) : Prop := (iR S (grC S x0 0) 0) ∧ ((S.1 ≤ (f_Y0_enact S ((grC S x0 0).getD 0) (17 : Int32) x1 x2 (0 : Int32) (0 : Int32)).2.1 ∧ (f_Y0_enact S ((grC S x0 0).getD 0) (17 : Int32) x1 x2 (0 : Int32) (0 : Int32)).2.1 ≤ lc) ∧ (S.2.1 ≤ (f_Y0_enact S ((grC S x0 0).getD 0) (17 : Int32) x1 x2 (0 : Int32) (0 : Int32)).2.2.1 ∧ (f_Y0_enact S ((grC S x0 0).getD 0) (17 : Int32) x1 x2 (0 : Int32) (0 : Int32)).2.2.1 ≤ ls)) ∧ (p_Y0_enact S ((grC S x0 0).getD 0) (f_Y0_enact S ((grC S x0 0).getD 0) (17 : Int32) x1 x2 (0 : Int32) (0 : Int32)).2.1 (f_Y0_enact S ((grC S x0 0).getD 0) (17 : Int32) x1 x2 (0 : Int32) (0 : Int32)).2.2.1 (17 : Int32) x1 x2 (0 : Int32) (0 : Int32)) ∧ (q_Y10_vote_13a ((f_Y0_enact S ((grC S x0 0).getD 0) (17 : Int32) x1 x2 (0 : Int32) (0 : Int32)).2) x0 lc ls x1 x2 ((f_Y0_enact S ((grC S x0 0).getD 0) (17 : Int32) x1 x2 (0 : Int32) (0 : Int32)).1))
def e_Y10_vote : List Cond := [.fieldLink RX10 10 "MotionFloor" "now" "LMotionFloor$Assembly;", .methodLink RX10 32 yX0_enact, .instanceMethod yX0_enact, .selects RX0 yX0_enact yX0_enact, .initialized RX0]
def v_Y10_vote : List Cond := .code yX10_vote cX10_vote 3 (some .int) :: (e_Y10_vote ++ (wsX100 ++ (v_Y0_enact ++ [])))
theorem te_Y10_vote : GoodIn lw_tbl e_Y10_vote := wGc zc496 (wGc zc693 (wGc zc692 (wGc zc691 (wGc zc39 (wG0)))))
theorem t_Y10_vote : GoodIn lw_tbl v_Y10_vote := wGc zc710 (wGa te_Y10_vote (wGa zcX10 (wGa t_Y0_enact (wG0))))
set_option maxHeartbeats 4000000 in
set_option maxRecDepth 100000 in
theorem c_Y10_vote (l : Launch) (G : va_G) (K : Nat → ClassId) (ad0 : Nat → Nat) (S0 : Cst) (x0 : Nat) (lc : Nat) (ls : Nat) (a1 : Int32) (a2 : Int32) (sz : Nat) : Met l yX10_vote v_Y10_vote ({ frames := 8, cells := lc - S0.1, slots := ls - S0.2.1, locals := 226 }) (va_Pc [.ref (ad0 x0), .int a1, .int a2] (cSt G K ad0 sz S0 ((S0.1 ≤ lc ∧ S0.2.1 ≤ ls) ∧ iK S0 x0 7 ∧ p_Y10_vote S0 x0 lc ls a1 a2))) (va_Qi (fun (r : Int32) (u : Cst × (Nat → Nat)) => (r, u.1) = f_Y10_vote S0 x0 a1 a2 ∧ eN S0 u.1 ∧ (∀ q, q < S0.1 → u.2 q = ad0 q)) (fun u t => cBt G K u.2 (va_A (wsC K ad0 S0) sz) u.1 t) (va_A (wsC K ad0 S0) sz)) (lc - S0.1) (ls - S0.2.1) (va_A (wsC K ad0 S0) sz) := by
  refine Met.ofW (cc := cX10_vote) (maxL := 3) (ret := (some .int)) (by decide) rfl ?_
  intro p e s m args below meth c s₁ B hml hv
  obtain ⟨rfl, ⟨hsz, hP, hK, hD0, hTE⟩, hp⟩ := hv
  obtain ⟨k_l, hp⟩ := hp
  obtain ⟨k_x0, hp⟩ := hp
  have hx := B.exec
  have hb := B.bytes
  have hr := B.returns
  have hts := atoms_spec (ws := v_Y10_vote) B.pre
  have t_ := t_Y10_vote
  have mw : ∀ w ∈ e_Y10_vote, w ∈ v_Y10_vote := fun w h => List.mem_cons_of_mem _ (List.mem_append_left _ h)
  have hw := fun w (h : w ∈ e_Y10_vote) => hts w (mw w h)
  have iX10 : ∀ w ∈ wsX100, w ∈ v_Y10_vote := fun w h => List.mem_cons_of_mem _ (List.mem_append_right _ (List.mem_append_left _ h))
  have j_Y0_enact : ∀ w ∈ v_Y0_enact, w ∈ v_Y10_vote := fun w h => List.mem_cons_of_mem _ (List.mem_append_right _ (List.mem_append_right _ (List.mem_append_left _ h)))
  have hown : s.vm.findClass RX10 = some m.cls := findClass_of_methodNamed B.named
  have hlocks := B.notSynchronized
  subst hsz
  have hD := hD0.self (sz := s.heap.size)
  generalize hAe : va_A (wsC K ad0 S0) s.heap.size = A at hD ⊢
  have hA : ∀ q : Nat, s.heap.size ≤ q → A q := fun q h => by rw [← hAe]; exact Or.inr h
  have hS : va_S A s.heap s.heap [] := va_S.rf
  have hl : lv_has (lg_sl ([.ref (ad0 x0), .int a1, .int a2]) ++ List.replicate (3 - (lg_sl ([.ref (ad0 x0), .int a1, .int a2])).length) Slot.unset).toArray 3 [(0, .ref (ad0 x0)), (1, .int a1), (2, .int a2)] := by
    exact lv_entry ([.ref (ad0 x0), .int a1, .int a2]) (n := 3) (Nat.le_of_ble_eq_true rfl)
  rw [lg_entry_eq]
  generalize (lg_sl ([.ref (ad0 x0), .int a1, .int a2]) ++ List.replicate (3 - (lg_sl ([.ref (ad0 x0), .int a1, .int a2])).length) Slot.unset).toArray = ls_ at hl ⊢
  refine wGen (fun Q hQ => ?_)
  obtain ⟨X, hX⟩ : ∃ X, f_Y10_vote S0 x0 a1 a2 = X := ⟨_, rfl⟩
  have B_Y10_vote_13a : ∀ (S : Cst) (ad : Nat → Nat) (x1 : Int32) (x2 : Int32) (y0 : Int32) (H : Heap) (locs : List Loc) (ls_ : Array Slot), b_Y10_vote_13a S x0 x1 x2 y0 = X → q_Y10_vote_13a S x0 lc ls x1 x2 y0 → nH S0 ad0 lc ls S ad → va_P G vwCl (wsC K ad S) H → va_D A (wsC K ad S) → va_S A s.heap H locs → lv_has ls_ 3 [(0, .ref (ad x0)), (1, .int x1), (2, .int x2)] → W p l e ({ frames := 8, cells := lc - S0.1, slots := ls - S0.2.1, locals := 226 } : Room) s m #[Value.ref (ad0 x0), Value.int a1, Value.int a2] below meth c H locs (S.1 - S0.1) (S.2.1 - S0.2.1) Q (F0 m 13 ls_ [.int y0]) := by
    intro S ad x1 x2 y0 H locs ls_ hE hp hZ hP hD hS hl
    unfold b_Y10_vote_13a at hE
    unfold q_Y10_vote_13a at hp
    refine W.widen (k := lc - S0.1) (n := ls - S0.2.1) (show S.1 - S0.1 ≤ lc - S0.1 from Nat.sub_le_sub_right hZ.2.2.1 _) (show S.2.1 - S0.2.1 ≤ ls - S0.2.1 from Nat.sub_le_sub_right hZ.2.2.2 _) ?_
    subst hQ
    exact W.iret (v := y0) hx hb hr (fun t ht hW => ⟨⟨y0, (S, ad), rfl, ⟨hE.trans hX.symm, hZ.1, hZ.2.1⟩, by rw [ht]; exact hP, hD⟩, hS.F ht⟩) hS.2.2 dX10_vote_13
  have B_M : ∀ (S : Cst) (ad : Nat → Nat) (x1 : Int32) (x2 : Int32) (H : Heap) (locs : List Loc) (ls_ : Array Slot), f_Y10_vote S x0 x1 x2 = X → p_Y10_vote S x0 lc ls x1 x2 → nH S0 ad0 lc ls S ad → va_P G vwCl (wsC K ad S) H → va_D A (wsC K ad S) → va_S A s.heap H locs → lv_has ls_ 3 [(0, .ref (ad x0)), (1, .int x1), (2, .int x2)] → W p l e ({ frames := 8, cells := lc - S0.1, slots := ls - S0.2.1, locals := 226 } : Room) s m #[Value.ref (ad0 x0), Value.int a1, Value.int a2] below meth c H locs (S.1 - S0.1) (S.2.1 - S0.2.1) Q (F0 m 0 ls_ []) := by
    intro S ad x1 x2 H locs ls_ hE hp hZ hP hD hS hl
    unfold f_Y10_vote at hE
    unfold p_Y10_vote at hp
    refine lv_aload_n hx hb dX10_vote_0 rfl (lv_at hl 0 rfl) ?_
    refine va_get (D := G) (ci := 7) (v := va_re ad (grC S x0 0)) (C := RX10) (T := TX10) (N := 5) hx hb hts iX10 hown hK hP x0 (at_7 (k_x0.n hZ.1)) rfl 0 (by decide) (hw (.fieldLink RX10 10 "MotionFloor" "now" "LMotionFloor$Assembly;") (List.mem_of_getElem? (i := 0) rfl)) (fun _ h9 => h9) rfl dX10_vote_1 ?_
    refine lv_bipush (v := 17) hx hb dX10_vote_4 (by decide) ?_
    refine lv_iload_n hx hb dX10_vote_6 rfl (lv_at hl 1 rfl) ?_
    refine lv_iload_n hx hb dX10_vote_7 rfl (lv_at hl 2 rfl) ?_
    refine lv_iconst (v := 0) hx hb dX10_vote_8 (by decide) ?_
    refine lv_iconst (v := 0) hx hb dX10_vote_9 (by decide) ?_
    obtain ⟨hy1, hp⟩ := hp
    refine cTop6 (r := (grC S x0 0)) hy1.1 ?_
    obtain ⟨hy2, hp⟩ := hp
    obtain ⟨hy3, hp⟩ := hp
    refine cNoi (va_runV (As := [.int 17, .int x1, .int x2, .int 0, .int 0]) (rest := []) ⟨hx, hb, hml, hown, hts⟩ (c_Y0_enact l G K ad S ((grC S x0 0).getD 0) (f_Y0_enact S ((grC S x0 0).getD 0) (17 : Int32) x1 x2 (0 : Int32) (0 : Int32)).2.1 (f_Y0_enact S ((grC S x0 0).getD 0) (17 : Int32) x1 x2 (0 : Int32) (0 : Int32)).2.2.1 (17 : Int32) x1 x2 (0 : Int32) (0 : Int32) _) (cwV 5 hts (wGV t_ (mw (.methodLink RX10 32 yX0_enact) (List.mem_of_getElem? (i := 1) rfl)) (mw (.instanceMethod yX0_enact) (List.mem_of_getElem? (i := 2) rfl)) (mw (.selects RX0 yX0_enact yX0_enact) (List.mem_of_getElem? (i := 3) rfl)) (mw (.initialized RX0) (List.mem_of_getElem? (i := 4) rfl)) j_Y0_enact) rfl rfl rfl (by decide +kernel) ⟨Nat.le_of_ble_eq_true rfl, Nat.le_of_ble_eq_true rfl⟩) (cPV hK hTE hP hD 0 rfl (at_0 hy1.2) ⟨⟨hy2.1.1, hy2.2.1⟩, hy1.2, hy3⟩) rfl rfl hl.1 rfl (lv_room (Nat.le_of_ble_eq_true rfl)) dX10_vote_10 ⟨by show _ ≤ lc - S0.1; have := hZ.1.1.1; have := hy2.1; omega, by show _ ≤ ls - S0.2.1; have := hZ.1.1.2; have := hy2.2; omega⟩) hP hD hS hA (fun r5 u4 H locs hv hP hD hS => ?_)
    obtain ⟨hv, hz, ha⟩ := hv
    have e1 : (f_Y0_enact S ((grC S x0 0).getD 0) (17 : Int32) x1 x2 (0 : Int32) (0 : Int32)).2.1 = u4.1.1 := by rw [← hv]
    have e2 : (f_Y0_enact S ((grC S x0 0).getD 0) (17 : Int32) x1 x2 (0 : Int32) (0 : Int32)).2.2.1 = u4.1.2.1 := by rw [← hv]
    refine cCells (cells' := u4.1.1 - S0.1) (slots' := u4.1.2.1 - S0.2.1) (by have := hZ.1.1.1; have := hy2.1; omega) (by have := hZ.1.1.2; have := hy2.2; omega) ?_
    rw [← ha x0 (k_x0.n hZ.1).1] at hl
    have hZ := hZ.n hz ha (by rw [← e1]; exact hy2.1.2) (by rw [← e2]; exact hy2.2.2)
    rw [← hv] at hE hp
    dsimp only at hE hp
    exact B_Y10_vote_13a u4.1 u4.2 x1 x2 r5 _ _ _ hE hp hZ hP hD hS (lv_sub hl [0, 1, 2] rfl)
  exact cCells (Nat.sub_self _).symm (Nat.sub_self _).symm (B_M S0 ad0 a1 a2 _ _ _ hX hp (nH.rf S0 ad0 k_l) hP hD hS hl)
theorem gdX10_withdraw_0 : ckS (List.drop 0 cX10_withdraw.data.toList) 0 [(0, .aload_n 0, 1), (1, .getfield 10, 3), (4, .bipush 18, 2), (6, .iload_n 1, 1), (7, .iconst 0, 1), (8, .iconst 0, 1), (9, .iconst 0, 1), (10, .invokevirtual 32, 3), (13, .ireturn, 1)] = true := by decide +kernel
theorem dX10_withdraw_0 : decode cX10_withdraw 0 = .ok (.aload_n 0, 1) := ckS_g gdX10_withdraw_0 0 rfl
theorem dX10_withdraw_1 : decode cX10_withdraw 1 = .ok (.getfield 10, 3) := ckS_g gdX10_withdraw_0 1 rfl
theorem dX10_withdraw_4 : decode cX10_withdraw 4 = .ok (.bipush 18, 2) := ckS_g gdX10_withdraw_0 2 rfl
theorem dX10_withdraw_6 : decode cX10_withdraw 6 = .ok (.iload_n 1, 1) := ckS_g gdX10_withdraw_0 3 rfl
theorem dX10_withdraw_7 : decode cX10_withdraw 7 = .ok (.iconst 0, 1) := ckS_g gdX10_withdraw_0 4 rfl
theorem dX10_withdraw_8 : decode cX10_withdraw 8 = .ok (.iconst 0, 1) := ckS_g gdX10_withdraw_0 5 rfl
theorem dX10_withdraw_9 : decode cX10_withdraw 9 = .ok (.iconst 0, 1) := ckS_g gdX10_withdraw_0 6 rfl
theorem dX10_withdraw_10 : decode cX10_withdraw 10 = .ok (.invokevirtual 32, 3) := ckS_g gdX10_withdraw_0 7 rfl
theorem dX10_withdraw_13 : decode cX10_withdraw 13 = .ok (.ireturn, 1) := ckS_g gdX10_withdraw_0 8 rfl
set_option maxRecDepth 100000 in
theorem zc711 : wZ (.code yX10_withdraw cX10_withdraw 2 (some .int)) := ⟨wT4 (List.mem_of_getElem? (i := 95) rfl), Or.inl rfl⟩
def b_Y10_withdraw_13a (S : Cst) (x0 : Nat) (x1 : Int32) (y0 : Int32) : Int32 × Cst := (y0, S)
def q_Y10_withdraw_13a (S : Cst) (x0 : Nat) (lc : Nat) (ls : Nat) (x1 : Int32) (y0 : Int32) : Prop := True
def f_Y10_withdraw (S : Cst) (x0 : Nat) (x1 : Int32) : Int32 × Cst := (b_Y10_withdraw_13a ((f_Y0_enact S ((grC S x0 0).getD 0) (18 : Int32) x1 (0 : Int32) (0 : Int32) (0 : Int32)).2) x0 x1 ((f_Y0_enact S ((grC S x0 0).getD 0) (18 : Int32) x1 (0 : Int32) (0 : Int32) (0 : Int32)).1))
def p_Y10_withdraw (S : Cst) (x0 : Nat) (lc : Nat) (ls : Nat) (x1 : Int32) : Prop := (iR S (grC S x0 0) 0) ∧ ((S.1 ≤ (f_Y0_enact S ((grC S x0 0).getD 0) (18 : Int32) x1 (0 : Int32) (0 : Int32) (0 : Int32)).2.1 ∧ (f_Y0_enact S ((grC S x0 0).getD 0) (18 : Int32) x1 (0 : Int32) (0 : Int32) (0 : Int32)).2.1 ≤ lc) ∧ (S.2.1 ≤ (f_Y0_enact S ((grC S x0 0).getD 0) (18 : Int32) x1 (0 : Int32) (0 : Int32) (0 : Int32)).2.2.1 ∧ (f_Y0_enact S ((grC S x0 0).getD 0) (18 : Int32) x1 (0 : Int32) (0 : Int32) (0 : Int32)).2.2.1 ≤ ls)) ∧ (p_Y0_enact S ((grC S x0 0).getD 0) (f_Y0_enact S ((grC S x0 0).getD 0) (18 : Int32) x1 (0 : Int32) (0 : Int32) (0 : Int32)).2.1 (f_Y0_enact S ((grC S x0 0).getD 0) (18 : Int32) x1 (0 : Int32) (0 : Int32) (0 : Int32)).2.2.1 (18 : Int32) x1 (0 : Int32) (0 : Int32) (0 : Int32)) ∧ (q_Y10_withdraw_13a ((f_Y0_enact S ((grC S x0 0).getD 0) (18 : Int32) x1 (0 : Int32) (0 : Int32) (0 : Int32)).2) x0 lc ls x1 ((f_Y0_enact S ((grC S x0 0).getD 0) (18 : Int32) x1 (0 : Int32) (0 : Int32) (0 : Int32)).1))
def e_Y10_withdraw : List Cond := [.fieldLink RX10 10 "MotionFloor" "now" "LMotionFloor$Assembly;", .methodLink RX10 32 yX0_enact, .instanceMethod yX0_enact, .selects RX0 yX0_enact yX0_enact, .initialized RX0]
def v_Y10_withdraw : List Cond := .code yX10_withdraw cX10_withdraw 2 (some .int) :: (e_Y10_withdraw ++ (wsX100 ++ (v_Y0_enact ++ [])))
theorem te_Y10_withdraw : GoodIn lw_tbl e_Y10_withdraw := wGc zc496 (wGc zc693 (wGc zc692 (wGc zc691 (wGc zc39 (wG0)))))
theorem t_Y10_withdraw : GoodIn lw_tbl v_Y10_withdraw := wGc zc711 (wGa te_Y10_withdraw (wGa zcX10 (wGa t_Y0_enact (wG0))))
set_option maxHeartbeats 4000000 in
set_option maxRecDepth 100000 in
theorem c_Y10_withdraw (l : Launch) (G : va_G) (K : Nat → ClassId) (ad0 : Nat → Nat) (S0 : Cst) (x0 : Nat) (lc : Nat) (ls : Nat) (a1 : Int32) (sz : Nat) : Met l yX10_withdraw v_Y10_withdraw ({ frames := 8, cells := lc - S0.1, slots := ls - S0.2.1, locals := 226 }) (va_Pc [.ref (ad0 x0), .int a1] (cSt G K ad0 sz S0 ((S0.1 ≤ lc ∧ S0.2.1 ≤ ls) ∧ iK S0 x0 7 ∧ p_Y10_withdraw S0 x0 lc ls a1))) (va_Qi (fun (r : Int32) (u : Cst × (Nat → Nat)) => (r, u.1) = f_Y10_withdraw S0 x0 a1 ∧ eN S0 u.1 ∧ (∀ q, q < S0.1 → u.2 q = ad0 q)) (fun u t => cBt G K u.2 (va_A (wsC K ad0 S0) sz) u.1 t) (va_A (wsC K ad0 S0) sz)) (lc - S0.1) (ls - S0.2.1) (va_A (wsC K ad0 S0) sz) := by
  refine Met.ofW (cc := cX10_withdraw) (maxL := 2) (ret := (some .int)) (by decide) rfl ?_
  intro p e s m args below meth c s₁ B hml hv
  obtain ⟨rfl, ⟨hsz, hP, hK, hD0, hTE⟩, hp⟩ := hv
  obtain ⟨k_l, hp⟩ := hp
  obtain ⟨k_x0, hp⟩ := hp
  have hx := B.exec
  have hb := B.bytes
  have hr := B.returns
  have hts := atoms_spec (ws := v_Y10_withdraw) B.pre
  have t_ := t_Y10_withdraw
  have mw : ∀ w ∈ e_Y10_withdraw, w ∈ v_Y10_withdraw := fun w h => List.mem_cons_of_mem _ (List.mem_append_left _ h)
  have hw := fun w (h : w ∈ e_Y10_withdraw) => hts w (mw w h)
  have iX10 : ∀ w ∈ wsX100, w ∈ v_Y10_withdraw := fun w h => List.mem_cons_of_mem _ (List.mem_append_right _ (List.mem_append_left _ h))
  have j_Y0_enact : ∀ w ∈ v_Y0_enact, w ∈ v_Y10_withdraw := fun w h => List.mem_cons_of_mem _ (List.mem_append_right _ (List.mem_append_right _ (List.mem_append_left _ h)))
  have hown : s.vm.findClass RX10 = some m.cls := findClass_of_methodNamed B.named
  have hlocks := B.notSynchronized
  subst hsz
  have hD := hD0.self (sz := s.heap.size)
  generalize hAe : va_A (wsC K ad0 S0) s.heap.size = A at hD ⊢
  have hA : ∀ q : Nat, s.heap.size ≤ q → A q := fun q h => by rw [← hAe]; exact Or.inr h
  have hS : va_S A s.heap s.heap [] := va_S.rf
  have hl : lv_has (lg_sl ([.ref (ad0 x0), .int a1]) ++ List.replicate (2 - (lg_sl ([.ref (ad0 x0), .int a1])).length) Slot.unset).toArray 2 [(0, .ref (ad0 x0)), (1, .int a1)] := by
    exact lv_entry ([.ref (ad0 x0), .int a1]) (n := 2) (Nat.le_of_ble_eq_true rfl)
  rw [lg_entry_eq]
  generalize (lg_sl ([.ref (ad0 x0), .int a1]) ++ List.replicate (2 - (lg_sl ([.ref (ad0 x0), .int a1])).length) Slot.unset).toArray = ls_ at hl ⊢
  refine wGen (fun Q hQ => ?_)
  obtain ⟨X, hX⟩ : ∃ X, f_Y10_withdraw S0 x0 a1 = X := ⟨_, rfl⟩
  have B_Y10_withdraw_13a : ∀ (S : Cst) (ad : Nat → Nat) (x1 : Int32) (y0 : Int32) (H : Heap) (locs : List Loc) (ls_ : Array Slot), b_Y10_withdraw_13a S x0 x1 y0 = X → q_Y10_withdraw_13a S x0 lc ls x1 y0 → nH S0 ad0 lc ls S ad → va_P G vwCl (wsC K ad S) H → va_D A (wsC K ad S) → va_S A s.heap H locs → lv_has ls_ 2 [(0, .ref (ad x0)), (1, .int x1)] → W p l e ({ frames := 8, cells := lc - S0.1, slots := ls - S0.2.1, locals := 226 } : Room) s m #[Value.ref (ad0 x0), Value.int a1] below meth c H locs (S.1 - S0.1) (S.2.1 - S0.2.1) Q (F0 m 13 ls_ [.int y0]) := by
    intro S ad x1 y0 H locs ls_ hE hp hZ hP hD hS hl
    unfold b_Y10_withdraw_13a at hE
    unfold q_Y10_withdraw_13a at hp
    refine W.widen (k := lc - S0.1) (n := ls - S0.2.1) (show S.1 - S0.1 ≤ lc - S0.1 from Nat.sub_le_sub_right hZ.2.2.1 _) (show S.2.1 - S0.2.1 ≤ ls - S0.2.1 from Nat.sub_le_sub_right hZ.2.2.2 _) ?_
    subst hQ
    exact W.iret (v := y0) hx hb hr (fun t ht hW => ⟨⟨y0, (S, ad), rfl, ⟨hE.trans hX.symm, hZ.1, hZ.2.1⟩, by rw [ht]; exact hP, hD⟩, hS.F ht⟩) hS.2.2 dX10_withdraw_13
  have B_M : ∀ (S : Cst) (ad : Nat → Nat) (x1 : Int32) (H : Heap) (locs : List Loc) (ls_ : Array Slot), f_Y10_withdraw S x0 x1 = X → p_Y10_withdraw S x0 lc ls x1 → nH S0 ad0 lc ls S ad → va_P G vwCl (wsC K ad S) H → va_D A (wsC K ad S) → va_S A s.heap H locs → lv_has ls_ 2 [(0, .ref (ad x0)), (1, .int x1)] → W p l e ({ frames := 8, cells := lc - S0.1, slots := ls - S0.2.1, locals := 226 } : Room) s m #[Value.ref (ad0 x0), Value.int a1] below meth c H locs (S.1 - S0.1) (S.2.1 - S0.2.1) Q (F0 m 0 ls_ []) := by
    intro S ad x1 H locs ls_ hE hp hZ hP hD hS hl
    unfold f_Y10_withdraw at hE
    unfold p_Y10_withdraw at hp
    refine lv_aload_n hx hb dX10_withdraw_0 rfl (lv_at hl 0 rfl) ?_
    refine va_get (D := G) (ci := 7) (v := va_re ad (grC S x0 0)) (C := RX10) (T := TX10) (N := 5) hx hb hts iX10 hown hK hP x0 (at_7 (k_x0.n hZ.1)) rfl 0 (by decide) (hw (.fieldLink RX10 10 "MotionFloor" "now" "LMotionFloor$Assembly;") (List.mem_of_getElem? (i := 0) rfl)) (fun _ h9 => h9) rfl dX10_withdraw_1 ?_
    refine lv_bipush (v := 18) hx hb dX10_withdraw_4 (by decide) ?_
    refine lv_iload_n hx hb dX10_withdraw_6 rfl (lv_at hl 1 rfl) ?_
    refine lv_iconst (v := 0) hx hb dX10_withdraw_7 (by decide) ?_
    refine lv_iconst (v := 0) hx hb dX10_withdraw_8 (by decide) ?_
    refine lv_iconst (v := 0) hx hb dX10_withdraw_9 (by decide) ?_
    obtain ⟨hy1, hp⟩ := hp
    refine cTop6 (r := (grC S x0 0)) hy1.1 ?_
    obtain ⟨hy2, hp⟩ := hp
    obtain ⟨hy3, hp⟩ := hp
    refine cNoi (va_runV (As := [.int 18, .int x1, .int 0, .int 0, .int 0]) (rest := []) ⟨hx, hb, hml, hown, hts⟩ (c_Y0_enact l G K ad S ((grC S x0 0).getD 0) (f_Y0_enact S ((grC S x0 0).getD 0) (18 : Int32) x1 (0 : Int32) (0 : Int32) (0 : Int32)).2.1 (f_Y0_enact S ((grC S x0 0).getD 0) (18 : Int32) x1 (0 : Int32) (0 : Int32) (0 : Int32)).2.2.1 (18 : Int32) x1 (0 : Int32) (0 : Int32) (0 : Int32) _) (cwV 5 hts (wGV t_ (mw (.methodLink RX10 32 yX0_enact) (List.mem_of_getElem? (i := 1) rfl)) (mw (.instanceMethod yX0_enact) (List.mem_of_getElem? (i := 2) rfl)) (mw (.selects RX0 yX0_enact yX0_enact) (List.mem_of_getElem? (i := 3) rfl)) (mw (.initialized RX0) (List.mem_of_getElem? (i := 4) rfl)) j_Y0_enact) rfl rfl rfl (by decide +kernel) ⟨Nat.le_of_ble_eq_true rfl, Nat.le_of_ble_eq_true rfl⟩) (cPV hK hTE hP hD 0 rfl (at_0 hy1.2) ⟨⟨hy2.1.1, hy2.2.1⟩, hy1.2, hy3⟩) rfl rfl hl.1 rfl (lv_room (Nat.le_of_ble_eq_true rfl)) dX10_withdraw_10 ⟨by show _ ≤ lc - S0.1; have := hZ.1.1.1; have := hy2.1; omega, by show _ ≤ ls - S0.2.1; have := hZ.1.1.2; have := hy2.2; omega⟩) hP hD hS hA (fun r5 u4 H locs hv hP hD hS => ?_)
    obtain ⟨hv, hz, ha⟩ := hv
    have e1 : (f_Y0_enact S ((grC S x0 0).getD 0) (18 : Int32) x1 (0 : Int32) (0 : Int32) (0 : Int32)).2.1 = u4.1.1 := by rw [← hv]
    have e2 : (f_Y0_enact S ((grC S x0 0).getD 0) (18 : Int32) x1 (0 : Int32) (0 : Int32) (0 : Int32)).2.2.1 = u4.1.2.1 := by rw [← hv]
    refine cCells (cells' := u4.1.1 - S0.1) (slots' := u4.1.2.1 - S0.2.1) (by have := hZ.1.1.1; have := hy2.1; omega) (by have := hZ.1.1.2; have := hy2.2; omega) ?_
    rw [← ha x0 (k_x0.n hZ.1).1] at hl
    have hZ := hZ.n hz ha (by rw [← e1]; exact hy2.1.2) (by rw [← e2]; exact hy2.2.2)
    rw [← hv] at hE hp
    dsimp only at hE hp
    exact B_Y10_withdraw_13a u4.1 u4.2 x1 r5 _ _ _ hE hp hZ hP hD hS (lv_sub hl [0, 1] rfl)
  exact cCells (Nat.sub_self _).symm (Nat.sub_self _).symm (B_M S0 ad0 a1 _ _ _ hX hp (nH.rf S0 ad0 k_l) hP hD hS hl)
theorem gdX10_rule_0 : ckS (List.drop 0 cX10_rule.data.toList) 0 [(0, .aload_n 0, 1), (1, .getfield 10, 3), (4, .bipush 19, 2), (6, .iconst 0, 1), (7, .iconst 0, 1), (8, .iconst 0, 1), (9, .iconst 0, 1), (10, .invokevirtual 32, 3), (13, .ireturn, 1)] = true := by decide +kernel
theorem dX10_rule_0 : decode cX10_rule 0 = .ok (.aload_n 0, 1) := ckS_g gdX10_rule_0 0 rfl
theorem dX10_rule_1 : decode cX10_rule 1 = .ok (.getfield 10, 3) := ckS_g gdX10_rule_0 1 rfl
theorem dX10_rule_4 : decode cX10_rule 4 = .ok (.bipush 19, 2) := ckS_g gdX10_rule_0 2 rfl
theorem dX10_rule_6 : decode cX10_rule 6 = .ok (.iconst 0, 1) := ckS_g gdX10_rule_0 3 rfl
theorem dX10_rule_7 : decode cX10_rule 7 = .ok (.iconst 0, 1) := ckS_g gdX10_rule_0 4 rfl
theorem dX10_rule_8 : decode cX10_rule 8 = .ok (.iconst 0, 1) := ckS_g gdX10_rule_0 5 rfl
theorem dX10_rule_9 : decode cX10_rule 9 = .ok (.iconst 0, 1) := ckS_g gdX10_rule_0 6 rfl
theorem dX10_rule_10 : decode cX10_rule 10 = .ok (.invokevirtual 32, 3) := ckS_g gdX10_rule_0 7 rfl
theorem dX10_rule_13 : decode cX10_rule 13 = .ok (.ireturn, 1) := ckS_g gdX10_rule_0 8 rfl
set_option maxRecDepth 100000 in
theorem zc712 : wZ (.code yX10_rule cX10_rule 1 (some .int)) := ⟨wT4 (List.mem_of_getElem? (i := 99) rfl), Or.inl rfl⟩
def b_Y10_rule_13a (S : Cst) (x0 : Nat) (y0 : Int32) : Int32 × Cst := (y0, S)
def q_Y10_rule_13a (S : Cst) (x0 : Nat) (lc : Nat) (ls : Nat) (y0 : Int32) : Prop := True
def f_Y10_rule (S : Cst) (x0 : Nat) : Int32 × Cst := (b_Y10_rule_13a ((f_Y0_enact S ((grC S x0 0).getD 0) (19 : Int32) (0 : Int32) (0 : Int32) (0 : Int32) (0 : Int32)).2) x0 ((f_Y0_enact S ((grC S x0 0).getD 0) (19 : Int32) (0 : Int32) (0 : Int32) (0 : Int32) (0 : Int32)).1))
def p_Y10_rule (S : Cst) (x0 : Nat) (lc : Nat) (ls : Nat) : Prop := (iR S (grC S x0 0) 0) ∧ ((S.1 ≤ (f_Y0_enact S ((grC S x0 0).getD 0) (19 : Int32) (0 : Int32) (0 : Int32) (0 : Int32) (0 : Int32)).2.1 ∧ (f_Y0_enact S ((grC S x0 0).getD 0) (19 : Int32) (0 : Int32) (0 : Int32) (0 : Int32) (0 : Int32)).2.1 ≤ lc) ∧ (S.2.1 ≤ (f_Y0_enact S ((grC S x0 0).getD 0) (19 : Int32) (0 : Int32) (0 : Int32) (0 : Int32) (0 : Int32)).2.2.1 ∧ (f_Y0_enact S ((grC S x0 0).getD 0) (19 : Int32) (0 : Int32) (0 : Int32) (0 : Int32) (0 : Int32)).2.2.1 ≤ ls)) ∧ (p_Y0_enact S ((grC S x0 0).getD 0) (f_Y0_enact S ((grC S x0 0).getD 0) (19 : Int32) (0 : Int32) (0 : Int32) (0 : Int32) (0 : Int32)).2.1 (f_Y0_enact S ((grC S x0 0).getD 0) (19 : Int32) (0 : Int32) (0 : Int32) (0 : Int32) (0 : Int32)).2.2.1 (19 : Int32) (0 : Int32) (0 : Int32) (0 : Int32) (0 : Int32)) ∧ (q_Y10_rule_13a ((f_Y0_enact S ((grC S x0 0).getD 0) (19 : Int32) (0 : Int32) (0 : Int32) (0 : Int32) (0 : Int32)).2) x0 lc ls ((f_Y0_enact S ((grC S x0 0).getD 0) (19 : Int32) (0 : Int32) (0 : Int32) (0 : Int32) (0 : Int32)).1))
def e_Y10_rule : List Cond := [.fieldLink RX10 10 "MotionFloor" "now" "LMotionFloor$Assembly;", .methodLink RX10 32 yX0_enact, .instanceMethod yX0_enact, .selects RX0 yX0_enact yX0_enact, .initialized RX0]
def v_Y10_rule : List Cond := .code yX10_rule cX10_rule 1 (some .int) :: (e_Y10_rule ++ (wsX100 ++ (v_Y0_enact ++ [])))
theorem te_Y10_rule : GoodIn lw_tbl e_Y10_rule := wGc zc496 (wGc zc693 (wGc zc692 (wGc zc691 (wGc zc39 (wG0)))))
theorem t_Y10_rule : GoodIn lw_tbl v_Y10_rule := wGc zc712 (wGa te_Y10_rule (wGa zcX10 (wGa t_Y0_enact (wG0))))
set_option maxHeartbeats 4000000 in
set_option maxRecDepth 100000 in
theorem c_Y10_rule (l : Launch) (G : va_G) (K : Nat → ClassId) (ad0 : Nat → Nat) (S0 : Cst) (x0 : Nat) (lc : Nat) (ls : Nat)  (sz : Nat) : Met l yX10_rule v_Y10_rule ({ frames := 8, cells := lc - S0.1, slots := ls - S0.2.1, locals := 226 }) (va_Pc [.ref (ad0 x0)] (cSt G K ad0 sz S0 ((S0.1 ≤ lc ∧ S0.2.1 ≤ ls) ∧ iK S0 x0 7 ∧ p_Y10_rule S0 x0 lc ls))) (va_Qi (fun (r : Int32) (u : Cst × (Nat → Nat)) => (r, u.1) = f_Y10_rule S0 x0 ∧ eN S0 u.1 ∧ (∀ q, q < S0.1 → u.2 q = ad0 q)) (fun u t => cBt G K u.2 (va_A (wsC K ad0 S0) sz) u.1 t) (va_A (wsC K ad0 S0) sz)) (lc - S0.1) (ls - S0.2.1) (va_A (wsC K ad0 S0) sz) := by
  refine Met.ofW (cc := cX10_rule) (maxL := 1) (ret := (some .int)) (by decide) rfl ?_
  intro p e s m args below meth c s₁ B hml hv
  obtain ⟨rfl, ⟨hsz, hP, hK, hD0, hTE⟩, hp⟩ := hv
  obtain ⟨k_l, hp⟩ := hp
  obtain ⟨k_x0, hp⟩ := hp
  have hx := B.exec
  have hb := B.bytes
  have hr := B.returns
  have hts := atoms_spec (ws := v_Y10_rule) B.pre
  have t_ := t_Y10_rule
  have mw : ∀ w ∈ e_Y10_rule, w ∈ v_Y10_rule := fun w h => List.mem_cons_of_mem _ (List.mem_append_left _ h)
  have hw := fun w (h : w ∈ e_Y10_rule) => hts w (mw w h)
  have iX10 : ∀ w ∈ wsX100, w ∈ v_Y10_rule := fun w h => List.mem_cons_of_mem _ (List.mem_append_right _ (List.mem_append_left _ h))
  have j_Y0_enact : ∀ w ∈ v_Y0_enact, w ∈ v_Y10_rule := fun w h => List.mem_cons_of_mem _ (List.mem_append_right _ (List.mem_append_right _ (List.mem_append_left _ h)))
  have hown : s.vm.findClass RX10 = some m.cls := findClass_of_methodNamed B.named
  have hlocks := B.notSynchronized
  subst hsz
  have hD := hD0.self (sz := s.heap.size)
  generalize hAe : va_A (wsC K ad0 S0) s.heap.size = A at hD ⊢
  have hA : ∀ q : Nat, s.heap.size ≤ q → A q := fun q h => by rw [← hAe]; exact Or.inr h
  have hS : va_S A s.heap s.heap [] := va_S.rf
  have hl : lv_has (lg_sl ([.ref (ad0 x0)]) ++ List.replicate (1 - (lg_sl ([.ref (ad0 x0)])).length) Slot.unset).toArray 1 [(0, .ref (ad0 x0))] := by
    exact lv_entry ([.ref (ad0 x0)]) (n := 1) (Nat.le_of_ble_eq_true rfl)
  rw [lg_entry_eq]
  generalize (lg_sl ([.ref (ad0 x0)]) ++ List.replicate (1 - (lg_sl ([.ref (ad0 x0)])).length) Slot.unset).toArray = ls_ at hl ⊢
  refine wGen (fun Q hQ => ?_)
  obtain ⟨X, hX⟩ : ∃ X, f_Y10_rule S0 x0 = X := ⟨_, rfl⟩
  have B_Y10_rule_13a : ∀ (S : Cst) (ad : Nat → Nat) (y0 : Int32) (H : Heap) (locs : List Loc) (ls_ : Array Slot), b_Y10_rule_13a S x0 y0 = X → q_Y10_rule_13a S x0 lc ls y0 → nH S0 ad0 lc ls S ad → va_P G vwCl (wsC K ad S) H → va_D A (wsC K ad S) → va_S A s.heap H locs → lv_has ls_ 1 [(0, .ref (ad x0))] → W p l e ({ frames := 8, cells := lc - S0.1, slots := ls - S0.2.1, locals := 226 } : Room) s m #[Value.ref (ad0 x0)] below meth c H locs (S.1 - S0.1) (S.2.1 - S0.2.1) Q (F0 m 13 ls_ [.int y0]) := by
    intro S ad y0 H locs ls_ hE hp hZ hP hD hS hl
    unfold b_Y10_rule_13a at hE
    unfold q_Y10_rule_13a at hp
    refine W.widen (k := lc - S0.1) (n := ls - S0.2.1) (show S.1 - S0.1 ≤ lc - S0.1 from Nat.sub_le_sub_right hZ.2.2.1 _) (show S.2.1 - S0.2.1 ≤ ls - S0.2.1 from Nat.sub_le_sub_right hZ.2.2.2 _) ?_
    subst hQ
    exact W.iret (v := y0) hx hb hr (fun t ht hW => ⟨⟨y0, (S, ad), rfl, ⟨hE.trans hX.symm, hZ.1, hZ.2.1⟩, by rw [ht]; exact hP, hD⟩, hS.F ht⟩) hS.2.2 dX10_rule_13
  have B_M : ∀ (S : Cst) (ad : Nat → Nat) (H : Heap) (locs : List Loc) (ls_ : Array Slot), f_Y10_rule S x0 = X → p_Y10_rule S x0 lc ls → nH S0 ad0 lc ls S ad → va_P G vwCl (wsC K ad S) H → va_D A (wsC K ad S) → va_S A s.heap H locs → lv_has ls_ 1 [(0, .ref (ad x0))] → W p l e ({ frames := 8, cells := lc - S0.1, slots := ls - S0.2.1, locals := 226 } : Room) s m #[Value.ref (ad0 x0)] below meth c H locs (S.1 - S0.1) (S.2.1 - S0.2.1) Q (F0 m 0 ls_ []) := by
    intro S ad H locs ls_ hE hp hZ hP hD hS hl
    unfold f_Y10_rule at hE
    unfold p_Y10_rule at hp
    refine lv_aload_n hx hb dX10_rule_0 rfl (lv_at hl 0 rfl) ?_
    refine va_get (D := G) (ci := 7) (v := va_re ad (grC S x0 0)) (C := RX10) (T := TX10) (N := 5) hx hb hts iX10 hown hK hP x0 (at_7 (k_x0.n hZ.1)) rfl 0 (by decide) (hw (.fieldLink RX10 10 "MotionFloor" "now" "LMotionFloor$Assembly;") (List.mem_of_getElem? (i := 0) rfl)) (fun _ h9 => h9) rfl dX10_rule_1 ?_
    refine lv_bipush (v := 19) hx hb dX10_rule_4 (by decide) ?_
    refine lv_iconst (v := 0) hx hb dX10_rule_6 (by decide) ?_
    refine lv_iconst (v := 0) hx hb dX10_rule_7 (by decide) ?_
    refine lv_iconst (v := 0) hx hb dX10_rule_8 (by decide) ?_
    refine lv_iconst (v := 0) hx hb dX10_rule_9 (by decide) ?_
    obtain ⟨hy1, hp⟩ := hp
    refine cTop6 (r := (grC S x0 0)) hy1.1 ?_
    obtain ⟨hy2, hp⟩ := hp
    obtain ⟨hy3, hp⟩ := hp
    refine cNoi (va_runV (As := [.int 19, .int 0, .int 0, .int 0, .int 0]) (rest := []) ⟨hx, hb, hml, hown, hts⟩ (c_Y0_enact l G K ad S ((grC S x0 0).getD 0) (f_Y0_enact S ((grC S x0 0).getD 0) (19 : Int32) (0 : Int32) (0 : Int32) (0 : Int32) (0 : Int32)).2.1 (f_Y0_enact S ((grC S x0 0).getD 0) (19 : Int32) (0 : Int32) (0 : Int32) (0 : Int32) (0 : Int32)).2.2.1 (19 : Int32) (0 : Int32) (0 : Int32) (0 : Int32) (0 : Int32) _) (cwV 5 hts (wGV t_ (mw (.methodLink RX10 32 yX0_enact) (List.mem_of_getElem? (i := 1) rfl)) (mw (.instanceMethod yX0_enact) (List.mem_of_getElem? (i := 2) rfl)) (mw (.selects RX0 yX0_enact yX0_enact) (List.mem_of_getElem? (i := 3) rfl)) (mw (.initialized RX0) (List.mem_of_getElem? (i := 4) rfl)) j_Y0_enact) rfl rfl rfl (by decide +kernel) ⟨Nat.le_of_ble_eq_true rfl, Nat.le_of_ble_eq_true rfl⟩) (cPV hK hTE hP hD 0 rfl (at_0 hy1.2) ⟨⟨hy2.1.1, hy2.2.1⟩, hy1.2, hy3⟩) rfl rfl hl.1 rfl (lv_room (Nat.le_of_ble_eq_true rfl)) dX10_rule_10 ⟨by show _ ≤ lc - S0.1; have := hZ.1.1.1; have := hy2.1; omega, by show _ ≤ ls - S0.2.1; have := hZ.1.1.2; have := hy2.2; omega⟩) hP hD hS hA (fun r5 u4 H locs hv hP hD hS => ?_)
    obtain ⟨hv, hz, ha⟩ := hv
    have e1 : (f_Y0_enact S ((grC S x0 0).getD 0) (19 : Int32) (0 : Int32) (0 : Int32) (0 : Int32) (0 : Int32)).2.1 = u4.1.1 := by rw [← hv]
    have e2 : (f_Y0_enact S ((grC S x0 0).getD 0) (19 : Int32) (0 : Int32) (0 : Int32) (0 : Int32) (0 : Int32)).2.2.1 = u4.1.2.1 := by rw [← hv]
    refine cCells (cells' := u4.1.1 - S0.1) (slots' := u4.1.2.1 - S0.2.1) (by have := hZ.1.1.1; have := hy2.1; omega) (by have := hZ.1.1.2; have := hy2.2; omega) ?_
    rw [← ha x0 (k_x0.n hZ.1).1] at hl
    have hZ := hZ.n hz ha (by rw [← e1]; exact hy2.1.2) (by rw [← e2]; exact hy2.2.2)
    rw [← hv] at hE hp
    dsimp only at hE hp
    exact B_Y10_rule_13a u4.1 u4.2 r5 _ _ _ hE hp hZ hP hD hS (lv_sub hl [0] rfl)
  exact cCells (Nat.sub_self _).symm (Nat.sub_self _).symm (B_M S0 ad0 _ _ _ hX hp (nH.rf S0 ad0 k_l) hP hD hS hl)
theorem gdX10_appeal_0 : ckS (List.drop 0 cX10_appeal.data.toList) 0 [(0, .aload_n 0, 1), (1, .getfield 10, 3), (4, .bipush 20, 2), (6, .iload_n 1, 1), (7, .iconst 0, 1), (8, .iconst 0, 1), (9, .iconst 0, 1), (10, .invokevirtual 32, 3), (13, .ireturn, 1)] = true := by decide +kernel
theorem dX10_appeal_0 : decode cX10_appeal 0 = .ok (.aload_n 0, 1) := ckS_g gdX10_appeal_0 0 rfl
theorem dX10_appeal_1 : decode cX10_appeal 1 = .ok (.getfield 10, 3) := ckS_g gdX10_appeal_0 1 rfl
theorem dX10_appeal_4 : decode cX10_appeal 4 = .ok (.bipush 20, 2) := ckS_g gdX10_appeal_0 2 rfl
theorem dX10_appeal_6 : decode cX10_appeal 6 = .ok (.iload_n 1, 1) := ckS_g gdX10_appeal_0 3 rfl
theorem dX10_appeal_7 : decode cX10_appeal 7 = .ok (.iconst 0, 1) := ckS_g gdX10_appeal_0 4 rfl
theorem dX10_appeal_8 : decode cX10_appeal 8 = .ok (.iconst 0, 1) := ckS_g gdX10_appeal_0 5 rfl
theorem dX10_appeal_9 : decode cX10_appeal 9 = .ok (.iconst 0, 1) := ckS_g gdX10_appeal_0 6 rfl
theorem dX10_appeal_10 : decode cX10_appeal 10 = .ok (.invokevirtual 32, 3) := ckS_g gdX10_appeal_0 7 rfl
theorem dX10_appeal_13 : decode cX10_appeal 13 = .ok (.ireturn, 1) := ckS_g gdX10_appeal_0 8 rfl
set_option maxRecDepth 100000 in
theorem zc713 : wZ (.code yX10_appeal cX10_appeal 2 (some .int)) := ⟨wT4 (List.mem_of_getElem? (i := 103) rfl), Or.inl rfl⟩
def b_Y10_appeal_13a (S : Cst) (x0 : Nat) (x1 : Int32) (y0 : Int32) : Int32 × Cst := (y0, S)
def q_Y10_appeal_13a (S : Cst) (x0 : Nat) (lc : Nat) (ls : Nat) (x1 : Int32) (y0 : Int32) : Prop := True
def f_Y10_appeal (S : Cst) (x0 : Nat) (x1 : Int32) : Int32 × Cst := (b_Y10_appeal_13a ((f_Y0_enact S ((grC S x0 0).getD 0) (20 : Int32) x1 (0 : Int32) (0 : Int32) (0 : Int32)).2) x0 x1 ((f_Y0_enact S ((grC S x0 0).getD 0) (20 : Int32) x1 (0 : Int32) (0 : Int32) (0 : Int32)).1))
def p_Y10_appeal (S : Cst) (x0 : Nat) (lc : Nat) (ls : Nat) (x1 : Int32) : Prop := (iR S (grC S x0 0) 0) ∧ ((S.1 ≤ (f_Y0_enact S ((grC S x0 0).getD 0) (20 : Int32) x1 (0 : Int32) (0 : Int32) (0 : Int32)).2.1 ∧ (f_Y0_enact S ((grC S x0 0).getD 0) (20 : Int32) x1 (0 : Int32) (0 : Int32) (0 : Int32)).2.1 ≤ lc) ∧ (S.2.1 ≤ (f_Y0_enact S ((grC S x0 0).getD 0) (20 : Int32) x1 (0 : Int32) (0 : Int32) (0 : Int32)).2.2.1 ∧ (f_Y0_enact S ((grC S x0 0).getD 0) (20 : Int32) x1 (0 : Int32) (0 : Int32) (0 : Int32)).2.2.1 ≤ ls)) ∧ (p_Y0_enact S ((grC S x0 0).getD 0) (f_Y0_enact S ((grC S x0 0).getD 0) (20 : Int32) x1 (0 : Int32) (0 : Int32) (0 : Int32)).2.1 (f_Y0_enact S ((grC S x0 0).getD 0) (20 : Int32) x1 (0 : Int32) (0 : Int32) (0 : Int32)).2.2.1 (20 : Int32) x1 (0 : Int32) (0 : Int32) (0 : Int32)) ∧ (q_Y10_appeal_13a ((f_Y0_enact S ((grC S x0 0).getD 0) (20 : Int32) x1 (0 : Int32) (0 : Int32) (0 : Int32)).2) x0 lc ls x1 ((f_Y0_enact S ((grC S x0 0).getD 0) (20 : Int32) x1 (0 : Int32) (0 : Int32) (0 : Int32)).1))
def e_Y10_appeal : List Cond := [.fieldLink RX10 10 "MotionFloor" "now" "LMotionFloor$Assembly;", .methodLink RX10 32 yX0_enact, .instanceMethod yX0_enact, .selects RX0 yX0_enact yX0_enact, .initialized RX0]
def v_Y10_appeal : List Cond := .code yX10_appeal cX10_appeal 2 (some .int) :: (e_Y10_appeal ++ (wsX100 ++ (v_Y0_enact ++ [])))
theorem te_Y10_appeal : GoodIn lw_tbl e_Y10_appeal := wGc zc496 (wGc zc693 (wGc zc692 (wGc zc691 (wGc zc39 (wG0)))))
theorem t_Y10_appeal : GoodIn lw_tbl v_Y10_appeal := wGc zc713 (wGa te_Y10_appeal (wGa zcX10 (wGa t_Y0_enact (wG0))))
set_option maxHeartbeats 4000000 in
set_option maxRecDepth 100000 in
theorem c_Y10_appeal (l : Launch) (G : va_G) (K : Nat → ClassId) (ad0 : Nat → Nat) (S0 : Cst) (x0 : Nat) (lc : Nat) (ls : Nat) (a1 : Int32) (sz : Nat) : Met l yX10_appeal v_Y10_appeal ({ frames := 8, cells := lc - S0.1, slots := ls - S0.2.1, locals := 226 }) (va_Pc [.ref (ad0 x0), .int a1] (cSt G K ad0 sz S0 ((S0.1 ≤ lc ∧ S0.2.1 ≤ ls) ∧ iK S0 x0 7 ∧ p_Y10_appeal S0 x0 lc ls a1))) (va_Qi (fun (r : Int32) (u : Cst × (Nat → Nat)) => (r, u.1) = f_Y10_appeal S0 x0 a1 ∧ eN S0 u.1 ∧ (∀ q, q < S0.1 → u.2 q = ad0 q)) (fun u t => cBt G K u.2 (va_A (wsC K ad0 S0) sz) u.1 t) (va_A (wsC K ad0 S0) sz)) (lc - S0.1) (ls - S0.2.1) (va_A (wsC K ad0 S0) sz) := by
  refine Met.ofW (cc := cX10_appeal) (maxL := 2) (ret := (some .int)) (by decide) rfl ?_
  intro p e s m args below meth c s₁ B hml hv
  obtain ⟨rfl, ⟨hsz, hP, hK, hD0, hTE⟩, hp⟩ := hv
  obtain ⟨k_l, hp⟩ := hp
  obtain ⟨k_x0, hp⟩ := hp
  have hx := B.exec
  have hb := B.bytes
  have hr := B.returns
  have hts := atoms_spec (ws := v_Y10_appeal) B.pre
  have t_ := t_Y10_appeal
  have mw : ∀ w ∈ e_Y10_appeal, w ∈ v_Y10_appeal := fun w h => List.mem_cons_of_mem _ (List.mem_append_left _ h)
  have hw := fun w (h : w ∈ e_Y10_appeal) => hts w (mw w h)
  have iX10 : ∀ w ∈ wsX100, w ∈ v_Y10_appeal := fun w h => List.mem_cons_of_mem _ (List.mem_append_right _ (List.mem_append_left _ h))
  have j_Y0_enact : ∀ w ∈ v_Y0_enact, w ∈ v_Y10_appeal := fun w h => List.mem_cons_of_mem _ (List.mem_append_right _ (List.mem_append_right _ (List.mem_append_left _ h)))
  have hown : s.vm.findClass RX10 = some m.cls := findClass_of_methodNamed B.named
  have hlocks := B.notSynchronized
  subst hsz
  have hD := hD0.self (sz := s.heap.size)
  generalize hAe : va_A (wsC K ad0 S0) s.heap.size = A at hD ⊢
  have hA : ∀ q : Nat, s.heap.size ≤ q → A q := fun q h => by rw [← hAe]; exact Or.inr h
  have hS : va_S A s.heap s.heap [] := va_S.rf
  have hl : lv_has (lg_sl ([.ref (ad0 x0), .int a1]) ++ List.replicate (2 - (lg_sl ([.ref (ad0 x0), .int a1])).length) Slot.unset).toArray 2 [(0, .ref (ad0 x0)), (1, .int a1)] := by
    exact lv_entry ([.ref (ad0 x0), .int a1]) (n := 2) (Nat.le_of_ble_eq_true rfl)
  rw [lg_entry_eq]
  generalize (lg_sl ([.ref (ad0 x0), .int a1]) ++ List.replicate (2 - (lg_sl ([.ref (ad0 x0), .int a1])).length) Slot.unset).toArray = ls_ at hl ⊢
  refine wGen (fun Q hQ => ?_)
  obtain ⟨X, hX⟩ : ∃ X, f_Y10_appeal S0 x0 a1 = X := ⟨_, rfl⟩
  have B_Y10_appeal_13a : ∀ (S : Cst) (ad : Nat → Nat) (x1 : Int32) (y0 : Int32) (H : Heap) (locs : List Loc) (ls_ : Array Slot), b_Y10_appeal_13a S x0 x1 y0 = X → q_Y10_appeal_13a S x0 lc ls x1 y0 → nH S0 ad0 lc ls S ad → va_P G vwCl (wsC K ad S) H → va_D A (wsC K ad S) → va_S A s.heap H locs → lv_has ls_ 2 [(0, .ref (ad x0)), (1, .int x1)] → W p l e ({ frames := 8, cells := lc - S0.1, slots := ls - S0.2.1, locals := 226 } : Room) s m #[Value.ref (ad0 x0), Value.int a1] below meth c H locs (S.1 - S0.1) (S.2.1 - S0.2.1) Q (F0 m 13 ls_ [.int y0]) := by
    intro S ad x1 y0 H locs ls_ hE hp hZ hP hD hS hl
    unfold b_Y10_appeal_13a at hE
    unfold q_Y10_appeal_13a at hp
    refine W.widen (k := lc - S0.1) (n := ls - S0.2.1) (show S.1 - S0.1 ≤ lc - S0.1 from Nat.sub_le_sub_right hZ.2.2.1 _) (show S.2.1 - S0.2.1 ≤ ls - S0.2.1 from Nat.sub_le_sub_right hZ.2.2.2 _) ?_
    subst hQ
    exact W.iret (v := y0) hx hb hr (fun t ht hW => ⟨⟨y0, (S, ad), rfl, ⟨hE.trans hX.symm, hZ.1, hZ.2.1⟩, by rw [ht]; exact hP, hD⟩, hS.F ht⟩) hS.2.2 dX10_appeal_13
  have B_M : ∀ (S : Cst) (ad : Nat → Nat) (x1 : Int32) (H : Heap) (locs : List Loc) (ls_ : Array Slot), f_Y10_appeal S x0 x1 = X → p_Y10_appeal S x0 lc ls x1 → nH S0 ad0 lc ls S ad → va_P G vwCl (wsC K ad S) H → va_D A (wsC K ad S) → va_S A s.heap H locs → lv_has ls_ 2 [(0, .ref (ad x0)), (1, .int x1)] → W p l e ({ frames := 8, cells := lc - S0.1, slots := ls - S0.2.1, locals := 226 } : Room) s m #[Value.ref (ad0 x0), Value.int a1] below meth c H locs (S.1 - S0.1) (S.2.1 - S0.2.1) Q (F0 m 0 ls_ []) := by
    intro S ad x1 H locs ls_ hE hp hZ hP hD hS hl
    unfold f_Y10_appeal at hE
    unfold p_Y10_appeal at hp
    refine lv_aload_n hx hb dX10_appeal_0 rfl (lv_at hl 0 rfl) ?_
    refine va_get (D := G) (ci := 7) (v := va_re ad (grC S x0 0)) (C := RX10) (T := TX10) (N := 5) hx hb hts iX10 hown hK hP x0 (at_7 (k_x0.n hZ.1)) rfl 0 (by decide) (hw (.fieldLink RX10 10 "MotionFloor" "now" "LMotionFloor$Assembly;") (List.mem_of_getElem? (i := 0) rfl)) (fun _ h9 => h9) rfl dX10_appeal_1 ?_
    refine lv_bipush (v := 20) hx hb dX10_appeal_4 (by decide) ?_
    refine lv_iload_n hx hb dX10_appeal_6 rfl (lv_at hl 1 rfl) ?_
    refine lv_iconst (v := 0) hx hb dX10_appeal_7 (by decide) ?_
    refine lv_iconst (v := 0) hx hb dX10_appeal_8 (by decide) ?_
    refine lv_iconst (v := 0) hx hb dX10_appeal_9 (by decide) ?_
    obtain ⟨hy1, hp⟩ := hp
    refine cTop6 (r := (grC S x0 0)) hy1.1 ?_
    obtain ⟨hy2, hp⟩ := hp
    obtain ⟨hy3, hp⟩ := hp
    refine cNoi (va_runV (As := [.int 20, .int x1, .int 0, .int 0, .int 0]) (rest := []) ⟨hx, hb, hml, hown, hts⟩ (c_Y0_enact l G K ad S ((grC S x0 0).getD 0) (f_Y0_enact S ((grC S x0 0).getD 0) (20 : Int32) x1 (0 : Int32) (0 : Int32) (0 : Int32)).2.1 (f_Y0_enact S ((grC S x0 0).getD 0) (20 : Int32) x1 (0 : Int32) (0 : Int32) (0 : Int32)).2.2.1 (20 : Int32) x1 (0 : Int32) (0 : Int32) (0 : Int32) _) (cwV 5 hts (wGV t_ (mw (.methodLink RX10 32 yX0_enact) (List.mem_of_getElem? (i := 1) rfl)) (mw (.instanceMethod yX0_enact) (List.mem_of_getElem? (i := 2) rfl)) (mw (.selects RX0 yX0_enact yX0_enact) (List.mem_of_getElem? (i := 3) rfl)) (mw (.initialized RX0) (List.mem_of_getElem? (i := 4) rfl)) j_Y0_enact) rfl rfl rfl (by decide +kernel) ⟨Nat.le_of_ble_eq_true rfl, Nat.le_of_ble_eq_true rfl⟩) (cPV hK hTE hP hD 0 rfl (at_0 hy1.2) ⟨⟨hy2.1.1, hy2.2.1⟩, hy1.2, hy3⟩) rfl rfl hl.1 rfl (lv_room (Nat.le_of_ble_eq_true rfl)) dX10_appeal_10 ⟨by show _ ≤ lc - S0.1; have := hZ.1.1.1; have := hy2.1; omega, by show _ ≤ ls - S0.2.1; have := hZ.1.1.2; have := hy2.2; omega⟩) hP hD hS hA (fun r5 u4 H locs hv hP hD hS => ?_)
    obtain ⟨hv, hz, ha⟩ := hv
    have e1 : (f_Y0_enact S ((grC S x0 0).getD 0) (20 : Int32) x1 (0 : Int32) (0 : Int32) (0 : Int32)).2.1 = u4.1.1 := by rw [← hv]
    have e2 : (f_Y0_enact S ((grC S x0 0).getD 0) (20 : Int32) x1 (0 : Int32) (0 : Int32) (0 : Int32)).2.2.1 = u4.1.2.1 := by rw [← hv]
    refine cCells (cells' := u4.1.1 - S0.1) (slots' := u4.1.2.1 - S0.2.1) (by have := hZ.1.1.1; have := hy2.1; omega) (by have := hZ.1.1.2; have := hy2.2; omega) ?_
    rw [← ha x0 (k_x0.n hZ.1).1] at hl
    have hZ := hZ.n hz ha (by rw [← e1]; exact hy2.1.2) (by rw [← e2]; exact hy2.2.2)
    rw [← hv] at hE hp
    dsimp only at hE hp
    exact B_Y10_appeal_13a u4.1 u4.2 x1 r5 _ _ _ hE hp hZ hP hD hS (lv_sub hl [0, 1] rfl)
  exact cCells (Nat.sub_self _).symm (Nat.sub_self _).symm (B_M S0 ad0 a1 _ _ _ hX hp (nH.rf S0 ad0 k_l) hP hD hS hl)
theorem gdX10_told_0 : ckS (List.drop 0 cX10_told.data.toList) 0 [(0, .aload_n 0, 1), (1, .getfield 10, 3), (4, .bipush 21, 2), (6, .iconst 0, 1), (7, .iconst 0, 1), (8, .iconst 0, 1), (9, .iconst 0, 1), (10, .invokevirtual 32, 3), (13, .ireturn, 1)] = true := by decide +kernel
theorem dX10_told_0 : decode cX10_told 0 = .ok (.aload_n 0, 1) := ckS_g gdX10_told_0 0 rfl
theorem dX10_told_1 : decode cX10_told 1 = .ok (.getfield 10, 3) := ckS_g gdX10_told_0 1 rfl
theorem dX10_told_4 : decode cX10_told 4 = .ok (.bipush 21, 2) := ckS_g gdX10_told_0 2 rfl
theorem dX10_told_6 : decode cX10_told 6 = .ok (.iconst 0, 1) := ckS_g gdX10_told_0 3 rfl
theorem dX10_told_7 : decode cX10_told 7 = .ok (.iconst 0, 1) := ckS_g gdX10_told_0 4 rfl
theorem dX10_told_8 : decode cX10_told 8 = .ok (.iconst 0, 1) := ckS_g gdX10_told_0 5 rfl
theorem dX10_told_9 : decode cX10_told 9 = .ok (.iconst 0, 1) := ckS_g gdX10_told_0 6 rfl
theorem dX10_told_10 : decode cX10_told 10 = .ok (.invokevirtual 32, 3) := ckS_g gdX10_told_0 7 rfl
theorem dX10_told_13 : decode cX10_told 13 = .ok (.ireturn, 1) := ckS_g gdX10_told_0 8 rfl
set_option maxRecDepth 100000 in
theorem zc714 : wZ (.code yX10_told cX10_told 1 (some .int)) := ⟨wT4 (List.mem_of_getElem? (i := 107) rfl), Or.inl rfl⟩
def b_Y10_told_13a (S : Cst) (x0 : Nat) (y0 : Int32) : Int32 × Cst := (y0, S)
def q_Y10_told_13a (S : Cst) (x0 : Nat) (lc : Nat) (ls : Nat) (y0 : Int32) : Prop := True
def f_Y10_told (S : Cst) (x0 : Nat) : Int32 × Cst := (b_Y10_told_13a ((f_Y0_enact S ((grC S x0 0).getD 0) (21 : Int32) (0 : Int32) (0 : Int32) (0 : Int32) (0 : Int32)).2) x0 ((f_Y0_enact S ((grC S x0 0).getD 0) (21 : Int32) (0 : Int32) (0 : Int32) (0 : Int32) (0 : Int32)).1))
def p_Y10_told (S : Cst) (x0 : Nat) (lc : Nat) (ls : Nat) : Prop := (iR S (grC S x0 0) 0) ∧ ((S.1 ≤ (f_Y0_enact S ((grC S x0 0).getD 0) (21 : Int32) (0 : Int32) (0 : Int32) (0 : Int32) (0 : Int32)).2.1 ∧ (f_Y0_enact S ((grC S x0 0).getD 0) (21 : Int32) (0 : Int32) (0 : Int32) (0 : Int32) (0 : Int32)).2.1 ≤ lc) ∧ (S.2.1 ≤ (f_Y0_enact S ((grC S x0 0).getD 0) (21 : Int32) (0 : Int32) (0 : Int32) (0 : Int32) (0 : Int32)).2.2.1 ∧ (f_Y0_enact S ((grC S x0 0).getD 0) (21 : Int32) (0 : Int32) (0 : Int32) (0 : Int32) (0 : Int32)).2.2.1 ≤ ls)) ∧ (p_Y0_enact S ((grC S x0 0).getD 0) (f_Y0_enact S ((grC S x0 0).getD 0) (21 : Int32) (0 : Int32) (0 : Int32) (0 : Int32) (0 : Int32)).2.1 (f_Y0_enact S ((grC S x0 0).getD 0) (21 : Int32) (0 : Int32) (0 : Int32) (0 : Int32) (0 : Int32)).2.2.1 (21 : Int32) (0 : Int32) (0 : Int32) (0 : Int32) (0 : Int32)) ∧ (q_Y10_told_13a ((f_Y0_enact S ((grC S x0 0).getD 0) (21 : Int32) (0 : Int32) (0 : Int32) (0 : Int32) (0 : Int32)).2) x0 lc ls ((f_Y0_enact S ((grC S x0 0).getD 0) (21 : Int32) (0 : Int32) (0 : Int32) (0 : Int32) (0 : Int32)).1))
def e_Y10_told : List Cond := [.fieldLink RX10 10 "MotionFloor" "now" "LMotionFloor$Assembly;", .methodLink RX10 32 yX0_enact, .instanceMethod yX0_enact, .selects RX0 yX0_enact yX0_enact, .initialized RX0]
def v_Y10_told : List Cond := .code yX10_told cX10_told 1 (some .int) :: (e_Y10_told ++ (wsX100 ++ (v_Y0_enact ++ [])))
theorem te_Y10_told : GoodIn lw_tbl e_Y10_told := wGc zc496 (wGc zc693 (wGc zc692 (wGc zc691 (wGc zc39 (wG0)))))
theorem t_Y10_told : GoodIn lw_tbl v_Y10_told := wGc zc714 (wGa te_Y10_told (wGa zcX10 (wGa t_Y0_enact (wG0))))
set_option maxHeartbeats 4000000 in
set_option maxRecDepth 100000 in
theorem c_Y10_told (l : Launch) (G : va_G) (K : Nat → ClassId) (ad0 : Nat → Nat) (S0 : Cst) (x0 : Nat) (lc : Nat) (ls : Nat)  (sz : Nat) : Met l yX10_told v_Y10_told ({ frames := 8, cells := lc - S0.1, slots := ls - S0.2.1, locals := 226 }) (va_Pc [.ref (ad0 x0)] (cSt G K ad0 sz S0 ((S0.1 ≤ lc ∧ S0.2.1 ≤ ls) ∧ iK S0 x0 7 ∧ p_Y10_told S0 x0 lc ls))) (va_Qi (fun (r : Int32) (u : Cst × (Nat → Nat)) => (r, u.1) = f_Y10_told S0 x0 ∧ eN S0 u.1 ∧ (∀ q, q < S0.1 → u.2 q = ad0 q)) (fun u t => cBt G K u.2 (va_A (wsC K ad0 S0) sz) u.1 t) (va_A (wsC K ad0 S0) sz)) (lc - S0.1) (ls - S0.2.1) (va_A (wsC K ad0 S0) sz) := by
  refine Met.ofW (cc := cX10_told) (maxL := 1) (ret := (some .int)) (by decide) rfl ?_
  intro p e s m args below meth c s₁ B hml hv
  obtain ⟨rfl, ⟨hsz, hP, hK, hD0, hTE⟩, hp⟩ := hv
  obtain ⟨k_l, hp⟩ := hp
  obtain ⟨k_x0, hp⟩ := hp
  have hx := B.exec
  have hb := B.bytes
  have hr := B.returns
  have hts := atoms_spec (ws := v_Y10_told) B.pre
  have t_ := t_Y10_told
  have mw : ∀ w ∈ e_Y10_told, w ∈ v_Y10_told := fun w h => List.mem_cons_of_mem _ (List.mem_append_left _ h)
  have hw := fun w (h : w ∈ e_Y10_told) => hts w (mw w h)
  have iX10 : ∀ w ∈ wsX100, w ∈ v_Y10_told := fun w h => List.mem_cons_of_mem _ (List.mem_append_right _ (List.mem_append_left _ h))
  have j_Y0_enact : ∀ w ∈ v_Y0_enact, w ∈ v_Y10_told := fun w h => List.mem_cons_of_mem _ (List.mem_append_right _ (List.mem_append_right _ (List.mem_append_left _ h)))
  have hown : s.vm.findClass RX10 = some m.cls := findClass_of_methodNamed B.named
  have hlocks := B.notSynchronized
  subst hsz
  have hD := hD0.self (sz := s.heap.size)
  generalize hAe : va_A (wsC K ad0 S0) s.heap.size = A at hD ⊢
  have hA : ∀ q : Nat, s.heap.size ≤ q → A q := fun q h => by rw [← hAe]; exact Or.inr h
  have hS : va_S A s.heap s.heap [] := va_S.rf
  have hl : lv_has (lg_sl ([.ref (ad0 x0)]) ++ List.replicate (1 - (lg_sl ([.ref (ad0 x0)])).length) Slot.unset).toArray 1 [(0, .ref (ad0 x0))] := by
    exact lv_entry ([.ref (ad0 x0)]) (n := 1) (Nat.le_of_ble_eq_true rfl)
  rw [lg_entry_eq]
  generalize (lg_sl ([.ref (ad0 x0)]) ++ List.replicate (1 - (lg_sl ([.ref (ad0 x0)])).length) Slot.unset).toArray = ls_ at hl ⊢
  refine wGen (fun Q hQ => ?_)
  obtain ⟨X, hX⟩ : ∃ X, f_Y10_told S0 x0 = X := ⟨_, rfl⟩
  have B_Y10_told_13a : ∀ (S : Cst) (ad : Nat → Nat) (y0 : Int32) (H : Heap) (locs : List Loc) (ls_ : Array Slot), b_Y10_told_13a S x0 y0 = X → q_Y10_told_13a S x0 lc ls y0 → nH S0 ad0 lc ls S ad → va_P G vwCl (wsC K ad S) H → va_D A (wsC K ad S) → va_S A s.heap H locs → lv_has ls_ 1 [(0, .ref (ad x0))] → W p l e ({ frames := 8, cells := lc - S0.1, slots := ls - S0.2.1, locals := 226 } : Room) s m #[Value.ref (ad0 x0)] below meth c H locs (S.1 - S0.1) (S.2.1 - S0.2.1) Q (F0 m 13 ls_ [.int y0]) := by
    intro S ad y0 H locs ls_ hE hp hZ hP hD hS hl
    unfold b_Y10_told_13a at hE
    unfold q_Y10_told_13a at hp
    refine W.widen (k := lc - S0.1) (n := ls - S0.2.1) (show S.1 - S0.1 ≤ lc - S0.1 from Nat.sub_le_sub_right hZ.2.2.1 _) (show S.2.1 - S0.2.1 ≤ ls - S0.2.1 from Nat.sub_le_sub_right hZ.2.2.2 _) ?_
    subst hQ
    exact W.iret (v := y0) hx hb hr (fun t ht hW => ⟨⟨y0, (S, ad), rfl, ⟨hE.trans hX.symm, hZ.1, hZ.2.1⟩, by rw [ht]; exact hP, hD⟩, hS.F ht⟩) hS.2.2 dX10_told_13
  have B_M : ∀ (S : Cst) (ad : Nat → Nat) (H : Heap) (locs : List Loc) (ls_ : Array Slot), f_Y10_told S x0 = X → p_Y10_told S x0 lc ls → nH S0 ad0 lc ls S ad → va_P G vwCl (wsC K ad S) H → va_D A (wsC K ad S) → va_S A s.heap H locs → lv_has ls_ 1 [(0, .ref (ad x0))] → W p l e ({ frames := 8, cells := lc - S0.1, slots := ls - S0.2.1, locals := 226 } : Room) s m #[Value.ref (ad0 x0)] below meth c H locs (S.1 - S0.1) (S.2.1 - S0.2.1) Q (F0 m 0 ls_ []) := by
    intro S ad H locs ls_ hE hp hZ hP hD hS hl
    unfold f_Y10_told at hE
    unfold p_Y10_told at hp
    refine lv_aload_n hx hb dX10_told_0 rfl (lv_at hl 0 rfl) ?_
    refine va_get (D := G) (ci := 7) (v := va_re ad (grC S x0 0)) (C := RX10) (T := TX10) (N := 5) hx hb hts iX10 hown hK hP x0 (at_7 (k_x0.n hZ.1)) rfl 0 (by decide) (hw (.fieldLink RX10 10 "MotionFloor" "now" "LMotionFloor$Assembly;") (List.mem_of_getElem? (i := 0) rfl)) (fun _ h9 => h9) rfl dX10_told_1 ?_
    refine lv_bipush (v := 21) hx hb dX10_told_4 (by decide) ?_
    refine lv_iconst (v := 0) hx hb dX10_told_6 (by decide) ?_
    refine lv_iconst (v := 0) hx hb dX10_told_7 (by decide) ?_
    refine lv_iconst (v := 0) hx hb dX10_told_8 (by decide) ?_
    refine lv_iconst (v := 0) hx hb dX10_told_9 (by decide) ?_
    obtain ⟨hy1, hp⟩ := hp
    refine cTop6 (r := (grC S x0 0)) hy1.1 ?_
    obtain ⟨hy2, hp⟩ := hp
    obtain ⟨hy3, hp⟩ := hp
    refine cNoi (va_runV (As := [.int 21, .int 0, .int 0, .int 0, .int 0]) (rest := []) ⟨hx, hb, hml, hown, hts⟩ (c_Y0_enact l G K ad S ((grC S x0 0).getD 0) (f_Y0_enact S ((grC S x0 0).getD 0) (21 : Int32) (0 : Int32) (0 : Int32) (0 : Int32) (0 : Int32)).2.1 (f_Y0_enact S ((grC S x0 0).getD 0) (21 : Int32) (0 : Int32) (0 : Int32) (0 : Int32) (0 : Int32)).2.2.1 (21 : Int32) (0 : Int32) (0 : Int32) (0 : Int32) (0 : Int32) _) (cwV 5 hts (wGV t_ (mw (.methodLink RX10 32 yX0_enact) (List.mem_of_getElem? (i := 1) rfl)) (mw (.instanceMethod yX0_enact) (List.mem_of_getElem? (i := 2) rfl)) (mw (.selects RX0 yX0_enact yX0_enact) (List.mem_of_getElem? (i := 3) rfl)) (mw (.initialized RX0) (List.mem_of_getElem? (i := 4) rfl)) j_Y0_enact) rfl rfl rfl (by decide +kernel) ⟨Nat.le_of_ble_eq_true rfl, Nat.le_of_ble_eq_true rfl⟩) (cPV hK hTE hP hD 0 rfl (at_0 hy1.2) ⟨⟨hy2.1.1, hy2.2.1⟩, hy1.2, hy3⟩) rfl rfl hl.1 rfl (lv_room (Nat.le_of_ble_eq_true rfl)) dX10_told_10 ⟨by show _ ≤ lc - S0.1; have := hZ.1.1.1; have := hy2.1; omega, by show _ ≤ ls - S0.2.1; have := hZ.1.1.2; have := hy2.2; omega⟩) hP hD hS hA (fun r5 u4 H locs hv hP hD hS => ?_)
    obtain ⟨hv, hz, ha⟩ := hv
    have e1 : (f_Y0_enact S ((grC S x0 0).getD 0) (21 : Int32) (0 : Int32) (0 : Int32) (0 : Int32) (0 : Int32)).2.1 = u4.1.1 := by rw [← hv]
    have e2 : (f_Y0_enact S ((grC S x0 0).getD 0) (21 : Int32) (0 : Int32) (0 : Int32) (0 : Int32) (0 : Int32)).2.2.1 = u4.1.2.1 := by rw [← hv]
    refine cCells (cells' := u4.1.1 - S0.1) (slots' := u4.1.2.1 - S0.2.1) (by have := hZ.1.1.1; have := hy2.1; omega) (by have := hZ.1.1.2; have := hy2.2; omega) ?_
    rw [← ha x0 (k_x0.n hZ.1).1] at hl
    have hZ := hZ.n hz ha (by rw [← e1]; exact hy2.1.2) (by rw [← e2]; exact hy2.2.2)
    rw [← hv] at hE hp
    dsimp only at hE hp
    exact B_Y10_told_13a u4.1 u4.2 r5 _ _ _ hE hp hZ hP hD hS (lv_sub hl [0] rfl)
  exact cCells (Nat.sub_self _).symm (Nat.sub_self _).symm (B_M S0 ad0 _ _ _ hX hp (nH.rf S0 ad0 k_l) hP hD hS hl)
theorem gdX10_adjourn_0 : ckS (List.drop 0 cX10_adjourn.data.toList) 0 [(0, .aload_n 0, 1), (1, .getfield 10, 3), (4, .bipush 22, 2), (6, .iconst 0, 1), (7, .iconst 0, 1), (8, .iconst 0, 1), (9, .iconst 0, 1), (10, .invokevirtual 32, 3), (13, .ireturn, 1)] = true := by decide +kernel
theorem dX10_adjourn_0 : decode cX10_adjourn 0 = .ok (.aload_n 0, 1) := ckS_g gdX10_adjourn_0 0 rfl
theorem dX10_adjourn_1 : decode cX10_adjourn 1 = .ok (.getfield 10, 3) := ckS_g gdX10_adjourn_0 1 rfl
theorem dX10_adjourn_4 : decode cX10_adjourn 4 = .ok (.bipush 22, 2) := ckS_g gdX10_adjourn_0 2 rfl
theorem dX10_adjourn_6 : decode cX10_adjourn 6 = .ok (.iconst 0, 1) := ckS_g gdX10_adjourn_0 3 rfl
theorem dX10_adjourn_7 : decode cX10_adjourn 7 = .ok (.iconst 0, 1) := ckS_g gdX10_adjourn_0 4 rfl
theorem dX10_adjourn_8 : decode cX10_adjourn 8 = .ok (.iconst 0, 1) := ckS_g gdX10_adjourn_0 5 rfl
theorem dX10_adjourn_9 : decode cX10_adjourn 9 = .ok (.iconst 0, 1) := ckS_g gdX10_adjourn_0 6 rfl
theorem dX10_adjourn_10 : decode cX10_adjourn 10 = .ok (.invokevirtual 32, 3) := ckS_g gdX10_adjourn_0 7 rfl
theorem dX10_adjourn_13 : decode cX10_adjourn 13 = .ok (.ireturn, 1) := ckS_g gdX10_adjourn_0 8 rfl
set_option maxRecDepth 100000 in
theorem zc715 : wZ (.code yX10_adjourn cX10_adjourn 1 (some .int)) := ⟨wT4 (List.mem_of_getElem? (i := 111) rfl), Or.inl rfl⟩
def b_Y10_adjourn_13a (S : Cst) (x0 : Nat) (y0 : Int32) : Int32 × Cst := (y0, S)
def q_Y10_adjourn_13a (S : Cst) (x0 : Nat) (lc : Nat) (ls : Nat) (y0 : Int32) : Prop := True
def f_Y10_adjourn (S : Cst) (x0 : Nat) : Int32 × Cst := (b_Y10_adjourn_13a ((f_Y0_enact S ((grC S x0 0).getD 0) (22 : Int32) (0 : Int32) (0 : Int32) (0 : Int32) (0 : Int32)).2) x0 ((f_Y0_enact S ((grC S x0 0).getD 0) (22 : Int32) (0 : Int32) (0 : Int32) (0 : Int32) (0 : Int32)).1))
def p_Y10_adjourn (S : Cst) (x0 : Nat) (lc : Nat) (ls : Nat) : Prop := (iR S (grC S x0 0) 0) ∧ ((S.1 ≤ (f_Y0_enact S ((grC S x0 0).getD 0) (22 : Int32) (0 : Int32) (0 : Int32) (0 : Int32) (0 : Int32)).2.1 ∧ (f_Y0_enact S ((grC S x0 0).getD 0) (22 : Int32) (0 : Int32) (0 : Int32) (0 : Int32) (0 : Int32)).2.1 ≤ lc) ∧ (S.2.1 ≤ (f_Y0_enact S ((grC S x0 0).getD 0) (22 : Int32) (0 : Int32) (0 : Int32) (0 : Int32) (0 : Int32)).2.2.1 ∧ (f_Y0_enact S ((grC S x0 0).getD 0) (22 : Int32) (0 : Int32) (0 : Int32) (0 : Int32) (0 : Int32)).2.2.1 ≤ ls)) ∧ (p_Y0_enact S ((grC S x0 0).getD 0) (f_Y0_enact S ((grC S x0 0).getD 0) (22 : Int32) (0 : Int32) (0 : Int32) (0 : Int32) (0 : Int32)).2.1 (f_Y0_enact S ((grC S x0 0).getD 0) (22 : Int32) (0 : Int32) (0 : Int32) (0 : Int32) (0 : Int32)).2.2.1 (22 : Int32) (0 : Int32) (0 : Int32) (0 : Int32) (0 : Int32)) ∧ (q_Y10_adjourn_13a ((f_Y0_enact S ((grC S x0 0).getD 0) (22 : Int32) (0 : Int32) (0 : Int32) (0 : Int32) (0 : Int32)).2) x0 lc ls ((f_Y0_enact S ((grC S x0 0).getD 0) (22 : Int32) (0 : Int32) (0 : Int32) (0 : Int32) (0 : Int32)).1))
def e_Y10_adjourn : List Cond := [.fieldLink RX10 10 "MotionFloor" "now" "LMotionFloor$Assembly;", .methodLink RX10 32 yX0_enact, .instanceMethod yX0_enact, .selects RX0 yX0_enact yX0_enact, .initialized RX0]
def v_Y10_adjourn : List Cond := .code yX10_adjourn cX10_adjourn 1 (some .int) :: (e_Y10_adjourn ++ (wsX100 ++ (v_Y0_enact ++ [])))
theorem te_Y10_adjourn : GoodIn lw_tbl e_Y10_adjourn := wGc zc496 (wGc zc693 (wGc zc692 (wGc zc691 (wGc zc39 (wG0)))))
theorem t_Y10_adjourn : GoodIn lw_tbl v_Y10_adjourn := wGc zc715 (wGa te_Y10_adjourn (wGa zcX10 (wGa t_Y0_enact (wG0))))
set_option maxHeartbeats 4000000 in
set_option maxRecDepth 100000 in
theorem c_Y10_adjourn (l : Launch) (G : va_G) (K : Nat → ClassId) (ad0 : Nat → Nat) (S0 : Cst) (x0 : Nat) (lc : Nat) (ls : Nat)  (sz : Nat) : Met l yX10_adjourn v_Y10_adjourn ({ frames := 8, cells := lc - S0.1, slots := ls - S0.2.1, locals := 226 }) (va_Pc [.ref (ad0 x0)] (cSt G K ad0 sz S0 ((S0.1 ≤ lc ∧ S0.2.1 ≤ ls) ∧ iK S0 x0 7 ∧ p_Y10_adjourn S0 x0 lc ls))) (va_Qi (fun (r : Int32) (u : Cst × (Nat → Nat)) => (r, u.1) = f_Y10_adjourn S0 x0 ∧ eN S0 u.1 ∧ (∀ q, q < S0.1 → u.2 q = ad0 q)) (fun u t => cBt G K u.2 (va_A (wsC K ad0 S0) sz) u.1 t) (va_A (wsC K ad0 S0) sz)) (lc - S0.1) (ls - S0.2.1) (va_A (wsC K ad0 S0) sz) := by
  refine Met.ofW (cc := cX10_adjourn) (maxL := 1) (ret := (some .int)) (by decide) rfl ?_
  intro p e s m args below meth c s₁ B hml hv
  obtain ⟨rfl, ⟨hsz, hP, hK, hD0, hTE⟩, hp⟩ := hv
  obtain ⟨k_l, hp⟩ := hp
  obtain ⟨k_x0, hp⟩ := hp
  have hx := B.exec
  have hb := B.bytes
  have hr := B.returns
  have hts := atoms_spec (ws := v_Y10_adjourn) B.pre
  have t_ := t_Y10_adjourn
  have mw : ∀ w ∈ e_Y10_adjourn, w ∈ v_Y10_adjourn := fun w h => List.mem_cons_of_mem _ (List.mem_append_left _ h)
  have hw := fun w (h : w ∈ e_Y10_adjourn) => hts w (mw w h)
  have iX10 : ∀ w ∈ wsX100, w ∈ v_Y10_adjourn := fun w h => List.mem_cons_of_mem _ (List.mem_append_right _ (List.mem_append_left _ h))
  have j_Y0_enact : ∀ w ∈ v_Y0_enact, w ∈ v_Y10_adjourn := fun w h => List.mem_cons_of_mem _ (List.mem_append_right _ (List.mem_append_right _ (List.mem_append_left _ h)))
  have hown : s.vm.findClass RX10 = some m.cls := findClass_of_methodNamed B.named
  have hlocks := B.notSynchronized
  subst hsz
  have hD := hD0.self (sz := s.heap.size)
  generalize hAe : va_A (wsC K ad0 S0) s.heap.size = A at hD ⊢
  have hA : ∀ q : Nat, s.heap.size ≤ q → A q := fun q h => by rw [← hAe]; exact Or.inr h
  have hS : va_S A s.heap s.heap [] := va_S.rf
  have hl : lv_has (lg_sl ([.ref (ad0 x0)]) ++ List.replicate (1 - (lg_sl ([.ref (ad0 x0)])).length) Slot.unset).toArray 1 [(0, .ref (ad0 x0))] := by
    exact lv_entry ([.ref (ad0 x0)]) (n := 1) (Nat.le_of_ble_eq_true rfl)
  rw [lg_entry_eq]
  generalize (lg_sl ([.ref (ad0 x0)]) ++ List.replicate (1 - (lg_sl ([.ref (ad0 x0)])).length) Slot.unset).toArray = ls_ at hl ⊢
  refine wGen (fun Q hQ => ?_)
  obtain ⟨X, hX⟩ : ∃ X, f_Y10_adjourn S0 x0 = X := ⟨_, rfl⟩
  have B_Y10_adjourn_13a : ∀ (S : Cst) (ad : Nat → Nat) (y0 : Int32) (H : Heap) (locs : List Loc) (ls_ : Array Slot), b_Y10_adjourn_13a S x0 y0 = X → q_Y10_adjourn_13a S x0 lc ls y0 → nH S0 ad0 lc ls S ad → va_P G vwCl (wsC K ad S) H → va_D A (wsC K ad S) → va_S A s.heap H locs → lv_has ls_ 1 [(0, .ref (ad x0))] → W p l e ({ frames := 8, cells := lc - S0.1, slots := ls - S0.2.1, locals := 226 } : Room) s m #[Value.ref (ad0 x0)] below meth c H locs (S.1 - S0.1) (S.2.1 - S0.2.1) Q (F0 m 13 ls_ [.int y0]) := by
    intro S ad y0 H locs ls_ hE hp hZ hP hD hS hl
    unfold b_Y10_adjourn_13a at hE
    unfold q_Y10_adjourn_13a at hp
    refine W.widen (k := lc - S0.1) (n := ls - S0.2.1) (show S.1 - S0.1 ≤ lc - S0.1 from Nat.sub_le_sub_right hZ.2.2.1 _) (show S.2.1 - S0.2.1 ≤ ls - S0.2.1 from Nat.sub_le_sub_right hZ.2.2.2 _) ?_
    subst hQ
    exact W.iret (v := y0) hx hb hr (fun t ht hW => ⟨⟨y0, (S, ad), rfl, ⟨hE.trans hX.symm, hZ.1, hZ.2.1⟩, by rw [ht]; exact hP, hD⟩, hS.F ht⟩) hS.2.2 dX10_adjourn_13
  have B_M : ∀ (S : Cst) (ad : Nat → Nat) (H : Heap) (locs : List Loc) (ls_ : Array Slot), f_Y10_adjourn S x0 = X → p_Y10_adjourn S x0 lc ls → nH S0 ad0 lc ls S ad → va_P G vwCl (wsC K ad S) H → va_D A (wsC K ad S) → va_S A s.heap H locs → lv_has ls_ 1 [(0, .ref (ad x0))] → W p l e ({ frames := 8, cells := lc - S0.1, slots := ls - S0.2.1, locals := 226 } : Room) s m #[Value.ref (ad0 x0)] below meth c H locs (S.1 - S0.1) (S.2.1 - S0.2.1) Q (F0 m 0 ls_ []) := by
    intro S ad H locs ls_ hE hp hZ hP hD hS hl
    unfold f_Y10_adjourn at hE
    unfold p_Y10_adjourn at hp
    refine lv_aload_n hx hb dX10_adjourn_0 rfl (lv_at hl 0 rfl) ?_
    refine va_get (D := G) (ci := 7) (v := va_re ad (grC S x0 0)) (C := RX10) (T := TX10) (N := 5) hx hb hts iX10 hown hK hP x0 (at_7 (k_x0.n hZ.1)) rfl 0 (by decide) (hw (.fieldLink RX10 10 "MotionFloor" "now" "LMotionFloor$Assembly;") (List.mem_of_getElem? (i := 0) rfl)) (fun _ h9 => h9) rfl dX10_adjourn_1 ?_
    refine lv_bipush (v := 22) hx hb dX10_adjourn_4 (by decide) ?_
    refine lv_iconst (v := 0) hx hb dX10_adjourn_6 (by decide) ?_
    refine lv_iconst (v := 0) hx hb dX10_adjourn_7 (by decide) ?_
    refine lv_iconst (v := 0) hx hb dX10_adjourn_8 (by decide) ?_
    refine lv_iconst (v := 0) hx hb dX10_adjourn_9 (by decide) ?_
    obtain ⟨hy1, hp⟩ := hp
    refine cTop6 (r := (grC S x0 0)) hy1.1 ?_
    obtain ⟨hy2, hp⟩ := hp
    obtain ⟨hy3, hp⟩ := hp
    refine cNoi (va_runV (As := [.int 22, .int 0, .int 0, .int 0, .int 0]) (rest := []) ⟨hx, hb, hml, hown, hts⟩ (c_Y0_enact l G K ad S ((grC S x0 0).getD 0) (f_Y0_enact S ((grC S x0 0).getD 0) (22 : Int32) (0 : Int32) (0 : Int32) (0 : Int32) (0 : Int32)).2.1 (f_Y0_enact S ((grC S x0 0).getD 0) (22 : Int32) (0 : Int32) (0 : Int32) (0 : Int32) (0 : Int32)).2.2.1 (22 : Int32) (0 : Int32) (0 : Int32) (0 : Int32) (0 : Int32) _) (cwV 5 hts (wGV t_ (mw (.methodLink RX10 32 yX0_enact) (List.mem_of_getElem? (i := 1) rfl)) (mw (.instanceMethod yX0_enact) (List.mem_of_getElem? (i := 2) rfl)) (mw (.selects RX0 yX0_enact yX0_enact) (List.mem_of_getElem? (i := 3) rfl)) (mw (.initialized RX0) (List.mem_of_getElem? (i := 4) rfl)) j_Y0_enact) rfl rfl rfl (by decide +kernel) ⟨Nat.le_of_ble_eq_true rfl, Nat.le_of_ble_eq_true rfl⟩) (cPV hK hTE hP hD 0 rfl (at_0 hy1.2) ⟨⟨hy2.1.1, hy2.2.1⟩, hy1.2, hy3⟩) rfl rfl hl.1 rfl (lv_room (Nat.le_of_ble_eq_true rfl)) dX10_adjourn_10 ⟨by show _ ≤ lc - S0.1; have := hZ.1.1.1; have := hy2.1; omega, by show _ ≤ ls - S0.2.1; have := hZ.1.1.2; have := hy2.2; omega⟩) hP hD hS hA (fun r5 u4 H locs hv hP hD hS => ?_)
    obtain ⟨hv, hz, ha⟩ := hv
    have e1 : (f_Y0_enact S ((grC S x0 0).getD 0) (22 : Int32) (0 : Int32) (0 : Int32) (0 : Int32) (0 : Int32)).2.1 = u4.1.1 := by rw [← hv]
    have e2 : (f_Y0_enact S ((grC S x0 0).getD 0) (22 : Int32) (0 : Int32) (0 : Int32) (0 : Int32) (0 : Int32)).2.2.1 = u4.1.2.1 := by rw [← hv]
    refine cCells (cells' := u4.1.1 - S0.1) (slots' := u4.1.2.1 - S0.2.1) (by have := hZ.1.1.1; have := hy2.1; omega) (by have := hZ.1.1.2; have := hy2.2; omega) ?_
    rw [← ha x0 (k_x0.n hZ.1).1] at hl
    have hZ := hZ.n hz ha (by rw [← e1]; exact hy2.1.2) (by rw [← e2]; exact hy2.2.2)
    rw [← hv] at hE hp
    dsimp only at hE hp
    exact B_Y10_adjourn_13a u4.1 u4.2 r5 _ _ _ hE hp hZ hP hD hS (lv_sub hl [0] rfl)
  exact cCells (Nat.sub_self _).symm (Nat.sub_self _).symm (B_M S0 ad0 _ _ _ hX hp (nH.rf S0 ad0 k_l) hP hD hS hl)
theorem gdX10_before_0 : ckS (List.drop 0 cX10_before.data.toList) 0 [(0, .iload_n 1, 1), (1, .ifCond .lt 17, 3), (4, .iload_n 1, 1), (5, .aload_n 0, 1), (6, .getfield 10, 3), (9, .getfield 123, 3), (12, .getfield 126, 3), (15, .if_icmp .le 5, 3), (18, .iconst (-1), 1), (19, .ireturn, 1), (20, .aload_n 0, 1), (21, .getfield 10, 3), (24, .getfield 123, 3), (27, .astore 4, 2), (29, .aload_n 0, 1), (30, .getfield 16, 3), (33, .aload_n 0, 1), (34, .getfield 10, 3), (37, .getfield 88, 3), (40, .getfield 92, 3), (43, .invokevirtual 28, 3), (46, .iconst 0, 1), (47, .istore 5, 2), (49, .iload 5, 2), (51, .iload_n 1, 1), (52, .if_icmp .ge 57, 3), (55, .aload_n 0, 1), (56, .getfield 16, 3), (59, .aload 4, 2), (61, .iload 5, 2), (63, .iconst 0, 1), (64, .invokevirtual 86, 3), (67, .aload 4, 2), (69, .iload 5, 2), (71, .iconst 1, 1), (72, .invokevirtual 86, 3), (75, .aload 4, 2), (77, .iload 5, 2), (79, .iconst 2, 1), (80, .invokevirtual 86, 3)] = true := by decide +kernel
theorem dX10_before_0 : decode cX10_before 0 = .ok (.iload_n 1, 1) := ckS_g gdX10_before_0 0 rfl
theorem dX10_before_1 : decode cX10_before 1 = .ok (.ifCond .lt 17, 3) := ckS_g gdX10_before_0 1 rfl
theorem dX10_before_4 : decode cX10_before 4 = .ok (.iload_n 1, 1) := ckS_g gdX10_before_0 2 rfl
theorem dX10_before_5 : decode cX10_before 5 = .ok (.aload_n 0, 1) := ckS_g gdX10_before_0 3 rfl
theorem dX10_before_6 : decode cX10_before 6 = .ok (.getfield 10, 3) := ckS_g gdX10_before_0 4 rfl
theorem dX10_before_9 : decode cX10_before 9 = .ok (.getfield 123, 3) := ckS_g gdX10_before_0 5 rfl
theorem dX10_before_12 : decode cX10_before 12 = .ok (.getfield 126, 3) := ckS_g gdX10_before_0 6 rfl
theorem dX10_before_15 : decode cX10_before 15 = .ok (.if_icmp .le 5, 3) := ckS_g gdX10_before_0 7 rfl
theorem dX10_before_18 : decode cX10_before 18 = .ok (.iconst (-1), 1) := ckS_g gdX10_before_0 8 rfl
theorem dX10_before_19 : decode cX10_before 19 = .ok (.ireturn, 1) := ckS_g gdX10_before_0 9 rfl
theorem dX10_before_20 : decode cX10_before 20 = .ok (.aload_n 0, 1) := ckS_g gdX10_before_0 10 rfl
theorem dX10_before_21 : decode cX10_before 21 = .ok (.getfield 10, 3) := ckS_g gdX10_before_0 11 rfl
theorem dX10_before_24 : decode cX10_before 24 = .ok (.getfield 123, 3) := ckS_g gdX10_before_0 12 rfl
theorem dX10_before_27 : decode cX10_before 27 = .ok (.astore 4, 2) := ckS_g gdX10_before_0 13 rfl
theorem dX10_before_29 : decode cX10_before 29 = .ok (.aload_n 0, 1) := ckS_g gdX10_before_0 14 rfl
theorem dX10_before_30 : decode cX10_before 30 = .ok (.getfield 16, 3) := ckS_g gdX10_before_0 15 rfl
theorem dX10_before_33 : decode cX10_before 33 = .ok (.aload_n 0, 1) := ckS_g gdX10_before_0 16 rfl
theorem dX10_before_34 : decode cX10_before 34 = .ok (.getfield 10, 3) := ckS_g gdX10_before_0 17 rfl
theorem dX10_before_37 : decode cX10_before 37 = .ok (.getfield 88, 3) := ckS_g gdX10_before_0 18 rfl
theorem dX10_before_40 : decode cX10_before 40 = .ok (.getfield 92, 3) := ckS_g gdX10_before_0 19 rfl
theorem dX10_before_43 : decode cX10_before 43 = .ok (.invokevirtual 28, 3) := ckS_g gdX10_before_0 20 rfl
theorem dX10_before_46 : decode cX10_before 46 = .ok (.iconst 0, 1) := ckS_g gdX10_before_0 21 rfl
theorem dX10_before_47 : decode cX10_before 47 = .ok (.istore 5, 2) := ckS_g gdX10_before_0 22 rfl
theorem dX10_before_49 : decode cX10_before 49 = .ok (.iload 5, 2) := ckS_g gdX10_before_0 23 rfl
theorem dX10_before_51 : decode cX10_before 51 = .ok (.iload_n 1, 1) := ckS_g gdX10_before_0 24 rfl
theorem dX10_before_52 : decode cX10_before 52 = .ok (.if_icmp .ge 57, 3) := ckS_g gdX10_before_0 25 rfl
theorem dX10_before_55 : decode cX10_before 55 = .ok (.aload_n 0, 1) := ckS_g gdX10_before_0 26 rfl
theorem dX10_before_56 : decode cX10_before 56 = .ok (.getfield 16, 3) := ckS_g gdX10_before_0 27 rfl
theorem dX10_before_59 : decode cX10_before 59 = .ok (.aload 4, 2) := ckS_g gdX10_before_0 28 rfl
theorem dX10_before_61 : decode cX10_before 61 = .ok (.iload 5, 2) := ckS_g gdX10_before_0 29 rfl
theorem dX10_before_63 : decode cX10_before 63 = .ok (.iconst 0, 1) := ckS_g gdX10_before_0 30 rfl
theorem dX10_before_64 : decode cX10_before 64 = .ok (.invokevirtual 86, 3) := ckS_g gdX10_before_0 31 rfl
theorem dX10_before_67 : decode cX10_before 67 = .ok (.aload 4, 2) := ckS_g gdX10_before_0 32 rfl
theorem dX10_before_69 : decode cX10_before 69 = .ok (.iload 5, 2) := ckS_g gdX10_before_0 33 rfl
theorem dX10_before_71 : decode cX10_before 71 = .ok (.iconst 1, 1) := ckS_g gdX10_before_0 34 rfl
theorem dX10_before_72 : decode cX10_before 72 = .ok (.invokevirtual 86, 3) := ckS_g gdX10_before_0 35 rfl
theorem dX10_before_75 : decode cX10_before 75 = .ok (.aload 4, 2) := ckS_g gdX10_before_0 36 rfl
theorem dX10_before_77 : decode cX10_before 77 = .ok (.iload 5, 2) := ckS_g gdX10_before_0 37 rfl
theorem dX10_before_79 : decode cX10_before 79 = .ok (.iconst 2, 1) := ckS_g gdX10_before_0 38 rfl
theorem dX10_before_80 : decode cX10_before 80 = .ok (.invokevirtual 86, 3) := ckS_g gdX10_before_0 39 rfl
theorem gdX10_before_83 : ckS (List.drop 83 cX10_before.data.toList) 83 [(83, .aload 4, 2), (85, .iload 5, 2), (87, .iconst 3, 1), (88, .invokevirtual 86, 3), (91, .aload 4, 2), (93, .iload 5, 2), (95, .iconst 4, 1), (96, .invokevirtual 86, 3), (99, .invokevirtual 32, 3), (102, .pop, 1), (103, .iinc 5 1, 3), (106, .goto (-57), 3), (109, .aload_n 0, 1), (110, .getfield 16, 3), (113, .iload_n 2, 1), (114, .iload_n 3, 1), (115, .invokevirtual 62, 3), (118, .ireturn, 1)] = true := by decide +kernel
theorem dX10_before_83 : decode cX10_before 83 = .ok (.aload 4, 2) := ckS_g gdX10_before_83 0 rfl
theorem dX10_before_85 : decode cX10_before 85 = .ok (.iload 5, 2) := ckS_g gdX10_before_83 1 rfl
theorem dX10_before_87 : decode cX10_before 87 = .ok (.iconst 3, 1) := ckS_g gdX10_before_83 2 rfl
theorem dX10_before_88 : decode cX10_before 88 = .ok (.invokevirtual 86, 3) := ckS_g gdX10_before_83 3 rfl
theorem dX10_before_91 : decode cX10_before 91 = .ok (.aload 4, 2) := ckS_g gdX10_before_83 4 rfl
theorem dX10_before_93 : decode cX10_before 93 = .ok (.iload 5, 2) := ckS_g gdX10_before_83 5 rfl
theorem dX10_before_95 : decode cX10_before 95 = .ok (.iconst 4, 1) := ckS_g gdX10_before_83 6 rfl
theorem dX10_before_96 : decode cX10_before 96 = .ok (.invokevirtual 86, 3) := ckS_g gdX10_before_83 7 rfl
theorem dX10_before_99 : decode cX10_before 99 = .ok (.invokevirtual 32, 3) := ckS_g gdX10_before_83 8 rfl
theorem dX10_before_102 : decode cX10_before 102 = .ok (.pop, 1) := ckS_g gdX10_before_83 9 rfl
theorem dX10_before_103 : decode cX10_before 103 = .ok (.iinc 5 1, 3) := ckS_g gdX10_before_83 10 rfl
theorem dX10_before_106 : decode cX10_before 106 = .ok (.goto (-57), 3) := ckS_g gdX10_before_83 11 rfl
theorem dX10_before_109 : decode cX10_before 109 = .ok (.aload_n 0, 1) := ckS_g gdX10_before_83 12 rfl
theorem dX10_before_110 : decode cX10_before 110 = .ok (.getfield 16, 3) := ckS_g gdX10_before_83 13 rfl
theorem dX10_before_113 : decode cX10_before 113 = .ok (.iload_n 2, 1) := ckS_g gdX10_before_83 14 rfl
theorem dX10_before_114 : decode cX10_before 114 = .ok (.iload_n 3, 1) := ckS_g gdX10_before_83 15 rfl
theorem dX10_before_115 : decode cX10_before 115 = .ok (.invokevirtual 62, 3) := ckS_g gdX10_before_83 16 rfl
theorem dX10_before_118 : decode cX10_before 118 = .ok (.ireturn, 1) := ckS_g gdX10_before_83 17 rfl
set_option maxRecDepth 100000 in
theorem zc716 : wZ (.fieldLink RX10 16 "MotionFloor" "trial" "LMotionFloor$Assembly;") := ⟨wT1 (List.mem_of_getElem? (i := 238) (by decide +kernel)), Or.inl rfl⟩
set_option maxRecDepth 100000 in
theorem zc717 : wZ (.code yX10_before cX10_before 6 (some .int)) := ⟨wT4 (List.mem_of_getElem? (i := 196) rfl), Or.inl rfl⟩
def b_Y10_before_18 (S : Cst) (x0 : Nat) (x1 : Int32) (x2 : Int32) (x3 : Int32) : Int32 × Cst := (((-1) : Int32), S)
def q_Y10_before_18 (S : Cst) (x0 : Nat) (lc : Nat) (ls : Nat) (x1 : Int32) (x2 : Int32) (x3 : Int32) : Prop := True
def b_Y10_before_102a (S : Cst) (x0 : Nat) (x1 : Int32) (x2 : Int32) (x3 : Int32) (x4 : Option Nat) (x5 : Int32) (y0 : Int32) : (Int32 × Cst) ⊕ (Cst × Int32 × Int32 × Int32 × (Option Nat) × Int32) := Sum.inr (S, x1, x2, x3, x4, (x5 + 1))
def q_Y10_before_102a (S : Cst) (x0 : Nat) (lc : Nat) (ls : Nat) (x1 : Int32) (x2 : Int32) (x3 : Int32) (x4 : Option Nat) (x5 : Int32) (y0 : Int32) : Prop := True
def st_Y10_before_49 (S : Cst) (x0 : Nat) (x1 : Int32) (x2 : Int32) (x3 : Int32) (x4 : Option Nat) (x5 : Int32) : (Int32 × Cst) ⊕ (Cst × Int32 × Int32 × Int32 × (Option Nat) × Int32) := if x1 ≤ x5 then Sum.inl (((f_Y0_wordOf S ((grC S x0 1).getD 0) x2 x3), S)) else (b_Y10_before_102a ((f_Y0_enact S ((grC S x0 1).getD 0) (f_Y3_at S (x4.getD 0) x5 (0 : Int32)) (f_Y3_at S (x4.getD 0) x5 (1 : Int32)) (f_Y3_at S (x4.getD 0) x5 (2 : Int32)) (f_Y3_at S (x4.getD 0) x5 (3 : Int32)) (f_Y3_at S (x4.getD 0) x5 (4 : Int32))).2) x0 x1 x2 x3 x4 x5 ((f_Y0_enact S ((grC S x0 1).getD 0) (f_Y3_at S (x4.getD 0) x5 (0 : Int32)) (f_Y3_at S (x4.getD 0) x5 (1 : Int32)) (f_Y3_at S (x4.getD 0) x5 (2 : Int32)) (f_Y3_at S (x4.getD 0) x5 (3 : Int32)) (f_Y3_at S (x4.getD 0) x5 (4 : Int32))).1))
def ps_Y10_before_49 (S : Cst) (x0 : Nat) (lc : Nat) (ls : Nat) (x1 : Int32) (x2 : Int32) (x3 : Int32) (x4 : Option Nat) (x5 : Int32) : Prop := (if x1 ≤ x5 then (iR S (grC S x0 1) 0) ∧ (p_Y0_wordOf S ((grC S x0 1).getD 0) x2 x3) ∧ True else (iR S x4 2) ∧ (p_Y3_at S (x4.getD 0) x5 (0 : Int32)) ∧ (iR S x4 2) ∧ (p_Y3_at S (x4.getD 0) x5 (1 : Int32)) ∧ (iR S x4 2) ∧ (p_Y3_at S (x4.getD 0) x5 (2 : Int32)) ∧ (iR S x4 2) ∧ (p_Y3_at S (x4.getD 0) x5 (3 : Int32)) ∧ (iR S x4 2) ∧ (p_Y3_at S (x4.getD 0) x5 (4 : Int32)) ∧ (iR S (grC S x0 1) 0) ∧ ((S.1 ≤ (f_Y0_enact S ((grC S x0 1).getD 0) (f_Y3_at S (x4.getD 0) x5 (0 : Int32)) (f_Y3_at S (x4.getD 0) x5 (1 : Int32)) (f_Y3_at S (x4.getD 0) x5 (2 : Int32)) (f_Y3_at S (x4.getD 0) x5 (3 : Int32)) (f_Y3_at S (x4.getD 0) x5 (4 : Int32))).2.1 ∧ (f_Y0_enact S ((grC S x0 1).getD 0) (f_Y3_at S (x4.getD 0) x5 (0 : Int32)) (f_Y3_at S (x4.getD 0) x5 (1 : Int32)) (f_Y3_at S (x4.getD 0) x5 (2 : Int32)) (f_Y3_at S (x4.getD 0) x5 (3 : Int32)) (f_Y3_at S (x4.getD 0) x5 (4 : Int32))).2.1 ≤ lc) ∧ (S.2.1 ≤ (f_Y0_enact S ((grC S x0 1).getD 0) (f_Y3_at S (x4.getD 0) x5 (0 : Int32)) (f_Y3_at S (x4.getD 0) x5 (1 : Int32)) (f_Y3_at S (x4.getD 0) x5 (2 : Int32)) (f_Y3_at S (x4.getD 0) x5 (3 : Int32)) (f_Y3_at S (x4.getD 0) x5 (4 : Int32))).2.2.1 ∧ (f_Y0_enact S ((grC S x0 1).getD 0) (f_Y3_at S (x4.getD 0) x5 (0 : Int32)) (f_Y3_at S (x4.getD 0) x5 (1 : Int32)) (f_Y3_at S (x4.getD 0) x5 (2 : Int32)) (f_Y3_at S (x4.getD 0) x5 (3 : Int32)) (f_Y3_at S (x4.getD 0) x5 (4 : Int32))).2.2.1 ≤ ls)) ∧ (p_Y0_enact S ((grC S x0 1).getD 0) (f_Y0_enact S ((grC S x0 1).getD 0) (f_Y3_at S (x4.getD 0) x5 (0 : Int32)) (f_Y3_at S (x4.getD 0) x5 (1 : Int32)) (f_Y3_at S (x4.getD 0) x5 (2 : Int32)) (f_Y3_at S (x4.getD 0) x5 (3 : Int32)) (f_Y3_at S (x4.getD 0) x5 (4 : Int32))).2.1 (f_Y0_enact S ((grC S x0 1).getD 0) (f_Y3_at S (x4.getD 0) x5 (0 : Int32)) (f_Y3_at S (x4.getD 0) x5 (1 : Int32)) (f_Y3_at S (x4.getD 0) x5 (2 : Int32)) (f_Y3_at S (x4.getD 0) x5 (3 : Int32)) (f_Y3_at S (x4.getD 0) x5 (4 : Int32))).2.2.1 (f_Y3_at S (x4.getD 0) x5 (0 : Int32)) (f_Y3_at S (x4.getD 0) x5 (1 : Int32)) (f_Y3_at S (x4.getD 0) x5 (2 : Int32)) (f_Y3_at S (x4.getD 0) x5 (3 : Int32)) (f_Y3_at S (x4.getD 0) x5 (4 : Int32))) ∧ (vR S x4) ∧ (q_Y10_before_102a ((f_Y0_enact S ((grC S x0 1).getD 0) (f_Y3_at S (x4.getD 0) x5 (0 : Int32)) (f_Y3_at S (x4.getD 0) x5 (1 : Int32)) (f_Y3_at S (x4.getD 0) x5 (2 : Int32)) (f_Y3_at S (x4.getD 0) x5 (3 : Int32)) (f_Y3_at S (x4.getD 0) x5 (4 : Int32))).2) x0 lc ls x1 x2 x3 x4 x5 ((f_Y0_enact S ((grC S x0 1).getD 0) (f_Y3_at S (x4.getD 0) x5 (0 : Int32)) (f_Y3_at S (x4.getD 0) x5 (1 : Int32)) (f_Y3_at S (x4.getD 0) x5 (2 : Int32)) (f_Y3_at S (x4.getD 0) x5 (3 : Int32)) (f_Y3_at S (x4.getD 0) x5 (4 : Int32))).1)))
def lp_Y10_before_49 (x0 : Nat) : Nat → Cst → Int32 → Int32 → Int32 → (Option Nat) → Int32 → Int32 × Cst
  | 0, S, _, _, _, _, _ => (0, S)
  | n + 1, S, x1, x2, x3, x4, x5 => match st_Y10_before_49 S x0 x1 x2 x3 x4 x5 with
    | Sum.inl r => r
    | Sum.inr q => lp_Y10_before_49 x0 n q.1 q.2.1 q.2.2.1 q.2.2.2.1 q.2.2.2.2.1 q.2.2.2.2.2
def lq_Y10_before_49 (x0 : Nat) (lc : Nat) (ls : Nat) : Nat → Cst → Int32 → Int32 → Int32 → (Option Nat) → Int32 → Prop
  | 0, _, _, _, _, _, _ => False
  | n + 1, S, x1, x2, x3, x4, x5 => ps_Y10_before_49 S x0 lc ls x1 x2 x3 x4 x5 ∧ (match st_Y10_before_49 S x0 x1 x2 x3 x4 x5 with
    | Sum.inl _ => True
    | Sum.inr q => lq_Y10_before_49 x0 lc ls n q.1 q.2.1 q.2.2.1 q.2.2.2.1 q.2.2.2.2.1 q.2.2.2.2.2)
def b_Y10_before_46a (S : Cst) (x0 : Nat) (x1 : Int32) (x2 : Int32) (x3 : Int32) (x4 : Option Nat) : Int32 × Cst := (lp_Y10_before_49 x0 100000 S x1 x2 x3 x4 0)
def q_Y10_before_46a (S : Cst) (x0 : Nat) (lc : Nat) (ls : Nat) (x1 : Int32) (x2 : Int32) (x3 : Int32) (x4 : Option Nat) : Prop := (lq_Y10_before_49 x0 lc ls 100000 S x1 x2 x3 x4 0)
def f_Y10_before (S : Cst) (x0 : Nat) (x1 : Int32) (x2 : Int32) (x3 : Int32) : Int32 × Cst := if x1 < 0 then (b_Y10_before_18 S x0 x1 x2 x3) else if x1 ≤ (giC S ((grC S ((grC S x0 0).getD 0) 4).getD 0) 3) then (b_Y10_before_46a ((f_Y0_begin S ((grC S x0 1).getD 0) (giC S ((grC S ((grC S x0 0).getD 0) 0).getD 0) 0)).2) x0 x1 x2 x3 (grC S ((grC S x0 0).getD 0) 4)) else (b_Y10_before_18 S x0 x1 x2 x3)
def p_Y10_before (S : Cst) (x0 : Nat) (lc : Nat) (ls : Nat) (x1 : Int32) (x2 : Int32) (x3 : Int32) : Prop := (if x1 < 0 then (q_Y10_before_18 S x0 lc ls x1 x2 x3) else (iR S (grC S x0 0) 0) ∧ (iR S (grC S ((grC S x0 0).getD 0) 4) 2) ∧ (if x1 ≤ (giC S ((grC S ((grC S x0 0).getD 0) 4).getD 0) 3) then (iR S (grC S x0 0) 0) ∧ (iR S (grC S x0 0) 0) ∧ (iR S (grC S ((grC S x0 0).getD 0) 0) 1) ∧ (iR S (grC S x0 1) 0) ∧ (p_Y0_begin S ((grC S x0 1).getD 0) (giC S ((grC S ((grC S x0 0).getD 0) 0).getD 0) 0)) ∧ (q_Y10_before_46a ((f_Y0_begin S ((grC S x0 1).getD 0) (giC S ((grC S ((grC S x0 0).getD 0) 0).getD 0) 0)).2) x0 lc ls x1 x2 x3 (grC S ((grC S x0 0).getD 0) 4)) else (q_Y10_before_18 S x0 lc ls x1 x2 x3)))
def e_Y10_before : List Cond := [.fieldLink RX10 10 "MotionFloor" "now" "LMotionFloor$Assembly;", .fieldLink RX10 123 "MotionFloor$Assembly" "minutes" "LMotionFloor$Ledger;", .fieldLink RX10 126 "MotionFloor$Ledger" "size" "I", .fieldLink RX10 16 "MotionFloor" "trial" "LMotionFloor$Assembly;", .fieldLink RX10 88 "MotionFloor$Assembly" "house" "LMotionFloor$House;", .fieldLink RX10 92 "MotionFloor$House" "seats" "I", .methodLink RX10 28 yX0_begin, .instanceMethod yX0_begin, .selects RX0 yX0_begin yX0_begin, .initialized RX0, .methodLink RX10 62 yX0_wordOf, .instanceMethod yX0_wordOf, .selects RX0 yX0_wordOf yX0_wordOf, .methodLink RX10 86 yX3_at, .instanceMethod yX3_at, .selects RX3 yX3_at yX3_at, .initialized RX3, .methodLink RX10 32 yX0_enact, .instanceMethod yX0_enact, .selects RX0 yX0_enact yX0_enact]
def v_Y10_before : List Cond := .code yX10_before cX10_before 6 (some .int) :: (e_Y10_before ++ (wsX100 ++ (wsX00 ++ (wsX30 ++ (wsX20 ++ (v_Y0_begin ++ (v_Y0_wordOf ++ (v_Y3_at ++ (v_Y0_enact ++ [])))))))))
theorem te_Y10_before : GoodIn lw_tbl e_Y10_before := wGc zc496 (wGc zc535 (wGc zc534 (wGc zc716 (wGc zc545 (wGc zc544 (wGc zc495 (wGc zc494 (wGc zc493 (wGc zc39 (wGc zc511 (wGc zc510 (wGc zc509 (wGc zc527 (wGc zc526 (wGc zc525 (wGc zc480 (wGc zc693 (wGc zc692 (wGc zc691 (wG0))))))))))))))))))))
theorem t_Y10_before : GoodIn lw_tbl v_Y10_before := wGc zc717 (wGa te_Y10_before (wGa zcX10 (wGa zcX0 (wGa zcX3 (wGa zcX2 (wGa t_Y0_begin (wGa t_Y0_wordOf (wGa t_Y3_at (wGa t_Y0_enact (wG0))))))))))
set_option maxHeartbeats 4000000 in
set_option maxRecDepth 100000 in
theorem c_Y10_before (l : Launch) (G : va_G) (K : Nat → ClassId) (ad0 : Nat → Nat) (S0 : Cst) (x0 : Nat) (lc : Nat) (ls : Nat) (a1 : Int32) (a2 : Int32) (a3 : Int32) (sz : Nat) : Met l yX10_before v_Y10_before ({ frames := 8, cells := lc - S0.1, slots := ls - S0.2.1, locals := 226 }) (va_Pc [.ref (ad0 x0), .int a1, .int a2, .int a3] (cSt G K ad0 sz S0 ((S0.1 ≤ lc ∧ S0.2.1 ≤ ls) ∧ iK S0 x0 7 ∧ p_Y10_before S0 x0 lc ls a1 a2 a3))) (va_Qi (fun (r : Int32) (u : Cst × (Nat → Nat)) => (r, u.1) = f_Y10_before S0 x0 a1 a2 a3 ∧ eN S0 u.1 ∧ (∀ q, q < S0.1 → u.2 q = ad0 q)) (fun u t => cBt G K u.2 (va_A (wsC K ad0 S0) sz) u.1 t) (va_A (wsC K ad0 S0) sz)) (lc - S0.1) (ls - S0.2.1) (va_A (wsC K ad0 S0) sz) := by
  refine Met.ofW (cc := cX10_before) (maxL := 6) (ret := (some .int)) (by decide) rfl ?_
  intro p e s m args below meth c s₁ B hml hv
  obtain ⟨rfl, ⟨hsz, hP, hK, hD0, hTE⟩, hp⟩ := hv
  obtain ⟨k_l, hp⟩ := hp
  obtain ⟨k_x0, hp⟩ := hp
  have hx := B.exec
  have hb := B.bytes
  have hr := B.returns
  have hts := atoms_spec (ws := v_Y10_before) B.pre
  have t_ := t_Y10_before
  have mw : ∀ w ∈ e_Y10_before, w ∈ v_Y10_before := fun w h => List.mem_cons_of_mem _ (List.mem_append_left _ h)
  have hw := fun w (h : w ∈ e_Y10_before) => hts w (mw w h)
  have iX10 : ∀ w ∈ wsX100, w ∈ v_Y10_before := fun w h => List.mem_cons_of_mem _ (List.mem_append_right _ (List.mem_append_left _ h))
  have iX0 : ∀ w ∈ wsX00, w ∈ v_Y10_before := fun w h => List.mem_cons_of_mem _ (List.mem_append_right _ (List.mem_append_right _ (List.mem_append_left _ h)))
  have iX3 : ∀ w ∈ wsX30, w ∈ v_Y10_before := fun w h => List.mem_cons_of_mem _ (List.mem_append_right _ (List.mem_append_right _ (List.mem_append_right _ (List.mem_append_left _ h))))
  have iX2 : ∀ w ∈ wsX20, w ∈ v_Y10_before := fun w h => List.mem_cons_of_mem _ (List.mem_append_right _ (List.mem_append_right _ (List.mem_append_right _ (List.mem_append_right _ (List.mem_append_left _ h)))))
  have j_Y0_begin : ∀ w ∈ v_Y0_begin, w ∈ v_Y10_before := fun w h => List.mem_cons_of_mem _ (List.mem_append_right _ (List.mem_append_right _ (List.mem_append_right _ (List.mem_append_right _ (List.mem_append_right _ (List.mem_append_left _ h))))))
  have j_Y0_wordOf : ∀ w ∈ v_Y0_wordOf, w ∈ v_Y10_before := fun w h => List.mem_cons_of_mem _ (List.mem_append_right _ (List.mem_append_right _ (List.mem_append_right _ (List.mem_append_right _ (List.mem_append_right _ (List.mem_append_right _ (List.mem_append_left _ h)))))))
  have j_Y3_at : ∀ w ∈ v_Y3_at, w ∈ v_Y10_before := fun w h => List.mem_cons_of_mem _ (List.mem_append_right _ (List.mem_append_right _ (List.mem_append_right _ (List.mem_append_right _ (List.mem_append_right _ (List.mem_append_right _ (List.mem_append_right _ (List.mem_append_left _ h))))))))
  have j_Y0_enact : ∀ w ∈ v_Y0_enact, w ∈ v_Y10_before := fun w h => List.mem_cons_of_mem _ (List.mem_append_right _ (List.mem_append_right _ (List.mem_append_right _ (List.mem_append_right _ (List.mem_append_right _ (List.mem_append_right _ (List.mem_append_right _ (List.mem_append_right _ (List.mem_append_left _ h)))))))))
  have hown : s.vm.findClass RX10 = some m.cls := findClass_of_methodNamed B.named
  have hlocks := B.notSynchronized
  subst hsz
  have hD := hD0.self (sz := s.heap.size)
  generalize hAe : va_A (wsC K ad0 S0) s.heap.size = A at hD ⊢
  have hA : ∀ q : Nat, s.heap.size ≤ q → A q := fun q h => by rw [← hAe]; exact Or.inr h
  have hS : va_S A s.heap s.heap [] := va_S.rf
  have hl : lv_has (lg_sl ([.ref (ad0 x0), .int a1, .int a2, .int a3]) ++ List.replicate (6 - (lg_sl ([.ref (ad0 x0), .int a1, .int a2, .int a3])).length) Slot.unset).toArray 6 [(0, .ref (ad0 x0)), (1, .int a1), (2, .int a2), (3, .int a3)] := by
    exact lv_entry ([.ref (ad0 x0), .int a1, .int a2, .int a3]) (n := 6) (Nat.le_of_ble_eq_true rfl)
  rw [lg_entry_eq]
  generalize (lg_sl ([.ref (ad0 x0), .int a1, .int a2, .int a3]) ++ List.replicate (6 - (lg_sl ([.ref (ad0 x0), .int a1, .int a2, .int a3])).length) Slot.unset).toArray = ls_ at hl ⊢
  refine wGen (fun Q hQ => ?_)
  obtain ⟨X, hX⟩ : ∃ X, f_Y10_before S0 x0 a1 a2 a3 = X := ⟨_, rfl⟩
  have B_Y10_before_18 : ∀ (S : Cst) (ad : Nat → Nat) (x1 : Int32) (x2 : Int32) (x3 : Int32) (H : Heap) (locs : List Loc) (ls_ : Array Slot), b_Y10_before_18 S x0 x1 x2 x3 = X → q_Y10_before_18 S x0 lc ls x1 x2 x3 → nH S0 ad0 lc ls S ad → va_P G vwCl (wsC K ad S) H → va_D A (wsC K ad S) → va_S A s.heap H locs → lv_has ls_ 6 [(0, .ref (ad x0)), (1, .int x1), (2, .int x2), (3, .int x3)] → W p l e ({ frames := 8, cells := lc - S0.1, slots := ls - S0.2.1, locals := 226 } : Room) s m #[Value.ref (ad0 x0), Value.int a1, Value.int a2, Value.int a3] below meth c H locs (S.1 - S0.1) (S.2.1 - S0.2.1) Q (F0 m 18 ls_ []) := by
    intro S ad x1 x2 x3 H locs ls_ hE hp hZ hP hD hS hl
    unfold b_Y10_before_18 at hE
    unfold q_Y10_before_18 at hp
    refine lv_iconst (v := (-1)) hx hb dX10_before_18 (by decide) ?_
    refine W.widen (k := lc - S0.1) (n := ls - S0.2.1) (show S.1 - S0.1 ≤ lc - S0.1 from Nat.sub_le_sub_right hZ.2.2.1 _) (show S.2.1 - S0.2.1 ≤ ls - S0.2.1 from Nat.sub_le_sub_right hZ.2.2.2 _) ?_
    subst hQ
    exact W.iret (v := ((-1) : Int32)) hx hb hr (fun t ht hW => ⟨⟨((-1) : Int32), (S, ad), rfl, ⟨hE.trans hX.symm, hZ.1, hZ.2.1⟩, by rw [ht]; exact hP, hD⟩, hS.F ht⟩) hS.2.2 dX10_before_19
  have L_49 : ∀ (n : Nat) (S : Cst) (ad : Nat → Nat) (x1 : Int32) (x2 : Int32) (x3 : Int32) (x4 : Option Nat) (x5 : Int32) (H : Heap) (locs : List Loc) (ls_ : Array Slot), lp_Y10_before_49 x0 n S x1 x2 x3 x4 x5 = X → lq_Y10_before_49 x0 lc ls n S x1 x2 x3 x4 x5 → nH S0 ad0 lc ls S ad → va_P G vwCl (wsC K ad S) H → va_D A (wsC K ad S) → va_S A s.heap H locs → lv_has ls_ 6 [(0, .ref (ad x0)), (1, .int x1), (2, .int x2), (3, .int x3), (4, va_re ad x4), (5, .int x5)] → W p l e ({ frames := 8, cells := lc - S0.1, slots := ls - S0.2.1, locals := 226 } : Room) s m #[Value.ref (ad0 x0), Value.int a1, Value.int a2, Value.int a3] below meth c H locs (S.1 - S0.1) (S.2.1 - S0.2.1) Q (F0 m 49 ls_ []) := by
    intro n1
    induction n1 with
    | zero => intro S ad x1 x2 x3 x4 x5 H locs ls_ hE hp; exact False.elim hp
    | succ n1 ih1 =>
      intro S ad x1 x2 x3 x4 x5 H locs ls_ hO1 hp hZ hP hD hS hl
      rw [lp_Y10_before_49] at hO1
      rw [lq_Y10_before_49] at hp
      obtain ⟨hp, hq1⟩ := hp
      generalize hE : st_Y10_before_49 S x0 x1 x2 x3 x4 x5 = Y1 at hO1 hq1
      unfold st_Y10_before_49 at hE
      unfold ps_Y10_before_49 at hp
      have B_Y10_before_102a : ∀ (S : Cst) (ad : Nat → Nat) (x1 : Int32) (x2 : Int32) (x3 : Int32) (x4 : Option Nat) (x5 : Int32) (y0 : Int32) (H : Heap) (locs : List Loc) (ls_ : Array Slot), b_Y10_before_102a S x0 x1 x2 x3 x4 x5 y0 = Y1 → q_Y10_before_102a S x0 lc ls x1 x2 x3 x4 x5 y0 → nH S0 ad0 lc ls S ad → va_P G vwCl (wsC K ad S) H → va_D A (wsC K ad S) → va_S A s.heap H locs → lv_has ls_ 6 [(0, .ref (ad x0)), (1, .int x1), (2, .int x2), (3, .int x3), (4, va_re ad x4), (5, .int x5)] → W p l e ({ frames := 8, cells := lc - S0.1, slots := ls - S0.2.1, locals := 226 } : Room) s m #[Value.ref (ad0 x0), Value.int a1, Value.int a2, Value.int a3] below meth c H locs (S.1 - S0.1) (S.2.1 - S0.2.1) Q (F0 m 102 ls_ [.int y0]) := by
        intro S ad x1 x2 x3 x4 x5 y0 H locs ls_ hE hp hZ hP hD hS hl
        unfold b_Y10_before_102a at hE
        unfold q_Y10_before_102a at hp
        refine lv_pop hx hb dX10_before_102 rfl ?_
        refine lv_iinc (i := 5) (v := (x5 + 1)) (lv' := [(5, .int (x5 + 1)), (0, .ref (ad x0)), (1, .int x1), (2, .int x2), (3, .int x3), (4, va_re ad x4)]) hx hb dX10_before_103 hl (k := 5) rfl rfl (by decide) (by simp [List.filter, re_cat]) (fun ls_ hl => ?_)
        refine lv_goto (tgt := 49) hx hb dX10_before_106 (by decide) ?_
        subst hE
        dsimp only at hO1 hq1
        exact ih1 S ad x1 x2 x3 x4 (x5 + 1) _ _ _ hO1 hq1 hZ hP hD hS (lv_sub hl [1, 2, 3, 4, 5, 0] rfl)
      refine lv_iload hx hb dX10_before_49 (lv_at hl 5 rfl) ?_
      refine lv_iload_n hx hb dX10_before_51 rfl (lv_at hl 1 rfl) ?_
      refine lv_icmp_ge (tgt := 109) hx hb dX10_before_52 (by decide) (fun c12 => ?_) (fun c12 => ?_)
      · rw [if_pos c12] at hE hp
        subst hE
        have hE := hO1
        dsimp only at hE
        refine lv_aload_n hx hb dX10_before_109 rfl (lv_at hl 0 rfl) ?_
        refine va_get (D := G) (ci := 7) (v := va_re ad (grC S x0 1)) (C := RX10) (T := TX10) (N := 5) hx hb hts iX10 hown hK hP x0 (at_7 (k_x0.n hZ.1)) rfl 1 (by decide) (hw (.fieldLink RX10 16 "MotionFloor" "trial" "LMotionFloor$Assembly;") (List.mem_of_getElem? (i := 3) rfl)) (fun _ h9 => h9) rfl dX10_before_110 ?_
        refine lv_iload_n hx hb dX10_before_113 rfl (lv_at hl 2 rfl) ?_
        refine lv_iload_n hx hb dX10_before_114 rfl (lv_at hl 3 rfl) ?_
        obtain ⟨hy13, hp⟩ := hp
        refine cTop3 (r := (grC S x0 1)) hy13.1 ?_
        obtain ⟨hy14, hp⟩ := hp
        refine cGoi (va_runV (As := [.int x2, .int x3]) (rest := []) ⟨hx, hb, hml, hown, hts⟩ (c_Y0_wordOf l G K ad S ((grC S x0 1).getD 0) x2 x3 _) (cwV 2 hts (wGV t_ (mw (.methodLink RX10 62 yX0_wordOf) (List.mem_of_getElem? (i := 10) rfl)) (mw (.instanceMethod yX0_wordOf) (List.mem_of_getElem? (i := 11) rfl)) (mw (.selects RX0 yX0_wordOf yX0_wordOf) (List.mem_of_getElem? (i := 12) rfl)) (mw (.initialized RX0) (List.mem_of_getElem? (i := 9) rfl)) j_Y0_wordOf) rfl rfl rfl (by decide +kernel) ⟨Nat.le_of_ble_eq_true rfl, Nat.le_of_ble_eq_true rfl⟩) (cPV hK hTE hP hD 0 rfl (at_0 hy13.2) ⟨hy13.2, hy14⟩) rfl rfl hl.1 rfl (lv_room (Nat.le_of_ble_eq_true rfl)) dX10_before_115 ⟨(show S.1 - S0.1 ≤ lc - S0.1 from Nat.sub_le_sub_right hZ.2.2.1 _), (show S.2.1 - S0.2.1 ≤ ls - S0.2.1 from Nat.sub_le_sub_right hZ.2.2.2 _)⟩) hP hD hS hA (fun r16 u15 H locs hv hP hD hS => ?_)
        have h1 := congrArg Prod.fst hv
        have h2 := (congrArg Prod.snd hv).symm
        dsimp only at h1 h2
        subst h1
        subst h2
        refine W.widen (k := lc - S0.1) (n := ls - S0.2.1) (show S.1 - S0.1 ≤ lc - S0.1 from Nat.sub_le_sub_right hZ.2.2.1 _) (show S.2.1 - S0.2.1 ≤ ls - S0.2.1 from Nat.sub_le_sub_right hZ.2.2.2 _) ?_
        subst hQ
        exact W.iret (v := (f_Y0_wordOf S ((grC S x0 1).getD 0) x2 x3)) hx hb hr (fun t ht hW => ⟨⟨(f_Y0_wordOf S ((grC S x0 1).getD 0) x2 x3), (S, ad), rfl, ⟨hE.trans hX.symm, hZ.1, hZ.2.1⟩, by rw [ht]; exact hP, hD⟩, hS.F ht⟩) hS.2.2 dX10_before_118
      · rw [if_neg c12] at hE hp
        refine lv_aload_n hx hb dX10_before_55 rfl (lv_at hl 0 rfl) ?_
        refine va_get (D := G) (ci := 7) (v := va_re ad (grC S x0 1)) (C := RX10) (T := TX10) (N := 5) hx hb hts iX10 hown hK hP x0 (at_7 (k_x0.n hZ.1)) rfl 1 (by decide) (hw (.fieldLink RX10 16 "MotionFloor" "trial" "LMotionFloor$Assembly;") (List.mem_of_getElem? (i := 3) rfl)) (fun _ h9 => h9) rfl dX10_before_56 ?_
        refine cAload (ad := ad) (r := x4) hx hb dX10_before_59 (lv_at hl 4 rfl) ?_
        refine lv_iload hx hb dX10_before_61 (lv_at hl 5 rfl) ?_
        refine lv_iconst (v := 0) hx hb dX10_before_63 (by decide) ?_
        obtain ⟨hy17, hp⟩ := hp
        refine cTop3 (r := x4) hy17.1 ?_
        obtain ⟨hy18, hp⟩ := hp
        refine cGoi (va_runV (As := [.int x5, .int 0]) (rest := [va_re ad (grC S x0 1)]) ⟨hx, hb, hml, hown, hts⟩ (c_Y3_at l G K ad S (x4.getD 0) x5 (0 : Int32) _) (cwV 2 hts (wGV t_ (mw (.methodLink RX10 86 yX3_at) (List.mem_of_getElem? (i := 13) rfl)) (mw (.instanceMethod yX3_at) (List.mem_of_getElem? (i := 14) rfl)) (mw (.selects RX3 yX3_at yX3_at) (List.mem_of_getElem? (i := 15) rfl)) (mw (.initialized RX3) (List.mem_of_getElem? (i := 16) rfl)) j_Y3_at) rfl rfl rfl (by decide +kernel) ⟨Nat.le_of_ble_eq_true rfl, Nat.le_of_ble_eq_true rfl⟩) (cPV hK hTE hP hD 2 rfl (at_2 hy17.2) ⟨hy17.2, hy18⟩) rfl rfl hl.1 rfl (lv_room (by simp only [List.map_cons, List.map_nil, List.sum_cons, List.sum_nil, re_cat]; exact Nat.le_of_ble_eq_true rfl)) dX10_before_64 ⟨(show S.1 - S0.1 ≤ lc - S0.1 from Nat.sub_le_sub_right hZ.2.2.1 _), (show S.2.1 - S0.2.1 ≤ ls - S0.2.1 from Nat.sub_le_sub_right hZ.2.2.2 _)⟩) hP hD hS hA (fun r20 u19 H locs hv hP hD hS => ?_)
        have h1 := congrArg Prod.fst hv
        have h2 := (congrArg Prod.snd hv).symm
        dsimp only at h1 h2
        subst h1
        subst h2
        refine cAload (ad := ad) (r := x4) hx hb dX10_before_67 (lv_at hl 4 rfl) ?_
        refine lv_iload hx hb dX10_before_69 (lv_at hl 5 rfl) ?_
        refine lv_iconst (v := 1) hx hb dX10_before_71 (by decide) ?_
        obtain ⟨hy21, hp⟩ := hp
        refine cTop3 (r := x4) hy21.1 ?_
        obtain ⟨hy22, hp⟩ := hp
        refine cGoi (va_runV (As := [.int x5, .int 1]) (rest := [.int (f_Y3_at S (x4.getD 0) x5 (0 : Int32)), va_re ad (grC S x0 1)]) ⟨hx, hb, hml, hown, hts⟩ (c_Y3_at l G K ad S (x4.getD 0) x5 (1 : Int32) _) (cwV 2 hts (wGV t_ (mw (.methodLink RX10 86 yX3_at) (List.mem_of_getElem? (i := 13) rfl)) (mw (.instanceMethod yX3_at) (List.mem_of_getElem? (i := 14) rfl)) (mw (.selects RX3 yX3_at yX3_at) (List.mem_of_getElem? (i := 15) rfl)) (mw (.initialized RX3) (List.mem_of_getElem? (i := 16) rfl)) j_Y3_at) rfl rfl rfl (by decide +kernel) ⟨Nat.le_of_ble_eq_true rfl, Nat.le_of_ble_eq_true rfl⟩) (cPV hK hTE hP hD 2 rfl (at_2 hy21.2) ⟨hy21.2, hy22⟩) rfl rfl hl.1 rfl (lv_room (by simp only [List.map_cons, List.map_nil, List.sum_cons, List.sum_nil, re_cat]; exact Nat.le_of_ble_eq_true rfl)) dX10_before_72 ⟨(show S.1 - S0.1 ≤ lc - S0.1 from Nat.sub_le_sub_right hZ.2.2.1 _), (show S.2.1 - S0.2.1 ≤ ls - S0.2.1 from Nat.sub_le_sub_right hZ.2.2.2 _)⟩) hP hD hS hA (fun r24 u23 H locs hv hP hD hS => ?_)
        have h1 := congrArg Prod.fst hv
        have h2 := (congrArg Prod.snd hv).symm
        dsimp only at h1 h2
        subst h1
        subst h2
        refine cAload (ad := ad) (r := x4) hx hb dX10_before_75 (lv_at hl 4 rfl) ?_
        refine lv_iload hx hb dX10_before_77 (lv_at hl 5 rfl) ?_
        refine lv_iconst (v := 2) hx hb dX10_before_79 (by decide) ?_
        obtain ⟨hy25, hp⟩ := hp
        refine cTop3 (r := x4) hy25.1 ?_
        obtain ⟨hy26, hp⟩ := hp
        refine cGoi (va_runV (As := [.int x5, .int 2]) (rest := [.int (f_Y3_at S (x4.getD 0) x5 (1 : Int32)), .int (f_Y3_at S (x4.getD 0) x5 (0 : Int32)), va_re ad (grC S x0 1)]) ⟨hx, hb, hml, hown, hts⟩ (c_Y3_at l G K ad S (x4.getD 0) x5 (2 : Int32) _) (cwV 2 hts (wGV t_ (mw (.methodLink RX10 86 yX3_at) (List.mem_of_getElem? (i := 13) rfl)) (mw (.instanceMethod yX3_at) (List.mem_of_getElem? (i := 14) rfl)) (mw (.selects RX3 yX3_at yX3_at) (List.mem_of_getElem? (i := 15) rfl)) (mw (.initialized RX3) (List.mem_of_getElem? (i := 16) rfl)) j_Y3_at) rfl rfl rfl (by decide +kernel) ⟨Nat.le_of_ble_eq_true rfl, Nat.le_of_ble_eq_true rfl⟩) (cPV hK hTE hP hD 2 rfl (at_2 hy25.2) ⟨hy25.2, hy26⟩) rfl rfl hl.1 rfl (lv_room (by simp only [List.map_cons, List.map_nil, List.sum_cons, List.sum_nil, re_cat]; exact Nat.le_of_ble_eq_true rfl)) dX10_before_80 ⟨(show S.1 - S0.1 ≤ lc - S0.1 from Nat.sub_le_sub_right hZ.2.2.1 _), (show S.2.1 - S0.2.1 ≤ ls - S0.2.1 from Nat.sub_le_sub_right hZ.2.2.2 _)⟩) hP hD hS hA (fun r28 u27 H locs hv hP hD hS => ?_)
        have h1 := congrArg Prod.fst hv
        have h2 := (congrArg Prod.snd hv).symm
        dsimp only at h1 h2
        subst h1
        subst h2
        refine cAload (ad := ad) (r := x4) hx hb dX10_before_83 (lv_at hl 4 rfl) ?_
        refine lv_iload hx hb dX10_before_85 (lv_at hl 5 rfl) ?_
        refine lv_iconst (v := 3) hx hb dX10_before_87 (by decide) ?_
        obtain ⟨hy29, hp⟩ := hp
        refine cTop3 (r := x4) hy29.1 ?_
        obtain ⟨hy30, hp⟩ := hp
        refine cGoi (va_runV (As := [.int x5, .int 3]) (rest := [.int (f_Y3_at S (x4.getD 0) x5 (2 : Int32)), .int (f_Y3_at S (x4.getD 0) x5 (1 : Int32)), .int (f_Y3_at S (x4.getD 0) x5 (0 : Int32)), va_re ad (grC S x0 1)]) ⟨hx, hb, hml, hown, hts⟩ (c_Y3_at l G K ad S (x4.getD 0) x5 (3 : Int32) _) (cwV 2 hts (wGV t_ (mw (.methodLink RX10 86 yX3_at) (List.mem_of_getElem? (i := 13) rfl)) (mw (.instanceMethod yX3_at) (List.mem_of_getElem? (i := 14) rfl)) (mw (.selects RX3 yX3_at yX3_at) (List.mem_of_getElem? (i := 15) rfl)) (mw (.initialized RX3) (List.mem_of_getElem? (i := 16) rfl)) j_Y3_at) rfl rfl rfl (by decide +kernel) ⟨Nat.le_of_ble_eq_true rfl, Nat.le_of_ble_eq_true rfl⟩) (cPV hK hTE hP hD 2 rfl (at_2 hy29.2) ⟨hy29.2, hy30⟩) rfl rfl hl.1 rfl (lv_room (by simp only [List.map_cons, List.map_nil, List.sum_cons, List.sum_nil, re_cat]; exact Nat.le_of_ble_eq_true rfl)) dX10_before_88 ⟨(show S.1 - S0.1 ≤ lc - S0.1 from Nat.sub_le_sub_right hZ.2.2.1 _), (show S.2.1 - S0.2.1 ≤ ls - S0.2.1 from Nat.sub_le_sub_right hZ.2.2.2 _)⟩) hP hD hS hA (fun r32 u31 H locs hv hP hD hS => ?_)
        have h1 := congrArg Prod.fst hv
        have h2 := (congrArg Prod.snd hv).symm
        dsimp only at h1 h2
        subst h1
        subst h2
        refine cAload (ad := ad) (r := x4) hx hb dX10_before_91 (lv_at hl 4 rfl) ?_
        refine lv_iload hx hb dX10_before_93 (lv_at hl 5 rfl) ?_
        refine lv_iconst (v := 4) hx hb dX10_before_95 (by decide) ?_
        obtain ⟨hy33, hp⟩ := hp
        refine cTop3 (r := x4) hy33.1 ?_
        obtain ⟨hy34, hp⟩ := hp
        refine cGoi (va_runV (As := [.int x5, .int 4]) (rest := [.int (f_Y3_at S (x4.getD 0) x5 (3 : Int32)), .int (f_Y3_at S (x4.getD 0) x5 (2 : Int32)), .int (f_Y3_at S (x4.getD 0) x5 (1 : Int32)), .int (f_Y3_at S (x4.getD 0) x5 (0 : Int32)), va_re ad (grC S x0 1)]) ⟨hx, hb, hml, hown, hts⟩ (c_Y3_at l G K ad S (x4.getD 0) x5 (4 : Int32) _) (cwV 2 hts (wGV t_ (mw (.methodLink RX10 86 yX3_at) (List.mem_of_getElem? (i := 13) rfl)) (mw (.instanceMethod yX3_at) (List.mem_of_getElem? (i := 14) rfl)) (mw (.selects RX3 yX3_at yX3_at) (List.mem_of_getElem? (i := 15) rfl)) (mw (.initialized RX3) (List.mem_of_getElem? (i := 16) rfl)) j_Y3_at) rfl rfl rfl (by decide +kernel) ⟨Nat.le_of_ble_eq_true rfl, Nat.le_of_ble_eq_true rfl⟩) (cPV hK hTE hP hD 2 rfl (at_2 hy33.2) ⟨hy33.2, hy34⟩) rfl rfl hl.1 rfl (lv_room (by simp only [List.map_cons, List.map_nil, List.sum_cons, List.sum_nil, re_cat]; exact Nat.le_of_ble_eq_true rfl)) dX10_before_96 ⟨(show S.1 - S0.1 ≤ lc - S0.1 from Nat.sub_le_sub_right hZ.2.2.1 _), (show S.2.1 - S0.2.1 ≤ ls - S0.2.1 from Nat.sub_le_sub_right hZ.2.2.2 _)⟩) hP hD hS hA (fun r36 u35 H locs hv hP hD hS => ?_)
        have h1 := congrArg Prod.fst hv
        have h2 := (congrArg Prod.snd hv).symm
        dsimp only at h1 h2
        subst h1
        subst h2
        obtain ⟨hy37, hp⟩ := hp
        refine cTop6 (r := (grC S x0 1)) hy37.1 ?_
        obtain ⟨hy38, hp⟩ := hp
        obtain ⟨hy39, hp⟩ := hp
        refine cNoi (va_runV (As := [.int (f_Y3_at S (x4.getD 0) x5 (0 : Int32)), .int (f_Y3_at S (x4.getD 0) x5 (1 : Int32)), .int (f_Y3_at S (x4.getD 0) x5 (2 : Int32)), .int (f_Y3_at S (x4.getD 0) x5 (3 : Int32)), .int (f_Y3_at S (x4.getD 0) x5 (4 : Int32))]) (rest := []) ⟨hx, hb, hml, hown, hts⟩ (c_Y0_enact l G K ad S ((grC S x0 1).getD 0) (f_Y0_enact S ((grC S x0 1).getD 0) (f_Y3_at S (x4.getD 0) x5 (0 : Int32)) (f_Y3_at S (x4.getD 0) x5 (1 : Int32)) (f_Y3_at S (x4.getD 0) x5 (2 : Int32)) (f_Y3_at S (x4.getD 0) x5 (3 : Int32)) (f_Y3_at S (x4.getD 0) x5 (4 : Int32))).2.1 (f_Y0_enact S ((grC S x0 1).getD 0) (f_Y3_at S (x4.getD 0) x5 (0 : Int32)) (f_Y3_at S (x4.getD 0) x5 (1 : Int32)) (f_Y3_at S (x4.getD 0) x5 (2 : Int32)) (f_Y3_at S (x4.getD 0) x5 (3 : Int32)) (f_Y3_at S (x4.getD 0) x5 (4 : Int32))).2.2.1 (f_Y3_at S (x4.getD 0) x5 (0 : Int32)) (f_Y3_at S (x4.getD 0) x5 (1 : Int32)) (f_Y3_at S (x4.getD 0) x5 (2 : Int32)) (f_Y3_at S (x4.getD 0) x5 (3 : Int32)) (f_Y3_at S (x4.getD 0) x5 (4 : Int32)) _) (cwV 5 hts (wGV t_ (mw (.methodLink RX10 32 yX0_enact) (List.mem_of_getElem? (i := 17) rfl)) (mw (.instanceMethod yX0_enact) (List.mem_of_getElem? (i := 18) rfl)) (mw (.selects RX0 yX0_enact yX0_enact) (List.mem_of_getElem? (i := 19) rfl)) (mw (.initialized RX0) (List.mem_of_getElem? (i := 9) rfl)) j_Y0_enact) rfl rfl rfl (by decide +kernel) ⟨Nat.le_of_ble_eq_true rfl, Nat.le_of_ble_eq_true rfl⟩) (cPV hK hTE hP hD 0 rfl (at_0 hy37.2) ⟨⟨hy38.1.1, hy38.2.1⟩, hy37.2, hy39⟩) rfl rfl hl.1 rfl (lv_room (Nat.le_of_ble_eq_true rfl)) dX10_before_99 ⟨by show _ ≤ lc - S0.1; have := hZ.1.1.1; have := hy38.1; omega, by show _ ≤ ls - S0.2.1; have := hZ.1.1.2; have := hy38.2; omega⟩) hP hD hS hA (fun r41 u40 H locs hv hP hD hS => ?_)
        obtain ⟨hv, hz, ha⟩ := hv
        obtain ⟨hy42, hp⟩ := hp
        have e1 : (f_Y0_enact S ((grC S x0 1).getD 0) (f_Y3_at S (x4.getD 0) x5 (0 : Int32)) (f_Y3_at S (x4.getD 0) x5 (1 : Int32)) (f_Y3_at S (x4.getD 0) x5 (2 : Int32)) (f_Y3_at S (x4.getD 0) x5 (3 : Int32)) (f_Y3_at S (x4.getD 0) x5 (4 : Int32))).2.1 = u40.1.1 := by rw [← hv]
        have e2 : (f_Y0_enact S ((grC S x0 1).getD 0) (f_Y3_at S (x4.getD 0) x5 (0 : Int32)) (f_Y3_at S (x4.getD 0) x5 (1 : Int32)) (f_Y3_at S (x4.getD 0) x5 (2 : Int32)) (f_Y3_at S (x4.getD 0) x5 (3 : Int32)) (f_Y3_at S (x4.getD 0) x5 (4 : Int32))).2.2.1 = u40.1.2.1 := by rw [← hv]
        refine cCells (cells' := u40.1.1 - S0.1) (slots' := u40.1.2.1 - S0.2.1) (by have := hZ.1.1.1; have := hy38.1; omega) (by have := hZ.1.1.2; have := hy38.2; omega) ?_
        rw [← ha x0 (k_x0.n hZ.1).1] at hl
        rw [← re_ad (r := x4) ha hy42] at hl
        have hZ := hZ.n hz ha (by rw [← e1]; exact hy38.1.2) (by rw [← e2]; exact hy38.2.2)
        rw [← hv] at hE hp
        dsimp only at hE hp
        exact B_Y10_before_102a u40.1 u40.2 x1 x2 x3 x4 x5 r41 _ _ _ hE hp hZ hP hD hS (lv_sub hl [0, 1, 2, 3, 4, 5] rfl)
  have B_Y10_before_46a : ∀ (S : Cst) (ad : Nat → Nat) (x1 : Int32) (x2 : Int32) (x3 : Int32) (x4 : Option Nat) (H : Heap) (locs : List Loc) (ls_ : Array Slot), b_Y10_before_46a S x0 x1 x2 x3 x4 = X → q_Y10_before_46a S x0 lc ls x1 x2 x3 x4 → nH S0 ad0 lc ls S ad → va_P G vwCl (wsC K ad S) H → va_D A (wsC K ad S) → va_S A s.heap H locs → lv_has ls_ 6 [(0, .ref (ad x0)), (1, .int x1), (2, .int x2), (3, .int x3), (4, va_re ad x4)] → W p l e ({ frames := 8, cells := lc - S0.1, slots := ls - S0.2.1, locals := 226 } : Room) s m #[Value.ref (ad0 x0), Value.int a1, Value.int a2, Value.int a3] below meth c H locs (S.1 - S0.1) (S.2.1 - S0.2.1) Q (F0 m 46 ls_ []) := by
    intro S ad x1 x2 x3 x4 H locs ls_ hE hp hZ hP hD hS hl
    unfold b_Y10_before_46a at hE
    unfold q_Y10_before_46a at hp
    refine lv_iconst (v := 0) hx hb dX10_before_46 (by decide) ?_
    refine lv_istore (i := 5) (lv' := [(5, .int 0), (0, .ref (ad x0)), (1, .int x1), (2, .int x2), (3, .int x3), (4, va_re ad x4)]) hx hb dX10_before_47 hl (by decide) (by simp [List.filter, re_cat]) (fun ls_ hl => ?_)
    exact L_49 100000 S ad x1 x2 x3 x4 0 _ _ _ hE hp hZ hP hD hS (lv_sub hl [1, 2, 3, 4, 5, 0] rfl)
  have B_M : ∀ (S : Cst) (ad : Nat → Nat) (x1 : Int32) (x2 : Int32) (x3 : Int32) (H : Heap) (locs : List Loc) (ls_ : Array Slot), f_Y10_before S x0 x1 x2 x3 = X → p_Y10_before S x0 lc ls x1 x2 x3 → nH S0 ad0 lc ls S ad → va_P G vwCl (wsC K ad S) H → va_D A (wsC K ad S) → va_S A s.heap H locs → lv_has ls_ 6 [(0, .ref (ad x0)), (1, .int x1), (2, .int x2), (3, .int x3)] → W p l e ({ frames := 8, cells := lc - S0.1, slots := ls - S0.2.1, locals := 226 } : Room) s m #[Value.ref (ad0 x0), Value.int a1, Value.int a2, Value.int a3] below meth c H locs (S.1 - S0.1) (S.2.1 - S0.2.1) Q (F0 m 0 ls_ []) := by
    intro S ad x1 x2 x3 H locs ls_ hE hp hZ hP hD hS hl
    unfold f_Y10_before at hE
    unfold p_Y10_before at hp
    refine lv_iload_n hx hb dX10_before_0 rfl (lv_at hl 1 rfl) ?_
    refine lv_if_lt (tgt := 18) hx hb dX10_before_1 (by decide) (fun c1 => ?_) (fun c1 => ?_)
    · rw [if_pos c1] at hE hp
      exact B_Y10_before_18 S ad x1 x2 x3 _ _ _ hE hp hZ hP hD hS (lv_sub hl [0, 1, 2, 3] rfl)
    · rw [if_neg c1] at hE hp
      refine lv_iload_n hx hb dX10_before_4 rfl (lv_at hl 1 rfl) ?_
      refine lv_aload_n hx hb dX10_before_5 rfl (lv_at hl 0 rfl) ?_
      refine va_get (D := G) (ci := 7) (v := va_re ad (grC S x0 0)) (C := RX10) (T := TX10) (N := 5) hx hb hts iX10 hown hK hP x0 (at_7 (k_x0.n hZ.1)) rfl 0 (by decide) (hw (.fieldLink RX10 10 "MotionFloor" "now" "LMotionFloor$Assembly;") (List.mem_of_getElem? (i := 0) rfl)) (fun _ h9 => h9) rfl dX10_before_6 ?_
      obtain ⟨hy2, hp⟩ := hp
      refine cTop (r := (grC S x0 0)) hy2.1 ?_
      refine va_get (D := G) (ci := 0) (v := va_re ad (grC S ((grC S x0 0).getD 0) 4)) (C := RX0) (T := TX0) (N := 11) hx hb hts iX0 hown hK hP ((grC S x0 0).getD 0) (at_0 hy2.2) rfl 4 (by decide) (hw (.fieldLink RX10 123 "MotionFloor$Assembly" "minutes" "LMotionFloor$Ledger;") (List.mem_of_getElem? (i := 1) rfl)) (fun _ h9 => h9) rfl dX10_before_9 ?_
      obtain ⟨hy3, hp⟩ := hp
      refine cTop (r := (grC S ((grC S x0 0).getD 0) 4)) hy3.1 ?_
      refine va_get (D := G) (ci := 2) (v := .int (giC S ((grC S ((grC S x0 0).getD 0) 4).getD 0) 3)) (C := RX3) (T := TX3) (N := 4) hx hb hts iX3 hown hK hP ((grC S ((grC S x0 0).getD 0) 4).getD 0) (at_2 hy3.2) rfl 3 (by decide) (hw (.fieldLink RX10 126 "MotionFloor$Ledger" "size" "I") (List.mem_of_getElem? (i := 2) rfl)) (fun _ h9 => h9) rfl dX10_before_12 ?_
      refine lv_icmp_le (tgt := 20) hx hb dX10_before_15 (by decide) (fun c4 => ?_) (fun c4 => ?_)
      · rw [if_pos c4] at hE hp
        refine lv_aload_n hx hb dX10_before_20 rfl (lv_at hl 0 rfl) ?_
        refine va_get (D := G) (ci := 7) (v := va_re ad (grC S x0 0)) (C := RX10) (T := TX10) (N := 5) hx hb hts iX10 hown hK hP x0 (at_7 (k_x0.n hZ.1)) rfl 0 (by decide) (hw (.fieldLink RX10 10 "MotionFloor" "now" "LMotionFloor$Assembly;") (List.mem_of_getElem? (i := 0) rfl)) (fun _ h9 => h9) rfl dX10_before_21 ?_
        obtain ⟨hy5, hp⟩ := hp
        refine cTop (r := (grC S x0 0)) hy5.1 ?_
        refine va_get (D := G) (ci := 0) (v := va_re ad (grC S ((grC S x0 0).getD 0) 4)) (C := RX0) (T := TX0) (N := 11) hx hb hts iX0 hown hK hP ((grC S x0 0).getD 0) (at_0 hy5.2) rfl 4 (by decide) (hw (.fieldLink RX10 123 "MotionFloor$Assembly" "minutes" "LMotionFloor$Ledger;") (List.mem_of_getElem? (i := 1) rfl)) (fun _ h9 => h9) rfl dX10_before_24 ?_
        refine cAstore (ad := ad) (r := (grC S ((grC S x0 0).getD 0) 4)) (i := 4) (lv' := [(4, va_re ad (grC S ((grC S x0 0).getD 0) 4)), (0, .ref (ad x0)), (1, .int x1), (2, .int x2), (3, .int x3)]) hx hb dX10_before_27 hl (by decide) rfl (fun ls_ hl => ?_)
        refine lv_aload_n hx hb dX10_before_29 rfl (lv_at hl 1 rfl) ?_
        refine va_get (D := G) (ci := 7) (v := va_re ad (grC S x0 1)) (C := RX10) (T := TX10) (N := 5) hx hb hts iX10 hown hK hP x0 (at_7 (k_x0.n hZ.1)) rfl 1 (by decide) (hw (.fieldLink RX10 16 "MotionFloor" "trial" "LMotionFloor$Assembly;") (List.mem_of_getElem? (i := 3) rfl)) (fun _ h9 => h9) rfl dX10_before_30 ?_
        refine lv_aload_n hx hb dX10_before_33 rfl (lv_at hl 1 rfl) ?_
        refine va_get (D := G) (ci := 7) (v := va_re ad (grC S x0 0)) (C := RX10) (T := TX10) (N := 5) hx hb hts iX10 hown hK hP x0 (at_7 (k_x0.n hZ.1)) rfl 0 (by decide) (hw (.fieldLink RX10 10 "MotionFloor" "now" "LMotionFloor$Assembly;") (List.mem_of_getElem? (i := 0) rfl)) (fun _ h9 => h9) rfl dX10_before_34 ?_
        obtain ⟨hy6, hp⟩ := hp
        refine cTop (r := (grC S x0 0)) hy6.1 ?_
        refine va_get (D := G) (ci := 0) (v := va_re ad (grC S ((grC S x0 0).getD 0) 0)) (C := RX0) (T := TX0) (N := 11) hx hb hts iX0 hown hK hP ((grC S x0 0).getD 0) (at_0 hy6.2) rfl 0 (by decide) (hw (.fieldLink RX10 88 "MotionFloor$Assembly" "house" "LMotionFloor$House;") (List.mem_of_getElem? (i := 4) rfl)) (fun _ h9 => h9) rfl dX10_before_37 ?_
        obtain ⟨hy7, hp⟩ := hp
        refine cTop (r := (grC S ((grC S x0 0).getD 0) 0)) hy7.1 ?_
        refine va_get (D := G) (ci := 1) (v := .int (giC S ((grC S ((grC S x0 0).getD 0) 0).getD 0) 0)) (C := RX2) (T := TX2) (N := 8) hx hb hts iX2 hown hK hP ((grC S ((grC S x0 0).getD 0) 0).getD 0) (at_1 hy7.2) rfl 0 (by decide) (hw (.fieldLink RX10 92 "MotionFloor$House" "seats" "I") (List.mem_of_getElem? (i := 5) rfl)) (fun _ h9 => h9) rfl dX10_before_40 ?_
        obtain ⟨hy8, hp⟩ := hp
        refine cTop2 (r := (grC S x0 1)) hy8.1 ?_
        obtain ⟨hy9, hp⟩ := hp
        refine cGov (va_runV (As := [.int (giC S ((grC S ((grC S x0 0).getD 0) 0).getD 0) 0)]) (rest := []) ⟨hx, hb, hml, hown, hts⟩ (c_Y0_begin l G K ad S ((grC S x0 1).getD 0) (giC S ((grC S ((grC S x0 0).getD 0) 0).getD 0) 0) _) (cwV 1 hts (wGV t_ (mw (.methodLink RX10 28 yX0_begin) (List.mem_of_getElem? (i := 6) rfl)) (mw (.instanceMethod yX0_begin) (List.mem_of_getElem? (i := 7) rfl)) (mw (.selects RX0 yX0_begin yX0_begin) (List.mem_of_getElem? (i := 8) rfl)) (mw (.initialized RX0) (List.mem_of_getElem? (i := 9) rfl)) j_Y0_begin) rfl rfl rfl (by decide +kernel) ⟨Nat.le_of_ble_eq_true rfl, Nat.le_of_ble_eq_true rfl⟩) (cPV hK hTE hP hD 0 rfl (at_0 hy8.2) ⟨hy8.2, hy9⟩) rfl rfl hl.1 rfl (lv_room (Nat.le_of_ble_eq_true rfl)) dX10_before_43 ⟨(show S.1 - S0.1 ≤ lc - S0.1 from Nat.sub_le_sub_right hZ.2.2.1 _), (show S.2.1 - S0.2.1 ≤ ls - S0.2.1 from Nat.sub_le_sub_right hZ.2.2.2 _)⟩) hP hD hS hA (fun u10 H locs hv hP hD hS => ?_)
        obtain ⟨hv, hz⟩ := hv
        have hZ := hZ.k hz
        refine cCells (cells' := u10.1 - S0.1) (slots' := u10.2.1 - S0.2.1) (by have e : S.1 = u10.1 := hz.1.1; show S.1 - S0.1 + 0 = _; omega) (by have e : S.2.1 = u10.2.1 := hz.1.2; show S.2.1 - S0.2.1 + 0 = _; omega) ?_
        rw [← hv] at hE hp
        dsimp only at hE hp
        exact B_Y10_before_46a u10 ad x1 x2 x3 (grC S ((grC S x0 0).getD 0) 4) _ _ _ hE hp hZ hP hD hS (lv_sub hl [1, 2, 3, 4, 0] rfl)
      · rw [if_neg c4] at hE hp
        exact B_Y10_before_18 S ad x1 x2 x3 _ _ _ hE hp hZ hP hD hS (lv_sub hl [0, 1, 2, 3] rfl)
  exact cCells (Nat.sub_self _).symm (Nat.sub_self _).symm (B_M S0 ad0 a1 a2 a3 _ _ _ hX hp (nH.rf S0 ad0 k_l) hP hD hS hl)
theorem gdX10_again_0 : ckS (List.drop 0 cX10_again.data.toList) 0 [(0, .aload_n 0, 1), (1, .getfield 10, 3), (4, .getfield 123, 3), (7, .astore_n 1, 1), (8, .aload_n 0, 1), (9, .getfield 16, 3), (12, .aload_n 0, 1), (13, .getfield 10, 3), (16, .getfield 88, 3), (19, .getfield 92, 3), (22, .invokevirtual 28, 3), (25, .iconst 0, 1), (26, .istore_n 2, 1), (27, .iload_n 2, 1), (28, .aload_n 1, 1), (29, .getfield 126, 3), (32, .if_icmp .ge 79, 3), (35, .aload_n 0, 1), (36, .getfield 16, 3), (39, .aload_n 1, 1), (40, .iload_n 2, 1), (41, .iconst 0, 1), (42, .invokevirtual 86, 3), (45, .aload_n 1, 1), (46, .iload_n 2, 1), (47, .iconst 1, 1), (48, .invokevirtual 86, 3), (51, .aload_n 1, 1), (52, .iload_n 2, 1), (53, .iconst 2, 1), (54, .invokevirtual 86, 3), (57, .aload_n 1, 1), (58, .iload_n 2, 1), (59, .iconst 3, 1), (60, .invokevirtual 86, 3), (63, .aload_n 1, 1), (64, .iload_n 2, 1), (65, .iconst 4, 1), (66, .invokevirtual 86, 3), (69, .invokevirtual 32, 3)] = true := by decide +kernel
theorem dX10_again_0 : decode cX10_again 0 = .ok (.aload_n 0, 1) := ckS_g gdX10_again_0 0 rfl
theorem dX10_again_1 : decode cX10_again 1 = .ok (.getfield 10, 3) := ckS_g gdX10_again_0 1 rfl
theorem dX10_again_4 : decode cX10_again 4 = .ok (.getfield 123, 3) := ckS_g gdX10_again_0 2 rfl
theorem dX10_again_7 : decode cX10_again 7 = .ok (.astore_n 1, 1) := ckS_g gdX10_again_0 3 rfl
theorem dX10_again_8 : decode cX10_again 8 = .ok (.aload_n 0, 1) := ckS_g gdX10_again_0 4 rfl
theorem dX10_again_9 : decode cX10_again 9 = .ok (.getfield 16, 3) := ckS_g gdX10_again_0 5 rfl
theorem dX10_again_12 : decode cX10_again 12 = .ok (.aload_n 0, 1) := ckS_g gdX10_again_0 6 rfl
theorem dX10_again_13 : decode cX10_again 13 = .ok (.getfield 10, 3) := ckS_g gdX10_again_0 7 rfl
theorem dX10_again_16 : decode cX10_again 16 = .ok (.getfield 88, 3) := ckS_g gdX10_again_0 8 rfl
theorem dX10_again_19 : decode cX10_again 19 = .ok (.getfield 92, 3) := ckS_g gdX10_again_0 9 rfl
theorem dX10_again_22 : decode cX10_again 22 = .ok (.invokevirtual 28, 3) := ckS_g gdX10_again_0 10 rfl
theorem dX10_again_25 : decode cX10_again 25 = .ok (.iconst 0, 1) := ckS_g gdX10_again_0 11 rfl
theorem dX10_again_26 : decode cX10_again 26 = .ok (.istore_n 2, 1) := ckS_g gdX10_again_0 12 rfl
theorem dX10_again_27 : decode cX10_again 27 = .ok (.iload_n 2, 1) := ckS_g gdX10_again_0 13 rfl
theorem dX10_again_28 : decode cX10_again 28 = .ok (.aload_n 1, 1) := ckS_g gdX10_again_0 14 rfl
theorem dX10_again_29 : decode cX10_again 29 = .ok (.getfield 126, 3) := ckS_g gdX10_again_0 15 rfl
theorem dX10_again_32 : decode cX10_again 32 = .ok (.if_icmp .ge 79, 3) := ckS_g gdX10_again_0 16 rfl
theorem dX10_again_35 : decode cX10_again 35 = .ok (.aload_n 0, 1) := ckS_g gdX10_again_0 17 rfl
theorem dX10_again_36 : decode cX10_again 36 = .ok (.getfield 16, 3) := ckS_g gdX10_again_0 18 rfl
theorem dX10_again_39 : decode cX10_again 39 = .ok (.aload_n 1, 1) := ckS_g gdX10_again_0 19 rfl
theorem dX10_again_40 : decode cX10_again 40 = .ok (.iload_n 2, 1) := ckS_g gdX10_again_0 20 rfl
theorem dX10_again_41 : decode cX10_again 41 = .ok (.iconst 0, 1) := ckS_g gdX10_again_0 21 rfl
theorem dX10_again_42 : decode cX10_again 42 = .ok (.invokevirtual 86, 3) := ckS_g gdX10_again_0 22 rfl
theorem dX10_again_45 : decode cX10_again 45 = .ok (.aload_n 1, 1) := ckS_g gdX10_again_0 23 rfl
theorem dX10_again_46 : decode cX10_again 46 = .ok (.iload_n 2, 1) := ckS_g gdX10_again_0 24 rfl
theorem dX10_again_47 : decode cX10_again 47 = .ok (.iconst 1, 1) := ckS_g gdX10_again_0 25 rfl
theorem dX10_again_48 : decode cX10_again 48 = .ok (.invokevirtual 86, 3) := ckS_g gdX10_again_0 26 rfl
theorem dX10_again_51 : decode cX10_again 51 = .ok (.aload_n 1, 1) := ckS_g gdX10_again_0 27 rfl
theorem dX10_again_52 : decode cX10_again 52 = .ok (.iload_n 2, 1) := ckS_g gdX10_again_0 28 rfl
theorem dX10_again_53 : decode cX10_again 53 = .ok (.iconst 2, 1) := ckS_g gdX10_again_0 29 rfl
theorem dX10_again_54 : decode cX10_again 54 = .ok (.invokevirtual 86, 3) := ckS_g gdX10_again_0 30 rfl
theorem dX10_again_57 : decode cX10_again 57 = .ok (.aload_n 1, 1) := ckS_g gdX10_again_0 31 rfl
theorem dX10_again_58 : decode cX10_again 58 = .ok (.iload_n 2, 1) := ckS_g gdX10_again_0 32 rfl
theorem dX10_again_59 : decode cX10_again 59 = .ok (.iconst 3, 1) := ckS_g gdX10_again_0 33 rfl
theorem dX10_again_60 : decode cX10_again 60 = .ok (.invokevirtual 86, 3) := ckS_g gdX10_again_0 34 rfl
theorem dX10_again_63 : decode cX10_again 63 = .ok (.aload_n 1, 1) := ckS_g gdX10_again_0 35 rfl
theorem dX10_again_64 : decode cX10_again 64 = .ok (.iload_n 2, 1) := ckS_g gdX10_again_0 36 rfl
theorem dX10_again_65 : decode cX10_again 65 = .ok (.iconst 4, 1) := ckS_g gdX10_again_0 37 rfl
theorem dX10_again_66 : decode cX10_again 66 = .ok (.invokevirtual 86, 3) := ckS_g gdX10_again_0 38 rfl
theorem dX10_again_69 : decode cX10_again 69 = .ok (.invokevirtual 32, 3) := ckS_g gdX10_again_0 39 rfl
theorem gdX10_again_72 : ckS (List.drop 72 cX10_again.data.toList) 72 [(72, .istore_n 3, 1), (73, .iload_n 3, 1), (74, .aload_n 1, 1), (75, .iload_n 2, 1), (76, .iconst 5, 1), (77, .invokevirtual 86, 3), (80, .if_icmp .ne 23, 3), (83, .aload_n 0, 1), (84, .getfield 16, 3), (87, .getfield 46, 3), (90, .getfield 112, 3), (93, .aload_n 1, 1), (94, .iload_n 2, 1), (95, .bipush 6, 2), (97, .invokevirtual 86, 3), (100, .if_icmp .eq 5, 3), (103, .iload_n 2, 1), (104, .ireturn, 1), (105, .iinc 2 1, 3), (108, .goto (-81), 3), (111, .iconst (-1), 1), (112, .ireturn, 1)] = true := by decide +kernel
theorem dX10_again_72 : decode cX10_again 72 = .ok (.istore_n 3, 1) := ckS_g gdX10_again_72 0 rfl
theorem dX10_again_73 : decode cX10_again 73 = .ok (.iload_n 3, 1) := ckS_g gdX10_again_72 1 rfl
theorem dX10_again_74 : decode cX10_again 74 = .ok (.aload_n 1, 1) := ckS_g gdX10_again_72 2 rfl
theorem dX10_again_75 : decode cX10_again 75 = .ok (.iload_n 2, 1) := ckS_g gdX10_again_72 3 rfl
theorem dX10_again_76 : decode cX10_again 76 = .ok (.iconst 5, 1) := ckS_g gdX10_again_72 4 rfl
theorem dX10_again_77 : decode cX10_again 77 = .ok (.invokevirtual 86, 3) := ckS_g gdX10_again_72 5 rfl
theorem dX10_again_80 : decode cX10_again 80 = .ok (.if_icmp .ne 23, 3) := ckS_g gdX10_again_72 6 rfl
theorem dX10_again_83 : decode cX10_again 83 = .ok (.aload_n 0, 1) := ckS_g gdX10_again_72 7 rfl
theorem dX10_again_84 : decode cX10_again 84 = .ok (.getfield 16, 3) := ckS_g gdX10_again_72 8 rfl
theorem dX10_again_87 : decode cX10_again 87 = .ok (.getfield 46, 3) := ckS_g gdX10_again_72 9 rfl
theorem dX10_again_90 : decode cX10_again 90 = .ok (.getfield 112, 3) := ckS_g gdX10_again_72 10 rfl
theorem dX10_again_93 : decode cX10_again 93 = .ok (.aload_n 1, 1) := ckS_g gdX10_again_72 11 rfl
theorem dX10_again_94 : decode cX10_again 94 = .ok (.iload_n 2, 1) := ckS_g gdX10_again_72 12 rfl
theorem dX10_again_95 : decode cX10_again 95 = .ok (.bipush 6, 2) := ckS_g gdX10_again_72 13 rfl
theorem dX10_again_97 : decode cX10_again 97 = .ok (.invokevirtual 86, 3) := ckS_g gdX10_again_72 14 rfl
theorem dX10_again_100 : decode cX10_again 100 = .ok (.if_icmp .eq 5, 3) := ckS_g gdX10_again_72 15 rfl
theorem dX10_again_103 : decode cX10_again 103 = .ok (.iload_n 2, 1) := ckS_g gdX10_again_72 16 rfl
theorem dX10_again_104 : decode cX10_again 104 = .ok (.ireturn, 1) := ckS_g gdX10_again_72 17 rfl
theorem dX10_again_105 : decode cX10_again 105 = .ok (.iinc 2 1, 3) := ckS_g gdX10_again_72 18 rfl
theorem dX10_again_108 : decode cX10_again 108 = .ok (.goto (-81), 3) := ckS_g gdX10_again_72 19 rfl
theorem dX10_again_111 : decode cX10_again 111 = .ok (.iconst (-1), 1) := ckS_g gdX10_again_72 20 rfl
theorem dX10_again_112 : decode cX10_again 112 = .ok (.ireturn, 1) := ckS_g gdX10_again_72 21 rfl
set_option maxRecDepth 100000 in
theorem zc718 : wZ (.code yX10_again cX10_again 4 (some .int)) := ⟨wT4 (List.mem_of_getElem? (i := 200) rfl), Or.inl rfl⟩
def b_Y10_again_103 (S : Cst) (x0 : Nat) (x1 : Option Nat) (x2 : Int32) (x3 : Int32) : Int32 × Cst := (x2, S)
def q_Y10_again_103 (S : Cst) (x0 : Nat) (lc : Nat) (ls : Nat) (x1 : Option Nat) (x2 : Int32) (x3 : Int32) : Prop := True
def b_Y10_again_72a (S : Cst) (x0 : Nat) (x1 : Option Nat) (x2 : Int32) (y0 : Int32) : (Int32 × Cst) ⊕ (Cst × (Option Nat) × Int32) := if y0 = (f_Y3_at S (x1.getD 0) x2 (5 : Int32)) then if (giC S ((grC S ((grC S x0 1).getD 0) 1).getD 0) 1) = (f_Y3_at S (x1.getD 0) x2 (6 : Int32)) then Sum.inr (S, x1, (x2 + 1)) else Sum.inl ((b_Y10_again_103 S x0 x1 x2 y0)) else Sum.inl ((b_Y10_again_103 S x0 x1 x2 y0))
def q_Y10_again_72a (S : Cst) (x0 : Nat) (lc : Nat) (ls : Nat) (x1 : Option Nat) (x2 : Int32) (y0 : Int32) : Prop := (iR S x1 2) ∧ (p_Y3_at S (x1.getD 0) x2 (5 : Int32)) ∧ (if y0 = (f_Y3_at S (x1.getD 0) x2 (5 : Int32)) then (iR S (grC S x0 1) 0) ∧ (iR S (grC S ((grC S x0 1).getD 0) 1) 4) ∧ (iR S x1 2) ∧ (p_Y3_at S (x1.getD 0) x2 (6 : Int32)) ∧ (if (giC S ((grC S ((grC S x0 1).getD 0) 1).getD 0) 1) = (f_Y3_at S (x1.getD 0) x2 (6 : Int32)) then True else (q_Y10_again_103 S x0 lc ls x1 x2 y0)) else (q_Y10_again_103 S x0 lc ls x1 x2 y0))
def st_Y10_again_27 (S : Cst) (x0 : Nat) (x1 : Option Nat) (x2 : Int32) : (Int32 × Cst) ⊕ (Cst × (Option Nat) × Int32) := if (giC S (x1.getD 0) 3) ≤ x2 then Sum.inl ((((-1) : Int32), S)) else (b_Y10_again_72a ((f_Y0_enact S ((grC S x0 1).getD 0) (f_Y3_at S (x1.getD 0) x2 (0 : Int32)) (f_Y3_at S (x1.getD 0) x2 (1 : Int32)) (f_Y3_at S (x1.getD 0) x2 (2 : Int32)) (f_Y3_at S (x1.getD 0) x2 (3 : Int32)) (f_Y3_at S (x1.getD 0) x2 (4 : Int32))).2) x0 x1 x2 ((f_Y0_enact S ((grC S x0 1).getD 0) (f_Y3_at S (x1.getD 0) x2 (0 : Int32)) (f_Y3_at S (x1.getD 0) x2 (1 : Int32)) (f_Y3_at S (x1.getD 0) x2 (2 : Int32)) (f_Y3_at S (x1.getD 0) x2 (3 : Int32)) (f_Y3_at S (x1.getD 0) x2 (4 : Int32))).1))
def ps_Y10_again_27 (S : Cst) (x0 : Nat) (lc : Nat) (ls : Nat) (x1 : Option Nat) (x2 : Int32) : Prop := (iR S x1 2) ∧ (if (giC S (x1.getD 0) 3) ≤ x2 then True else (iR S x1 2) ∧ (p_Y3_at S (x1.getD 0) x2 (0 : Int32)) ∧ (iR S x1 2) ∧ (p_Y3_at S (x1.getD 0) x2 (1 : Int32)) ∧ (iR S x1 2) ∧ (p_Y3_at S (x1.getD 0) x2 (2 : Int32)) ∧ (iR S x1 2) ∧ (p_Y3_at S (x1.getD 0) x2 (3 : Int32)) ∧ (iR S x1 2) ∧ (p_Y3_at S (x1.getD 0) x2 (4 : Int32)) ∧ (iR S (grC S x0 1) 0) ∧ ((S.1 ≤ (f_Y0_enact S ((grC S x0 1).getD 0) (f_Y3_at S (x1.getD 0) x2 (0 : Int32)) (f_Y3_at S (x1.getD 0) x2 (1 : Int32)) (f_Y3_at S (x1.getD 0) x2 (2 : Int32)) (f_Y3_at S (x1.getD 0) x2 (3 : Int32)) (f_Y3_at S (x1.getD 0) x2 (4 : Int32))).2.1 ∧ (f_Y0_enact S ((grC S x0 1).getD 0) (f_Y3_at S (x1.getD 0) x2 (0 : Int32)) (f_Y3_at S (x1.getD 0) x2 (1 : Int32)) (f_Y3_at S (x1.getD 0) x2 (2 : Int32)) (f_Y3_at S (x1.getD 0) x2 (3 : Int32)) (f_Y3_at S (x1.getD 0) x2 (4 : Int32))).2.1 ≤ lc) ∧ (S.2.1 ≤ (f_Y0_enact S ((grC S x0 1).getD 0) (f_Y3_at S (x1.getD 0) x2 (0 : Int32)) (f_Y3_at S (x1.getD 0) x2 (1 : Int32)) (f_Y3_at S (x1.getD 0) x2 (2 : Int32)) (f_Y3_at S (x1.getD 0) x2 (3 : Int32)) (f_Y3_at S (x1.getD 0) x2 (4 : Int32))).2.2.1 ∧ (f_Y0_enact S ((grC S x0 1).getD 0) (f_Y3_at S (x1.getD 0) x2 (0 : Int32)) (f_Y3_at S (x1.getD 0) x2 (1 : Int32)) (f_Y3_at S (x1.getD 0) x2 (2 : Int32)) (f_Y3_at S (x1.getD 0) x2 (3 : Int32)) (f_Y3_at S (x1.getD 0) x2 (4 : Int32))).2.2.1 ≤ ls)) ∧ (p_Y0_enact S ((grC S x0 1).getD 0) (f_Y0_enact S ((grC S x0 1).getD 0) (f_Y3_at S (x1.getD 0) x2 (0 : Int32)) (f_Y3_at S (x1.getD 0) x2 (1 : Int32)) (f_Y3_at S (x1.getD 0) x2 (2 : Int32)) (f_Y3_at S (x1.getD 0) x2 (3 : Int32)) (f_Y3_at S (x1.getD 0) x2 (4 : Int32))).2.1 (f_Y0_enact S ((grC S x0 1).getD 0) (f_Y3_at S (x1.getD 0) x2 (0 : Int32)) (f_Y3_at S (x1.getD 0) x2 (1 : Int32)) (f_Y3_at S (x1.getD 0) x2 (2 : Int32)) (f_Y3_at S (x1.getD 0) x2 (3 : Int32)) (f_Y3_at S (x1.getD 0) x2 (4 : Int32))).2.2.1 (f_Y3_at S (x1.getD 0) x2 (0 : Int32)) (f_Y3_at S (x1.getD 0) x2 (1 : Int32)) (f_Y3_at S (x1.getD 0) x2 (2 : Int32)) (f_Y3_at S (x1.getD 0) x2 (3 : Int32)) (f_Y3_at S (x1.getD 0) x2 (4 : Int32))) ∧ (vR S x1) ∧ (q_Y10_again_72a ((f_Y0_enact S ((grC S x0 1).getD 0) (f_Y3_at S (x1.getD 0) x2 (0 : Int32)) (f_Y3_at S (x1.getD 0) x2 (1 : Int32)) (f_Y3_at S (x1.getD 0) x2 (2 : Int32)) (f_Y3_at S (x1.getD 0) x2 (3 : Int32)) (f_Y3_at S (x1.getD 0) x2 (4 : Int32))).2) x0 lc ls x1 x2 ((f_Y0_enact S ((grC S x0 1).getD 0) (f_Y3_at S (x1.getD 0) x2 (0 : Int32)) (f_Y3_at S (x1.getD 0) x2 (1 : Int32)) (f_Y3_at S (x1.getD 0) x2 (2 : Int32)) (f_Y3_at S (x1.getD 0) x2 (3 : Int32)) (f_Y3_at S (x1.getD 0) x2 (4 : Int32))).1)))
def lp_Y10_again_27 (x0 : Nat) : Nat → Cst → (Option Nat) → Int32 → Int32 × Cst
  | 0, S, _, _ => (0, S)
  | n + 1, S, x1, x2 => match st_Y10_again_27 S x0 x1 x2 with
    | Sum.inl r => r
    | Sum.inr q => lp_Y10_again_27 x0 n q.1 q.2.1 q.2.2
def lq_Y10_again_27 (x0 : Nat) (lc : Nat) (ls : Nat) : Nat → Cst → (Option Nat) → Int32 → Prop
  | 0, _, _, _ => False
  | n + 1, S, x1, x2 => ps_Y10_again_27 S x0 lc ls x1 x2 ∧ (match st_Y10_again_27 S x0 x1 x2 with
    | Sum.inl _ => True
    | Sum.inr q => lq_Y10_again_27 x0 lc ls n q.1 q.2.1 q.2.2)
def b_Y10_again_25a (S : Cst) (x0 : Nat) (x1 : Option Nat) : Int32 × Cst := (lp_Y10_again_27 x0 100000 S x1 0)
def q_Y10_again_25a (S : Cst) (x0 : Nat) (lc : Nat) (ls : Nat) (x1 : Option Nat) : Prop := (lq_Y10_again_27 x0 lc ls 100000 S x1 0)
def f_Y10_again (S : Cst) (x0 : Nat) : Int32 × Cst := (b_Y10_again_25a ((f_Y0_begin S ((grC S x0 1).getD 0) (giC S ((grC S ((grC S x0 0).getD 0) 0).getD 0) 0)).2) x0 (grC S ((grC S x0 0).getD 0) 4))
def p_Y10_again (S : Cst) (x0 : Nat) (lc : Nat) (ls : Nat) : Prop := (iR S (grC S x0 0) 0) ∧ (iR S (grC S x0 0) 0) ∧ (iR S (grC S ((grC S x0 0).getD 0) 0) 1) ∧ (iR S (grC S x0 1) 0) ∧ (p_Y0_begin S ((grC S x0 1).getD 0) (giC S ((grC S ((grC S x0 0).getD 0) 0).getD 0) 0)) ∧ (q_Y10_again_25a ((f_Y0_begin S ((grC S x0 1).getD 0) (giC S ((grC S ((grC S x0 0).getD 0) 0).getD 0) 0)).2) x0 lc ls (grC S ((grC S x0 0).getD 0) 4))
def e_Y10_again : List Cond := [.fieldLink RX10 10 "MotionFloor" "now" "LMotionFloor$Assembly;", .fieldLink RX10 123 "MotionFloor$Assembly" "minutes" "LMotionFloor$Ledger;", .fieldLink RX10 16 "MotionFloor" "trial" "LMotionFloor$Assembly;", .fieldLink RX10 88 "MotionFloor$Assembly" "house" "LMotionFloor$House;", .fieldLink RX10 92 "MotionFloor$House" "seats" "I", .methodLink RX10 28 yX0_begin, .instanceMethod yX0_begin, .selects RX0 yX0_begin yX0_begin, .initialized RX0, .fieldLink RX10 126 "MotionFloor$Ledger" "size" "I", .methodLink RX10 86 yX3_at, .instanceMethod yX3_at, .selects RX3 yX3_at yX3_at, .initialized RX3, .methodLink RX10 32 yX0_enact, .instanceMethod yX0_enact, .selects RX0 yX0_enact yX0_enact, .fieldLink RX10 46 "MotionFloor$Assembly" "pending" "LMotionFloor$Pile;", .fieldLink RX10 112 "MotionFloor$Pile" "size" "I"]
def v_Y10_again : List Cond := .code yX10_again cX10_again 4 (some .int) :: (e_Y10_again ++ (wsX100 ++ (wsX00 ++ (wsX20 ++ (wsX30 ++ (wsX50 ++ (v_Y0_begin ++ (v_Y3_at ++ (v_Y0_enact ++ [])))))))))
theorem te_Y10_again : GoodIn lw_tbl e_Y10_again := wGc zc496 (wGc zc535 (wGc zc716 (wGc zc545 (wGc zc544 (wGc zc495 (wGc zc494 (wGc zc493 (wGc zc39 (wGc zc534 (wGc zc527 (wGc zc526 (wGc zc525 (wGc zc480 (wGc zc693 (wGc zc692 (wGc zc691 (wGc zc507 (wGc zc538 (wG0)))))))))))))))))))
theorem t_Y10_again : GoodIn lw_tbl v_Y10_again := wGc zc718 (wGa te_Y10_again (wGa zcX10 (wGa zcX0 (wGa zcX2 (wGa zcX3 (wGa zcX5 (wGa t_Y0_begin (wGa t_Y3_at (wGa t_Y0_enact (wG0))))))))))
set_option maxHeartbeats 4000000 in
set_option maxRecDepth 100000 in
theorem c_Y10_again (l : Launch) (G : va_G) (K : Nat → ClassId) (ad0 : Nat → Nat) (S0 : Cst) (x0 : Nat) (lc : Nat) (ls : Nat)  (sz : Nat) : Met l yX10_again v_Y10_again ({ frames := 8, cells := lc - S0.1, slots := ls - S0.2.1, locals := 226 }) (va_Pc [.ref (ad0 x0)] (cSt G K ad0 sz S0 ((S0.1 ≤ lc ∧ S0.2.1 ≤ ls) ∧ iK S0 x0 7 ∧ p_Y10_again S0 x0 lc ls))) (va_Qi (fun (r : Int32) (u : Cst × (Nat → Nat)) => (r, u.1) = f_Y10_again S0 x0 ∧ eN S0 u.1 ∧ (∀ q, q < S0.1 → u.2 q = ad0 q)) (fun u t => cBt G K u.2 (va_A (wsC K ad0 S0) sz) u.1 t) (va_A (wsC K ad0 S0) sz)) (lc - S0.1) (ls - S0.2.1) (va_A (wsC K ad0 S0) sz) := by
  refine Met.ofW (cc := cX10_again) (maxL := 4) (ret := (some .int)) (by decide) rfl ?_
  intro p e s m args below meth c s₁ B hml hv
  obtain ⟨rfl, ⟨hsz, hP, hK, hD0, hTE⟩, hp⟩ := hv
  obtain ⟨k_l, hp⟩ := hp
  obtain ⟨k_x0, hp⟩ := hp
  have hx := B.exec
  have hb := B.bytes
  have hr := B.returns
  have hts := atoms_spec (ws := v_Y10_again) B.pre
  have t_ := t_Y10_again
  have mw : ∀ w ∈ e_Y10_again, w ∈ v_Y10_again := fun w h => List.mem_cons_of_mem _ (List.mem_append_left _ h)
  have hw := fun w (h : w ∈ e_Y10_again) => hts w (mw w h)
  have iX10 : ∀ w ∈ wsX100, w ∈ v_Y10_again := fun w h => List.mem_cons_of_mem _ (List.mem_append_right _ (List.mem_append_left _ h))
  have iX0 : ∀ w ∈ wsX00, w ∈ v_Y10_again := fun w h => List.mem_cons_of_mem _ (List.mem_append_right _ (List.mem_append_right _ (List.mem_append_left _ h)))
  have iX2 : ∀ w ∈ wsX20, w ∈ v_Y10_again := fun w h => List.mem_cons_of_mem _ (List.mem_append_right _ (List.mem_append_right _ (List.mem_append_right _ (List.mem_append_left _ h))))
  have iX3 : ∀ w ∈ wsX30, w ∈ v_Y10_again := fun w h => List.mem_cons_of_mem _ (List.mem_append_right _ (List.mem_append_right _ (List.mem_append_right _ (List.mem_append_right _ (List.mem_append_left _ h)))))
  have iX5 : ∀ w ∈ wsX50, w ∈ v_Y10_again := fun w h => List.mem_cons_of_mem _ (List.mem_append_right _ (List.mem_append_right _ (List.mem_append_right _ (List.mem_append_right _ (List.mem_append_right _ (List.mem_append_left _ h))))))
  have j_Y0_begin : ∀ w ∈ v_Y0_begin, w ∈ v_Y10_again := fun w h => List.mem_cons_of_mem _ (List.mem_append_right _ (List.mem_append_right _ (List.mem_append_right _ (List.mem_append_right _ (List.mem_append_right _ (List.mem_append_right _ (List.mem_append_left _ h)))))))
  have j_Y3_at : ∀ w ∈ v_Y3_at, w ∈ v_Y10_again := fun w h => List.mem_cons_of_mem _ (List.mem_append_right _ (List.mem_append_right _ (List.mem_append_right _ (List.mem_append_right _ (List.mem_append_right _ (List.mem_append_right _ (List.mem_append_right _ (List.mem_append_left _ h))))))))
  have j_Y0_enact : ∀ w ∈ v_Y0_enact, w ∈ v_Y10_again := fun w h => List.mem_cons_of_mem _ (List.mem_append_right _ (List.mem_append_right _ (List.mem_append_right _ (List.mem_append_right _ (List.mem_append_right _ (List.mem_append_right _ (List.mem_append_right _ (List.mem_append_right _ (List.mem_append_left _ h)))))))))
  have hown : s.vm.findClass RX10 = some m.cls := findClass_of_methodNamed B.named
  have hlocks := B.notSynchronized
  subst hsz
  have hD := hD0.self (sz := s.heap.size)
  generalize hAe : va_A (wsC K ad0 S0) s.heap.size = A at hD ⊢
  have hA : ∀ q : Nat, s.heap.size ≤ q → A q := fun q h => by rw [← hAe]; exact Or.inr h
  have hS : va_S A s.heap s.heap [] := va_S.rf
  have hl : lv_has (lg_sl ([.ref (ad0 x0)]) ++ List.replicate (4 - (lg_sl ([.ref (ad0 x0)])).length) Slot.unset).toArray 4 [(0, .ref (ad0 x0))] := by
    exact lv_entry ([.ref (ad0 x0)]) (n := 4) (Nat.le_of_ble_eq_true rfl)
  rw [lg_entry_eq]
  generalize (lg_sl ([.ref (ad0 x0)]) ++ List.replicate (4 - (lg_sl ([.ref (ad0 x0)])).length) Slot.unset).toArray = ls_ at hl ⊢
  refine wGen (fun Q hQ => ?_)
  obtain ⟨X, hX⟩ : ∃ X, f_Y10_again S0 x0 = X := ⟨_, rfl⟩
  have B_Y10_again_103 : ∀ (S : Cst) (ad : Nat → Nat) (x1 : Option Nat) (x2 : Int32) (x3 : Int32) (H : Heap) (locs : List Loc) (ls_ : Array Slot), b_Y10_again_103 S x0 x1 x2 x3 = X → q_Y10_again_103 S x0 lc ls x1 x2 x3 → nH S0 ad0 lc ls S ad → va_P G vwCl (wsC K ad S) H → va_D A (wsC K ad S) → va_S A s.heap H locs → lv_has ls_ 4 [(0, .ref (ad x0)), (1, va_re ad x1), (2, .int x2), (3, .int x3)] → W p l e ({ frames := 8, cells := lc - S0.1, slots := ls - S0.2.1, locals := 226 } : Room) s m #[Value.ref (ad0 x0)] below meth c H locs (S.1 - S0.1) (S.2.1 - S0.2.1) Q (F0 m 103 ls_ []) := by
    intro S ad x1 x2 x3 H locs ls_ hE hp hZ hP hD hS hl
    unfold b_Y10_again_103 at hE
    unfold q_Y10_again_103 at hp
    refine lv_iload_n hx hb dX10_again_103 rfl (lv_at hl 2 rfl) ?_
    refine W.widen (k := lc - S0.1) (n := ls - S0.2.1) (show S.1 - S0.1 ≤ lc - S0.1 from Nat.sub_le_sub_right hZ.2.2.1 _) (show S.2.1 - S0.2.1 ≤ ls - S0.2.1 from Nat.sub_le_sub_right hZ.2.2.2 _) ?_
    subst hQ
    exact W.iret (v := x2) hx hb hr (fun t ht hW => ⟨⟨x2, (S, ad), rfl, ⟨hE.trans hX.symm, hZ.1, hZ.2.1⟩, by rw [ht]; exact hP, hD⟩, hS.F ht⟩) hS.2.2 dX10_again_104
  have L_27 : ∀ (n : Nat) (S : Cst) (ad : Nat → Nat) (x1 : Option Nat) (x2 : Int32) (H : Heap) (locs : List Loc) (ls_ : Array Slot), lp_Y10_again_27 x0 n S x1 x2 = X → lq_Y10_again_27 x0 lc ls n S x1 x2 → nH S0 ad0 lc ls S ad → va_P G vwCl (wsC K ad S) H → va_D A (wsC K ad S) → va_S A s.heap H locs → lv_has ls_ 4 [(0, .ref (ad x0)), (1, va_re ad x1), (2, .int x2)] → W p l e ({ frames := 8, cells := lc - S0.1, slots := ls - S0.2.1, locals := 226 } : Room) s m #[Value.ref (ad0 x0)] below meth c H locs (S.1 - S0.1) (S.2.1 - S0.2.1) Q (F0 m 27 ls_ []) := by
    intro n1
    induction n1 with
    | zero => intro S ad x1 x2 H locs ls_ hE hp; exact False.elim hp
    | succ n1 ih1 =>
      intro S ad x1 x2 H locs ls_ hO1 hp hZ hP hD hS hl
      rw [lp_Y10_again_27] at hO1
      rw [lq_Y10_again_27] at hp
      obtain ⟨hp, hq1⟩ := hp
      generalize hE : st_Y10_again_27 S x0 x1 x2 = Y1 at hO1 hq1
      unfold st_Y10_again_27 at hE
      unfold ps_Y10_again_27 at hp
      have B_Y10_again_72a : ∀ (S : Cst) (ad : Nat → Nat) (x1 : Option Nat) (x2 : Int32) (y0 : Int32) (H : Heap) (locs : List Loc) (ls_ : Array Slot), b_Y10_again_72a S x0 x1 x2 y0 = Y1 → q_Y10_again_72a S x0 lc ls x1 x2 y0 → nH S0 ad0 lc ls S ad → va_P G vwCl (wsC K ad S) H → va_D A (wsC K ad S) → va_S A s.heap H locs → lv_has ls_ 4 [(0, .ref (ad x0)), (1, va_re ad x1), (2, .int x2)] → W p l e ({ frames := 8, cells := lc - S0.1, slots := ls - S0.2.1, locals := 226 } : Room) s m #[Value.ref (ad0 x0)] below meth c H locs (S.1 - S0.1) (S.2.1 - S0.2.1) Q (F0 m 72 ls_ [.int y0]) := by
        intro S ad x1 x2 y0 H locs ls_ hE hp hZ hP hD hS hl
        unfold b_Y10_again_72a at hE
        unfold q_Y10_again_72a at hp
        refine lv_istore_n (i := 3) (lv' := [(3, .int y0), (0, .ref (ad x0)), (1, va_re ad x1), (2, .int x2)]) hx hb dX10_again_72 rfl hl (by decide) rfl (fun ls_ hl => ?_)
        refine lv_iload_n hx hb dX10_again_73 rfl (lv_at hl 0 rfl) ?_
        refine cAload_n (ad := ad) (r := x1) hx hb dX10_again_74 rfl (lv_at hl 2 rfl) ?_
        refine lv_iload_n hx hb dX10_again_75 rfl (lv_at hl 3 rfl) ?_
        refine lv_iconst (v := 5) hx hb dX10_again_76 (by decide) ?_
        obtain ⟨hy36, hp⟩ := hp
        refine cTop3 (r := x1) hy36.1 ?_
        obtain ⟨hy37, hp⟩ := hp
        refine cGoi (va_runV (As := [.int x2, .int 5]) (rest := [.int y0]) ⟨hx, hb, hml, hown, hts⟩ (c_Y3_at l G K ad S (x1.getD 0) x2 (5 : Int32) _) (cwV 2 hts (wGV t_ (mw (.methodLink RX10 86 yX3_at) (List.mem_of_getElem? (i := 10) rfl)) (mw (.instanceMethod yX3_at) (List.mem_of_getElem? (i := 11) rfl)) (mw (.selects RX3 yX3_at yX3_at) (List.mem_of_getElem? (i := 12) rfl)) (mw (.initialized RX3) (List.mem_of_getElem? (i := 13) rfl)) j_Y3_at) rfl rfl rfl (by decide +kernel) ⟨Nat.le_of_ble_eq_true rfl, Nat.le_of_ble_eq_true rfl⟩) (cPV hK hTE hP hD 2 rfl (at_2 hy36.2) ⟨hy36.2, hy37⟩) rfl rfl hl.1 rfl (lv_room (Nat.le_of_ble_eq_true rfl)) dX10_again_77 ⟨(show S.1 - S0.1 ≤ lc - S0.1 from Nat.sub_le_sub_right hZ.2.2.1 _), (show S.2.1 - S0.2.1 ≤ ls - S0.2.1 from Nat.sub_le_sub_right hZ.2.2.2 _)⟩) hP hD hS hA (fun r39 u38 H locs hv hP hD hS => ?_)
        have h1 := congrArg Prod.fst hv
        have h2 := (congrArg Prod.snd hv).symm
        dsimp only at h1 h2
        subst h1
        subst h2
        refine lv_icmp_ne (tgt := 103) hx hb dX10_again_80 (by decide) (fun c40 => ?_) (fun c40 => ?_)
        · rw [if_neg c40] at hE hp
          subst hE
          have hE := hO1
          dsimp only at hE
          exact B_Y10_again_103 S ad x1 x2 y0 _ _ _ hE hp hZ hP hD hS (lv_sub hl [1, 2, 3, 0] rfl)
        · rw [if_pos c40] at hE hp
          refine lv_aload_n hx hb dX10_again_83 rfl (lv_at hl 1 rfl) ?_
          refine va_get (D := G) (ci := 7) (v := va_re ad (grC S x0 1)) (C := RX10) (T := TX10) (N := 5) hx hb hts iX10 hown hK hP x0 (at_7 (k_x0.n hZ.1)) rfl 1 (by decide) (hw (.fieldLink RX10 16 "MotionFloor" "trial" "LMotionFloor$Assembly;") (List.mem_of_getElem? (i := 2) rfl)) (fun _ h9 => h9) rfl dX10_again_84 ?_
          obtain ⟨hy41, hp⟩ := hp
          refine cTop (r := (grC S x0 1)) hy41.1 ?_
          refine va_get (D := G) (ci := 0) (v := va_re ad (grC S ((grC S x0 1).getD 0) 1)) (C := RX0) (T := TX0) (N := 11) hx hb hts iX0 hown hK hP ((grC S x0 1).getD 0) (at_0 hy41.2) rfl 1 (by decide) (hw (.fieldLink RX10 46 "MotionFloor$Assembly" "pending" "LMotionFloor$Pile;") (List.mem_of_getElem? (i := 17) rfl)) (fun _ h9 => h9) rfl dX10_again_87 ?_
          obtain ⟨hy42, hp⟩ := hp
          refine cTop (r := (grC S ((grC S x0 1).getD 0) 1)) hy42.1 ?_
          refine va_get (D := G) (ci := 4) (v := .int (giC S ((grC S ((grC S x0 1).getD 0) 1).getD 0) 1)) (C := RX5) (T := TX5) (N := 2) hx hb hts iX5 hown hK hP ((grC S ((grC S x0 1).getD 0) 1).getD 0) (at_4 hy42.2) rfl 1 (by decide) (hw (.fieldLink RX10 112 "MotionFloor$Pile" "size" "I") (List.mem_of_getElem? (i := 18) rfl)) (fun _ h9 => h9) rfl dX10_again_90 ?_
          refine cAload_n (ad := ad) (r := x1) hx hb dX10_again_93 rfl (lv_at hl 2 rfl) ?_
          refine lv_iload_n hx hb dX10_again_94 rfl (lv_at hl 3 rfl) ?_
          refine lv_bipush (v := 6) hx hb dX10_again_95 (by decide) ?_
          obtain ⟨hy43, hp⟩ := hp
          refine cTop3 (r := x1) hy43.1 ?_
          obtain ⟨hy44, hp⟩ := hp
          refine cGoi (va_runV (As := [.int x2, .int 6]) (rest := [.int (giC S ((grC S ((grC S x0 1).getD 0) 1).getD 0) 1)]) ⟨hx, hb, hml, hown, hts⟩ (c_Y3_at l G K ad S (x1.getD 0) x2 (6 : Int32) _) (cwV 2 hts (wGV t_ (mw (.methodLink RX10 86 yX3_at) (List.mem_of_getElem? (i := 10) rfl)) (mw (.instanceMethod yX3_at) (List.mem_of_getElem? (i := 11) rfl)) (mw (.selects RX3 yX3_at yX3_at) (List.mem_of_getElem? (i := 12) rfl)) (mw (.initialized RX3) (List.mem_of_getElem? (i := 13) rfl)) j_Y3_at) rfl rfl rfl (by decide +kernel) ⟨Nat.le_of_ble_eq_true rfl, Nat.le_of_ble_eq_true rfl⟩) (cPV hK hTE hP hD 2 rfl (at_2 hy43.2) ⟨hy43.2, hy44⟩) rfl rfl hl.1 rfl (lv_room (Nat.le_of_ble_eq_true rfl)) dX10_again_97 ⟨(show S.1 - S0.1 ≤ lc - S0.1 from Nat.sub_le_sub_right hZ.2.2.1 _), (show S.2.1 - S0.2.1 ≤ ls - S0.2.1 from Nat.sub_le_sub_right hZ.2.2.2 _)⟩) hP hD hS hA (fun r46 u45 H locs hv hP hD hS => ?_)
          have h1 := congrArg Prod.fst hv
          have h2 := (congrArg Prod.snd hv).symm
          dsimp only at h1 h2
          subst h1
          subst h2
          refine lv_icmp_eq (tgt := 105) hx hb dX10_again_100 (by decide) (fun c47 => ?_) (fun c47 => ?_)
          · rw [if_pos c47] at hE hp
            refine lv_iinc (i := 2) (v := (x2 + 1)) (lv' := [(2, .int (x2 + 1)), (3, .int y0), (0, .ref (ad x0)), (1, va_re ad x1)]) hx hb dX10_again_105 hl (k := 3) rfl rfl (by decide) (by simp [List.filter, re_cat]) (fun ls_ hl => ?_)
            refine lv_goto (tgt := 27) hx hb dX10_again_108 (by decide) ?_
            subst hE
            dsimp only at hO1 hq1
            exact ih1 S ad x1 (x2 + 1) _ _ _ hO1 hq1 hZ hP hD hS (lv_sub hl [2, 3, 0] rfl)
          · rw [if_neg c47] at hE hp
            subst hE
            have hE := hO1
            dsimp only at hE
            exact B_Y10_again_103 S ad x1 x2 y0 _ _ _ hE hp hZ hP hD hS (lv_sub hl [1, 2, 3, 0] rfl)
      refine lv_iload_n hx hb dX10_again_27 rfl (lv_at hl 2 rfl) ?_
      refine cAload_n (ad := ad) (r := x1) hx hb dX10_again_28 rfl (lv_at hl 1 rfl) ?_
      obtain ⟨hy8, hp⟩ := hp
      refine cTop (r := x1) hy8.1 ?_
      refine va_get (D := G) (ci := 2) (v := .int (giC S (x1.getD 0) 3)) (C := RX3) (T := TX3) (N := 4) hx hb hts iX3 hown hK hP (x1.getD 0) (at_2 hy8.2) rfl 3 (by decide) (hw (.fieldLink RX10 126 "MotionFloor$Ledger" "size" "I") (List.mem_of_getElem? (i := 9) rfl)) (fun _ h9 => h9) rfl dX10_again_29 ?_
      refine lv_icmp_ge (tgt := 111) hx hb dX10_again_32 (by decide) (fun c9 => ?_) (fun c9 => ?_)
      · rw [if_pos c9] at hE hp
        subst hE
        have hE := hO1
        dsimp only at hE
        refine lv_iconst (v := (-1)) hx hb dX10_again_111 (by decide) ?_
        refine W.widen (k := lc - S0.1) (n := ls - S0.2.1) (show S.1 - S0.1 ≤ lc - S0.1 from Nat.sub_le_sub_right hZ.2.2.1 _) (show S.2.1 - S0.2.1 ≤ ls - S0.2.1 from Nat.sub_le_sub_right hZ.2.2.2 _) ?_
        subst hQ
        exact W.iret (v := ((-1) : Int32)) hx hb hr (fun t ht hW => ⟨⟨((-1) : Int32), (S, ad), rfl, ⟨hE.trans hX.symm, hZ.1, hZ.2.1⟩, by rw [ht]; exact hP, hD⟩, hS.F ht⟩) hS.2.2 dX10_again_112
      · rw [if_neg c9] at hE hp
        refine lv_aload_n hx hb dX10_again_35 rfl (lv_at hl 0 rfl) ?_
        refine va_get (D := G) (ci := 7) (v := va_re ad (grC S x0 1)) (C := RX10) (T := TX10) (N := 5) hx hb hts iX10 hown hK hP x0 (at_7 (k_x0.n hZ.1)) rfl 1 (by decide) (hw (.fieldLink RX10 16 "MotionFloor" "trial" "LMotionFloor$Assembly;") (List.mem_of_getElem? (i := 2) rfl)) (fun _ h9 => h9) rfl dX10_again_36 ?_
        refine cAload_n (ad := ad) (r := x1) hx hb dX10_again_39 rfl (lv_at hl 1 rfl) ?_
        refine lv_iload_n hx hb dX10_again_40 rfl (lv_at hl 2 rfl) ?_
        refine lv_iconst (v := 0) hx hb dX10_again_41 (by decide) ?_
        obtain ⟨hy10, hp⟩ := hp
        refine cTop3 (r := x1) hy10.1 ?_
        obtain ⟨hy11, hp⟩ := hp
        refine cGoi (va_runV (As := [.int x2, .int 0]) (rest := [va_re ad (grC S x0 1)]) ⟨hx, hb, hml, hown, hts⟩ (c_Y3_at l G K ad S (x1.getD 0) x2 (0 : Int32) _) (cwV 2 hts (wGV t_ (mw (.methodLink RX10 86 yX3_at) (List.mem_of_getElem? (i := 10) rfl)) (mw (.instanceMethod yX3_at) (List.mem_of_getElem? (i := 11) rfl)) (mw (.selects RX3 yX3_at yX3_at) (List.mem_of_getElem? (i := 12) rfl)) (mw (.initialized RX3) (List.mem_of_getElem? (i := 13) rfl)) j_Y3_at) rfl rfl rfl (by decide +kernel) ⟨Nat.le_of_ble_eq_true rfl, Nat.le_of_ble_eq_true rfl⟩) (cPV hK hTE hP hD 2 rfl (at_2 hy10.2) ⟨hy10.2, hy11⟩) rfl rfl hl.1 rfl (lv_room (by simp only [List.map_cons, List.map_nil, List.sum_cons, List.sum_nil, re_cat]; exact Nat.le_of_ble_eq_true rfl)) dX10_again_42 ⟨(show S.1 - S0.1 ≤ lc - S0.1 from Nat.sub_le_sub_right hZ.2.2.1 _), (show S.2.1 - S0.2.1 ≤ ls - S0.2.1 from Nat.sub_le_sub_right hZ.2.2.2 _)⟩) hP hD hS hA (fun r13 u12 H locs hv hP hD hS => ?_)
        have h1 := congrArg Prod.fst hv
        have h2 := (congrArg Prod.snd hv).symm
        dsimp only at h1 h2
        subst h1
        subst h2
        refine cAload_n (ad := ad) (r := x1) hx hb dX10_again_45 rfl (lv_at hl 1 rfl) ?_
        refine lv_iload_n hx hb dX10_again_46 rfl (lv_at hl 2 rfl) ?_
        refine lv_iconst (v := 1) hx hb dX10_again_47 (by decide) ?_
        obtain ⟨hy14, hp⟩ := hp
        refine cTop3 (r := x1) hy14.1 ?_
        obtain ⟨hy15, hp⟩ := hp
        refine cGoi (va_runV (As := [.int x2, .int 1]) (rest := [.int (f_Y3_at S (x1.getD 0) x2 (0 : Int32)), va_re ad (grC S x0 1)]) ⟨hx, hb, hml, hown, hts⟩ (c_Y3_at l G K ad S (x1.getD 0) x2 (1 : Int32) _) (cwV 2 hts (wGV t_ (mw (.methodLink RX10 86 yX3_at) (List.mem_of_getElem? (i := 10) rfl)) (mw (.instanceMethod yX3_at) (List.mem_of_getElem? (i := 11) rfl)) (mw (.selects RX3 yX3_at yX3_at) (List.mem_of_getElem? (i := 12) rfl)) (mw (.initialized RX3) (List.mem_of_getElem? (i := 13) rfl)) j_Y3_at) rfl rfl rfl (by decide +kernel) ⟨Nat.le_of_ble_eq_true rfl, Nat.le_of_ble_eq_true rfl⟩) (cPV hK hTE hP hD 2 rfl (at_2 hy14.2) ⟨hy14.2, hy15⟩) rfl rfl hl.1 rfl (lv_room (by simp only [List.map_cons, List.map_nil, List.sum_cons, List.sum_nil, re_cat]; exact Nat.le_of_ble_eq_true rfl)) dX10_again_48 ⟨(show S.1 - S0.1 ≤ lc - S0.1 from Nat.sub_le_sub_right hZ.2.2.1 _), (show S.2.1 - S0.2.1 ≤ ls - S0.2.1 from Nat.sub_le_sub_right hZ.2.2.2 _)⟩) hP hD hS hA (fun r17 u16 H locs hv hP hD hS => ?_)
        have h1 := congrArg Prod.fst hv
        have h2 := (congrArg Prod.snd hv).symm
        dsimp only at h1 h2
        subst h1
        subst h2
        refine cAload_n (ad := ad) (r := x1) hx hb dX10_again_51 rfl (lv_at hl 1 rfl) ?_
        refine lv_iload_n hx hb dX10_again_52 rfl (lv_at hl 2 rfl) ?_
        refine lv_iconst (v := 2) hx hb dX10_again_53 (by decide) ?_
        obtain ⟨hy18, hp⟩ := hp
        refine cTop3 (r := x1) hy18.1 ?_
        obtain ⟨hy19, hp⟩ := hp
        refine cGoi (va_runV (As := [.int x2, .int 2]) (rest := [.int (f_Y3_at S (x1.getD 0) x2 (1 : Int32)), .int (f_Y3_at S (x1.getD 0) x2 (0 : Int32)), va_re ad (grC S x0 1)]) ⟨hx, hb, hml, hown, hts⟩ (c_Y3_at l G K ad S (x1.getD 0) x2 (2 : Int32) _) (cwV 2 hts (wGV t_ (mw (.methodLink RX10 86 yX3_at) (List.mem_of_getElem? (i := 10) rfl)) (mw (.instanceMethod yX3_at) (List.mem_of_getElem? (i := 11) rfl)) (mw (.selects RX3 yX3_at yX3_at) (List.mem_of_getElem? (i := 12) rfl)) (mw (.initialized RX3) (List.mem_of_getElem? (i := 13) rfl)) j_Y3_at) rfl rfl rfl (by decide +kernel) ⟨Nat.le_of_ble_eq_true rfl, Nat.le_of_ble_eq_true rfl⟩) (cPV hK hTE hP hD 2 rfl (at_2 hy18.2) ⟨hy18.2, hy19⟩) rfl rfl hl.1 rfl (lv_room (by simp only [List.map_cons, List.map_nil, List.sum_cons, List.sum_nil, re_cat]; exact Nat.le_of_ble_eq_true rfl)) dX10_again_54 ⟨(show S.1 - S0.1 ≤ lc - S0.1 from Nat.sub_le_sub_right hZ.2.2.1 _), (show S.2.1 - S0.2.1 ≤ ls - S0.2.1 from Nat.sub_le_sub_right hZ.2.2.2 _)⟩) hP hD hS hA (fun r21 u20 H locs hv hP hD hS => ?_)
        have h1 := congrArg Prod.fst hv
        have h2 := (congrArg Prod.snd hv).symm
        dsimp only at h1 h2
        subst h1
        subst h2
        refine cAload_n (ad := ad) (r := x1) hx hb dX10_again_57 rfl (lv_at hl 1 rfl) ?_
        refine lv_iload_n hx hb dX10_again_58 rfl (lv_at hl 2 rfl) ?_
        refine lv_iconst (v := 3) hx hb dX10_again_59 (by decide) ?_
        obtain ⟨hy22, hp⟩ := hp
        refine cTop3 (r := x1) hy22.1 ?_
        obtain ⟨hy23, hp⟩ := hp
        refine cGoi (va_runV (As := [.int x2, .int 3]) (rest := [.int (f_Y3_at S (x1.getD 0) x2 (2 : Int32)), .int (f_Y3_at S (x1.getD 0) x2 (1 : Int32)), .int (f_Y3_at S (x1.getD 0) x2 (0 : Int32)), va_re ad (grC S x0 1)]) ⟨hx, hb, hml, hown, hts⟩ (c_Y3_at l G K ad S (x1.getD 0) x2 (3 : Int32) _) (cwV 2 hts (wGV t_ (mw (.methodLink RX10 86 yX3_at) (List.mem_of_getElem? (i := 10) rfl)) (mw (.instanceMethod yX3_at) (List.mem_of_getElem? (i := 11) rfl)) (mw (.selects RX3 yX3_at yX3_at) (List.mem_of_getElem? (i := 12) rfl)) (mw (.initialized RX3) (List.mem_of_getElem? (i := 13) rfl)) j_Y3_at) rfl rfl rfl (by decide +kernel) ⟨Nat.le_of_ble_eq_true rfl, Nat.le_of_ble_eq_true rfl⟩) (cPV hK hTE hP hD 2 rfl (at_2 hy22.2) ⟨hy22.2, hy23⟩) rfl rfl hl.1 rfl (lv_room (by simp only [List.map_cons, List.map_nil, List.sum_cons, List.sum_nil, re_cat]; exact Nat.le_of_ble_eq_true rfl)) dX10_again_60 ⟨(show S.1 - S0.1 ≤ lc - S0.1 from Nat.sub_le_sub_right hZ.2.2.1 _), (show S.2.1 - S0.2.1 ≤ ls - S0.2.1 from Nat.sub_le_sub_right hZ.2.2.2 _)⟩) hP hD hS hA (fun r25 u24 H locs hv hP hD hS => ?_)
        have h1 := congrArg Prod.fst hv
        have h2 := (congrArg Prod.snd hv).symm
        dsimp only at h1 h2
        subst h1
        subst h2
        refine cAload_n (ad := ad) (r := x1) hx hb dX10_again_63 rfl (lv_at hl 1 rfl) ?_
        refine lv_iload_n hx hb dX10_again_64 rfl (lv_at hl 2 rfl) ?_
        refine lv_iconst (v := 4) hx hb dX10_again_65 (by decide) ?_
        obtain ⟨hy26, hp⟩ := hp
        refine cTop3 (r := x1) hy26.1 ?_
        obtain ⟨hy27, hp⟩ := hp
        refine cGoi (va_runV (As := [.int x2, .int 4]) (rest := [.int (f_Y3_at S (x1.getD 0) x2 (3 : Int32)), .int (f_Y3_at S (x1.getD 0) x2 (2 : Int32)), .int (f_Y3_at S (x1.getD 0) x2 (1 : Int32)), .int (f_Y3_at S (x1.getD 0) x2 (0 : Int32)), va_re ad (grC S x0 1)]) ⟨hx, hb, hml, hown, hts⟩ (c_Y3_at l G K ad S (x1.getD 0) x2 (4 : Int32) _) (cwV 2 hts (wGV t_ (mw (.methodLink RX10 86 yX3_at) (List.mem_of_getElem? (i := 10) rfl)) (mw (.instanceMethod yX3_at) (List.mem_of_getElem? (i := 11) rfl)) (mw (.selects RX3 yX3_at yX3_at) (List.mem_of_getElem? (i := 12) rfl)) (mw (.initialized RX3) (List.mem_of_getElem? (i := 13) rfl)) j_Y3_at) rfl rfl rfl (by decide +kernel) ⟨Nat.le_of_ble_eq_true rfl, Nat.le_of_ble_eq_true rfl⟩) (cPV hK hTE hP hD 2 rfl (at_2 hy26.2) ⟨hy26.2, hy27⟩) rfl rfl hl.1 rfl (lv_room (by simp only [List.map_cons, List.map_nil, List.sum_cons, List.sum_nil, re_cat]; exact Nat.le_of_ble_eq_true rfl)) dX10_again_66 ⟨(show S.1 - S0.1 ≤ lc - S0.1 from Nat.sub_le_sub_right hZ.2.2.1 _), (show S.2.1 - S0.2.1 ≤ ls - S0.2.1 from Nat.sub_le_sub_right hZ.2.2.2 _)⟩) hP hD hS hA (fun r29 u28 H locs hv hP hD hS => ?_)
        have h1 := congrArg Prod.fst hv
        have h2 := (congrArg Prod.snd hv).symm
        dsimp only at h1 h2
        subst h1
        subst h2
        obtain ⟨hy30, hp⟩ := hp
        refine cTop6 (r := (grC S x0 1)) hy30.1 ?_
        obtain ⟨hy31, hp⟩ := hp
        obtain ⟨hy32, hp⟩ := hp
        refine cNoi (va_runV (As := [.int (f_Y3_at S (x1.getD 0) x2 (0 : Int32)), .int (f_Y3_at S (x1.getD 0) x2 (1 : Int32)), .int (f_Y3_at S (x1.getD 0) x2 (2 : Int32)), .int (f_Y3_at S (x1.getD 0) x2 (3 : Int32)), .int (f_Y3_at S (x1.getD 0) x2 (4 : Int32))]) (rest := []) ⟨hx, hb, hml, hown, hts⟩ (c_Y0_enact l G K ad S ((grC S x0 1).getD 0) (f_Y0_enact S ((grC S x0 1).getD 0) (f_Y3_at S (x1.getD 0) x2 (0 : Int32)) (f_Y3_at S (x1.getD 0) x2 (1 : Int32)) (f_Y3_at S (x1.getD 0) x2 (2 : Int32)) (f_Y3_at S (x1.getD 0) x2 (3 : Int32)) (f_Y3_at S (x1.getD 0) x2 (4 : Int32))).2.1 (f_Y0_enact S ((grC S x0 1).getD 0) (f_Y3_at S (x1.getD 0) x2 (0 : Int32)) (f_Y3_at S (x1.getD 0) x2 (1 : Int32)) (f_Y3_at S (x1.getD 0) x2 (2 : Int32)) (f_Y3_at S (x1.getD 0) x2 (3 : Int32)) (f_Y3_at S (x1.getD 0) x2 (4 : Int32))).2.2.1 (f_Y3_at S (x1.getD 0) x2 (0 : Int32)) (f_Y3_at S (x1.getD 0) x2 (1 : Int32)) (f_Y3_at S (x1.getD 0) x2 (2 : Int32)) (f_Y3_at S (x1.getD 0) x2 (3 : Int32)) (f_Y3_at S (x1.getD 0) x2 (4 : Int32)) _) (cwV 5 hts (wGV t_ (mw (.methodLink RX10 32 yX0_enact) (List.mem_of_getElem? (i := 14) rfl)) (mw (.instanceMethod yX0_enact) (List.mem_of_getElem? (i := 15) rfl)) (mw (.selects RX0 yX0_enact yX0_enact) (List.mem_of_getElem? (i := 16) rfl)) (mw (.initialized RX0) (List.mem_of_getElem? (i := 8) rfl)) j_Y0_enact) rfl rfl rfl (by decide +kernel) ⟨Nat.le_of_ble_eq_true rfl, Nat.le_of_ble_eq_true rfl⟩) (cPV hK hTE hP hD 0 rfl (at_0 hy30.2) ⟨⟨hy31.1.1, hy31.2.1⟩, hy30.2, hy32⟩) rfl rfl hl.1 rfl (lv_room (Nat.le_of_ble_eq_true rfl)) dX10_again_69 ⟨by show _ ≤ lc - S0.1; have := hZ.1.1.1; have := hy31.1; omega, by show _ ≤ ls - S0.2.1; have := hZ.1.1.2; have := hy31.2; omega⟩) hP hD hS hA (fun r34 u33 H locs hv hP hD hS => ?_)
        obtain ⟨hv, hz, ha⟩ := hv
        obtain ⟨hy35, hp⟩ := hp
        have e1 : (f_Y0_enact S ((grC S x0 1).getD 0) (f_Y3_at S (x1.getD 0) x2 (0 : Int32)) (f_Y3_at S (x1.getD 0) x2 (1 : Int32)) (f_Y3_at S (x1.getD 0) x2 (2 : Int32)) (f_Y3_at S (x1.getD 0) x2 (3 : Int32)) (f_Y3_at S (x1.getD 0) x2 (4 : Int32))).2.1 = u33.1.1 := by rw [← hv]
        have e2 : (f_Y0_enact S ((grC S x0 1).getD 0) (f_Y3_at S (x1.getD 0) x2 (0 : Int32)) (f_Y3_at S (x1.getD 0) x2 (1 : Int32)) (f_Y3_at S (x1.getD 0) x2 (2 : Int32)) (f_Y3_at S (x1.getD 0) x2 (3 : Int32)) (f_Y3_at S (x1.getD 0) x2 (4 : Int32))).2.2.1 = u33.1.2.1 := by rw [← hv]
        refine cCells (cells' := u33.1.1 - S0.1) (slots' := u33.1.2.1 - S0.2.1) (by have := hZ.1.1.1; have := hy31.1; omega) (by have := hZ.1.1.2; have := hy31.2; omega) ?_
        rw [← ha x0 (k_x0.n hZ.1).1] at hl
        rw [← re_ad (r := x1) ha hy35] at hl
        have hZ := hZ.n hz ha (by rw [← e1]; exact hy31.1.2) (by rw [← e2]; exact hy31.2.2)
        rw [← hv] at hE hp
        dsimp only at hE hp
        exact B_Y10_again_72a u33.1 u33.2 x1 x2 r34 _ _ _ hE hp hZ hP hD hS (lv_sub hl [0, 1, 2] rfl)
  have B_Y10_again_25a : ∀ (S : Cst) (ad : Nat → Nat) (x1 : Option Nat) (H : Heap) (locs : List Loc) (ls_ : Array Slot), b_Y10_again_25a S x0 x1 = X → q_Y10_again_25a S x0 lc ls x1 → nH S0 ad0 lc ls S ad → va_P G vwCl (wsC K ad S) H → va_D A (wsC K ad S) → va_S A s.heap H locs → lv_has ls_ 4 [(0, .ref (ad x0)), (1, va_re ad x1)] → W p l e ({ frames := 8, cells := lc - S0.1, slots := ls - S0.2.1, locals := 226 } : Room) s m #[Value.ref (ad0 x0)] below meth c H locs (S.1 - S0.1) (S.2.1 - S0.2.1) Q (F0 m 25 ls_ []) := by
    intro S ad x1 H locs ls_ hE hp hZ hP hD hS hl
    unfold b_Y10_again_25a at hE
    unfold q_Y10_again_25a at hp
    refine lv_iconst (v := 0) hx hb dX10_again_25 (by decide) ?_
    refine lv_istore_n (i := 2) (lv' := [(2, .int 0), (0, .ref (ad x0)), (1, va_re ad x1)]) hx hb dX10_again_26 rfl hl (by decide) (by simp [List.filter, re_cat]) (fun ls_ hl => ?_)
    exact L_27 100000 S ad x1 0 _ _ _ hE hp hZ hP hD hS (lv_sub hl [1, 2, 0] rfl)
  have B_M : ∀ (S : Cst) (ad : Nat → Nat) (H : Heap) (locs : List Loc) (ls_ : Array Slot), f_Y10_again S x0 = X → p_Y10_again S x0 lc ls → nH S0 ad0 lc ls S ad → va_P G vwCl (wsC K ad S) H → va_D A (wsC K ad S) → va_S A s.heap H locs → lv_has ls_ 4 [(0, .ref (ad x0))] → W p l e ({ frames := 8, cells := lc - S0.1, slots := ls - S0.2.1, locals := 226 } : Room) s m #[Value.ref (ad0 x0)] below meth c H locs (S.1 - S0.1) (S.2.1 - S0.2.1) Q (F0 m 0 ls_ []) := by
    intro S ad H locs ls_ hE hp hZ hP hD hS hl
    unfold f_Y10_again at hE
    unfold p_Y10_again at hp
    refine lv_aload_n hx hb dX10_again_0 rfl (lv_at hl 0 rfl) ?_
    refine va_get (D := G) (ci := 7) (v := va_re ad (grC S x0 0)) (C := RX10) (T := TX10) (N := 5) hx hb hts iX10 hown hK hP x0 (at_7 (k_x0.n hZ.1)) rfl 0 (by decide) (hw (.fieldLink RX10 10 "MotionFloor" "now" "LMotionFloor$Assembly;") (List.mem_of_getElem? (i := 0) rfl)) (fun _ h9 => h9) rfl dX10_again_1 ?_
    obtain ⟨hy1, hp⟩ := hp
    refine cTop (r := (grC S x0 0)) hy1.1 ?_
    refine va_get (D := G) (ci := 0) (v := va_re ad (grC S ((grC S x0 0).getD 0) 4)) (C := RX0) (T := TX0) (N := 11) hx hb hts iX0 hown hK hP ((grC S x0 0).getD 0) (at_0 hy1.2) rfl 4 (by decide) (hw (.fieldLink RX10 123 "MotionFloor$Assembly" "minutes" "LMotionFloor$Ledger;") (List.mem_of_getElem? (i := 1) rfl)) (fun _ h9 => h9) rfl dX10_again_4 ?_
    refine cAstore_n (ad := ad) (r := (grC S ((grC S x0 0).getD 0) 4)) (i := 1) (lv' := [(1, va_re ad (grC S ((grC S x0 0).getD 0) 4)), (0, .ref (ad x0))]) hx hb dX10_again_7 rfl hl (by decide) rfl (fun ls_ hl => ?_)
    refine lv_aload_n hx hb dX10_again_8 rfl (lv_at hl 1 rfl) ?_
    refine va_get (D := G) (ci := 7) (v := va_re ad (grC S x0 1)) (C := RX10) (T := TX10) (N := 5) hx hb hts iX10 hown hK hP x0 (at_7 (k_x0.n hZ.1)) rfl 1 (by decide) (hw (.fieldLink RX10 16 "MotionFloor" "trial" "LMotionFloor$Assembly;") (List.mem_of_getElem? (i := 2) rfl)) (fun _ h9 => h9) rfl dX10_again_9 ?_
    refine lv_aload_n hx hb dX10_again_12 rfl (lv_at hl 1 rfl) ?_
    refine va_get (D := G) (ci := 7) (v := va_re ad (grC S x0 0)) (C := RX10) (T := TX10) (N := 5) hx hb hts iX10 hown hK hP x0 (at_7 (k_x0.n hZ.1)) rfl 0 (by decide) (hw (.fieldLink RX10 10 "MotionFloor" "now" "LMotionFloor$Assembly;") (List.mem_of_getElem? (i := 0) rfl)) (fun _ h9 => h9) rfl dX10_again_13 ?_
    obtain ⟨hy2, hp⟩ := hp
    refine cTop (r := (grC S x0 0)) hy2.1 ?_
    refine va_get (D := G) (ci := 0) (v := va_re ad (grC S ((grC S x0 0).getD 0) 0)) (C := RX0) (T := TX0) (N := 11) hx hb hts iX0 hown hK hP ((grC S x0 0).getD 0) (at_0 hy2.2) rfl 0 (by decide) (hw (.fieldLink RX10 88 "MotionFloor$Assembly" "house" "LMotionFloor$House;") (List.mem_of_getElem? (i := 3) rfl)) (fun _ h9 => h9) rfl dX10_again_16 ?_
    obtain ⟨hy3, hp⟩ := hp
    refine cTop (r := (grC S ((grC S x0 0).getD 0) 0)) hy3.1 ?_
    refine va_get (D := G) (ci := 1) (v := .int (giC S ((grC S ((grC S x0 0).getD 0) 0).getD 0) 0)) (C := RX2) (T := TX2) (N := 8) hx hb hts iX2 hown hK hP ((grC S ((grC S x0 0).getD 0) 0).getD 0) (at_1 hy3.2) rfl 0 (by decide) (hw (.fieldLink RX10 92 "MotionFloor$House" "seats" "I") (List.mem_of_getElem? (i := 4) rfl)) (fun _ h9 => h9) rfl dX10_again_19 ?_
    obtain ⟨hy4, hp⟩ := hp
    refine cTop2 (r := (grC S x0 1)) hy4.1 ?_
    obtain ⟨hy5, hp⟩ := hp
    refine cGov (va_runV (As := [.int (giC S ((grC S ((grC S x0 0).getD 0) 0).getD 0) 0)]) (rest := []) ⟨hx, hb, hml, hown, hts⟩ (c_Y0_begin l G K ad S ((grC S x0 1).getD 0) (giC S ((grC S ((grC S x0 0).getD 0) 0).getD 0) 0) _) (cwV 1 hts (wGV t_ (mw (.methodLink RX10 28 yX0_begin) (List.mem_of_getElem? (i := 5) rfl)) (mw (.instanceMethod yX0_begin) (List.mem_of_getElem? (i := 6) rfl)) (mw (.selects RX0 yX0_begin yX0_begin) (List.mem_of_getElem? (i := 7) rfl)) (mw (.initialized RX0) (List.mem_of_getElem? (i := 8) rfl)) j_Y0_begin) rfl rfl rfl (by decide +kernel) ⟨Nat.le_of_ble_eq_true rfl, Nat.le_of_ble_eq_true rfl⟩) (cPV hK hTE hP hD 0 rfl (at_0 hy4.2) ⟨hy4.2, hy5⟩) rfl rfl hl.1 rfl (lv_room (Nat.le_of_ble_eq_true rfl)) dX10_again_22 ⟨(show S.1 - S0.1 ≤ lc - S0.1 from Nat.sub_le_sub_right hZ.2.2.1 _), (show S.2.1 - S0.2.1 ≤ ls - S0.2.1 from Nat.sub_le_sub_right hZ.2.2.2 _)⟩) hP hD hS hA (fun u6 H locs hv hP hD hS => ?_)
    obtain ⟨hv, hz⟩ := hv
    have hZ := hZ.k hz
    refine cCells (cells' := u6.1 - S0.1) (slots' := u6.2.1 - S0.2.1) (by have e : S.1 = u6.1 := hz.1.1; show S.1 - S0.1 + 0 = _; omega) (by have e : S.2.1 = u6.2.1 := hz.1.2; show S.2.1 - S0.2.1 + 0 = _; omega) ?_
    rw [← hv] at hE hp
    dsimp only at hE hp
    exact B_Y10_again_25a u6 ad (grC S ((grC S x0 0).getD 0) 4) _ _ _ hE hp hZ hP hD hS (lv_sub hl [1, 0] rfl)
  exact cCells (Nat.sub_self _).symm (Nat.sub_self _).symm (B_M S0 ad0 _ _ _ hX hp (nH.rf S0 ad0 k_l) hP hD hS hl)
