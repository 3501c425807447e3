theorem gdX10_there_0 : ckS (List.drop 0 cX10_there.data.toList) 0 [(0, .aload_n 0, 1), (1, .getfield 10, 3), (4, .iconst 1, 1), (5, .iload_n 1, 1), (6, .iconst 0, 1), (7, .iconst 0, 1), (8, .iconst 0, 1), (9, .invokevirtual 32, 3), (12, .ireturn, 1)] = true := by decide +kernel
theorem dX10_there_0 : decode cX10_there 0 = .ok (.aload_n 0, 1) := ckS_g gdX10_there_0 0 rfl
theorem dX10_there_1 : decode cX10_there 1 = .ok (.getfield 10, 3) := ckS_g gdX10_there_0 1 rfl
theorem dX10_there_4 : decode cX10_there 4 = .ok (.iconst 1, 1) := ckS_g gdX10_there_0 2 rfl
theorem dX10_there_5 : decode cX10_there 5 = .ok (.iload_n 1, 1) := ckS_g gdX10_there_0 3 rfl
theorem dX10_there_6 : decode cX10_there 6 = .ok (.iconst 0, 1) := ckS_g gdX10_there_0 4 rfl
theorem dX10_there_7 : decode cX10_there 7 = .ok (.iconst 0, 1) := ckS_g gdX10_there_0 5 rfl
theorem dX10_there_8 : decode cX10_there 8 = .ok (.iconst 0, 1) := ckS_g gdX10_there_0 6 rfl
theorem dX10_there_9 : decode cX10_there 9 = .ok (.invokevirtual 32, 3) := ckS_g gdX10_there_0 7 rfl
theorem dX10_there_12 : decode cX10_there 12 = .ok (.ireturn, 1) := ckS_g gdX10_there_0 8 rfl
set_option maxRecDepth 100000 in
theorem zc691 : wZ (.selects RX0 yX0_enact yX0_enact) := ⟨wT2 (List.mem_of_getElem? (i := 47) (by decide +kernel)), Or.inl rfl⟩
set_option maxRecDepth 100000 in
theorem zc692 : wZ (.instanceMethod yX0_enact) := ⟨wT2 (List.mem_of_getElem? (i := 46) (by decide +kernel)), Or.inl rfl⟩
set_option maxRecDepth 100000 in
theorem zc693 : wZ (.methodLink RX10 32 yX0_enact) := ⟨wT2 (List.mem_of_getElem? (i := 45) (by decide +kernel)), Or.inl rfl⟩
set_option maxRecDepth 100000 in
theorem zc694 : wZ (.code yX10_there cX10_there 2 (some .int)) := ⟨wT2 (List.mem_of_getElem? (i := 44) rfl), Or.inl rfl⟩
def b_Y10_there_12a (S : Cst) (x0 : Nat) (x1 : Int32) (y0 : Int32) : Int32 × Cst := (y0, S)
def q_Y10_there_12a (S : Cst) (x0 : Nat) (lc : Nat) (ls : Nat) (x1 : Int32) (y0 : Int32) : Prop := True
def f_Y10_there (S : Cst) (x0 : Nat) (x1 : Int32) : Int32 × Cst := (b_Y10_there_12a ((f_Y0_enact S ((grC S x0 0).getD 0) (1 : Int32) x1 (0 : Int32) (0 : Int32) (0 : Int32)).2) x0 x1 ((f_Y0_enact S ((grC S x0 0).getD 0) (1 : Int32) x1 (0 : Int32) (0 : Int32) (0 : Int32)).1))
def p_Y10_there (S : Cst) (x0 : Nat) (lc : Nat) (ls : Nat) (x1 : Int32) : Prop := (iR S (grC S x0 0) 0) ∧ ((S.1 ≤ (f_Y0_enact S ((grC S x0 0).getD 0) (1 : Int32) x1 (0 : Int32) (0 : Int32) (0 : Int32)).2.1 ∧ (f_Y0_enact S ((grC S x0 0).getD 0) (1 : Int32) x1 (0 : Int32) (0 : Int32) (0 : Int32)).2.1 ≤ lc) ∧ (S.2.1 ≤ (f_Y0_enact S ((grC S x0 0).getD 0) (1 : Int32) x1 (0 : Int32) (0 : Int32) (0 : Int32)).2.2.1 ∧ (f_Y0_enact S ((grC S x0 0).getD 0) (1 : Int32) x1 (0 : Int32) (0 : Int32) (0 : Int32)).2.2.1 ≤ ls)) ∧ (p_Y0_enact S ((grC S x0 0).getD 0) (f_Y0_enact S ((grC S x0 0).getD 0) (1 : Int32) x1 (0 : Int32) (0 : Int32) (0 : Int32)).2.1 (f_Y0_enact S ((grC S x0 0).getD 0) (1 : Int32) x1 (0 : Int32) (0 : Int32) (0 : Int32)).2.2.1 (1 : Int32) x1 (0 : Int32) (0 : Int32) (0 : Int32)) ∧ (q_Y10_there_12a ((f_Y0_enact S ((grC S x0 0).getD 0) (1 : Int32) x1 (0 : Int32) (0 : Int32) (0 : Int32)).2) x0 lc ls x1 ((f_Y0_enact S ((grC S x0 0).getD 0) (1 : Int32) x1 (0 : Int32) (0 : Int32) (0 : Int32)).1))
def e_Y10_there : List Cond := [.fieldLink RX10 10 "MotionFloor" "now" "LMotionFloor$Assembly;", .methodLink RX10 32 yX0_enact, .instanceMethod yX0_enact, .selects RX0 yX0_enact yX0_enact, .initialized RX0]
def v_Y10_there : List Cond := .code yX10_there cX10_there 2 (some .int) :: (e_Y10_there ++ (wsX100 ++ (v_Y0_enact ++ [])))
theorem te_Y10_there : GoodIn lw_tbl e_Y10_there := wGc zc496 (wGc zc693 (wGc zc692 (wGc zc691 (wGc zc39 (wG0)))))
theorem t_Y10_there : GoodIn lw_tbl v_Y10_there := wGc zc694 (wGa te_Y10_there (wGa zcX10 (wGa t_Y0_enact (wG0))))
set_option maxHeartbeats 4000000 in
set_option maxRecDepth 100000 in
theorem c_Y10_there (l : Launch) (G : va_G) (K : Nat → ClassId) (ad0 : Nat → Nat) (S0 : Cst) (x0 : Nat) (lc : Nat) (ls : Nat) (a1 : Int32) (sz : Nat) : Met l yX10_there v_Y10_there ({ frames := 8, cells := lc - S0.1, slots := ls - S0.2.1, locals := 226 }) (va_Pc [.ref (ad0 x0), .int a1] (cSt G K ad0 sz S0 ((S0.1 ≤ lc ∧ S0.2.1 ≤ ls) ∧ iK S0 x0 7 ∧ p_Y10_there S0 x0 lc ls a1))) (va_Qi (fun (r : Int32) (u : Cst × (Nat → Nat)) => (r, u.1) = f_Y10_there S0 x0 a1 ∧ eN S0 u.1 ∧ (∀ q, q < S0.1 → u.2 q = ad0 q)) (fun u t => cBt G K u.2 (va_A (wsC K ad0 S0) sz) u.1 t) (va_A (wsC K ad0 S0) sz)) (lc - S0.1) (ls - S0.2.1) (va_A (wsC K ad0 S0) sz) := by
  refine Met.ofW (cc := cX10_there) (maxL := 2) (ret := (some .int)) (by decide) rfl ?_
  intro p e s m args below meth c s₁ B hml hv
  obtain ⟨rfl, ⟨hsz, hP, hK, hD0, hTE⟩, hp⟩ := hv
  obtain ⟨k_l, hp⟩ := hp
  obtain ⟨k_x0, hp⟩ := hp
  have hx := B.exec
  have hb := B.bytes
  have hr := B.returns
  have hts := atoms_spec (ws := v_Y10_there) B.pre
  have t_ := t_Y10_there
  have mw : ∀ w ∈ e_Y10_there, w ∈ v_Y10_there := fun w h => List.mem_cons_of_mem _ (List.mem_append_left _ h)
  have hw := fun w (h : w ∈ e_Y10_there) => hts w (mw w h)
  have iX10 : ∀ w ∈ wsX100, w ∈ v_Y10_there := fun w h => List.mem_cons_of_mem _ (List.mem_append_right _ (List.mem_append_left _ h))
  have j_Y0_enact : ∀ w ∈ v_Y0_enact, w ∈ v_Y10_there := fun w h => List.mem_cons_of_mem _ (List.mem_append_right _ (List.mem_append_right _ (List.mem_append_left _ h)))
  have hown : s.vm.findClass RX10 = some m.cls := findClass_of_methodNamed B.named
  have hlocks := B.notSynchronized
  subst hsz
  have hD := hD0.self (sz := s.heap.size)
  generalize hAe : va_A (wsC K ad0 S0) s.heap.size = A at hD ⊢
  have hA : ∀ q : Nat, s.heap.size ≤ q → A q := fun q h => by rw [← hAe]; exact Or.inr h
  have hS : va_S A s.heap s.heap [] := va_S.rf
  have hl : lv_has (lg_sl ([.ref (ad0 x0), .int a1]) ++ List.replicate (2 - (lg_sl ([.ref (ad0 x0), .int a1])).length) Slot.unset).toArray 2 [(0, .ref (ad0 x0)), (1, .int a1)] := by
    exact lv_entry ([.ref (ad0 x0), .int a1]) (n := 2) (Nat.le_of_ble_eq_true rfl)
  rw [lg_entry_eq]
  generalize (lg_sl ([.ref (ad0 x0), .int a1]) ++ List.replicate (2 - (lg_sl ([.ref (ad0 x0), .int a1])).length) Slot.unset).toArray = ls_ at hl ⊢
  refine wGen (fun Q hQ => ?_)
  obtain ⟨X, hX⟩ : ∃ X, f_Y10_there S0 x0 a1 = X := ⟨_, rfl⟩
  have B_Y10_there_12a : ∀ (S : Cst) (ad : Nat → Nat) (x1 : Int32) (y0 : Int32) (H : Heap) (locs : List Loc) (ls_ : Array Slot), b_Y10_there_12a S x0 x1 y0 = X → q_Y10_there_12a S x0 lc ls x1 y0 → nH S0 ad0 lc ls S ad → va_P G vwCl (wsC K ad S) H → va_D A (wsC K ad S) → va_S A s.heap H locs → lv_has ls_ 2 [(0, .ref (ad x0)), (1, .int x1)] → W p l e ({ frames := 8, cells := lc - S0.1, slots := ls - S0.2.1, locals := 226 } : Room) s m #[Value.ref (ad0 x0), Value.int a1] below meth c H locs (S.1 - S0.1) (S.2.1 - S0.2.1) Q (F0 m 12 ls_ [.int y0]) := by
    intro S ad x1 y0 H locs ls_ hE hp hZ hP hD hS hl
    unfold b_Y10_there_12a at hE
    unfold q_Y10_there_12a at hp
    refine W.widen (k := lc - S0.1) (n := ls - S0.2.1) (show S.1 - S0.1 ≤ lc - S0.1 from Nat.sub_le_sub_right hZ.2.2.1 _) (show S.2.1 - S0.2.1 ≤ ls - S0.2.1 from Nat.sub_le_sub_right hZ.2.2.2 _) ?_
    subst hQ
    exact W.iret (v := y0) hx hb hr (fun t ht hW => ⟨⟨y0, (S, ad), rfl, ⟨hE.trans hX.symm, hZ.1, hZ.2.1⟩, by rw [ht]; exact hP, hD⟩, hS.F ht⟩) hS.2.2 dX10_there_12
  have B_M : ∀ (S : Cst) (ad : Nat → Nat) (x1 : Int32) (H : Heap) (locs : List Loc) (ls_ : Array Slot), f_Y10_there S x0 x1 = X → p_Y10_there S x0 lc ls x1 → nH S0 ad0 lc ls S ad → va_P G vwCl (wsC K ad S) H → va_D A (wsC K ad S) → va_S A s.heap H locs → lv_has ls_ 2 [(0, .ref (ad x0)), (1, .int x1)] → W p l e ({ frames := 8, cells := lc - S0.1, slots := ls - S0.2.1, locals := 226 } : Room) s m #[Value.ref (ad0 x0), Value.int a1] below meth c H locs (S.1 - S0.1) (S.2.1 - S0.2.1) Q (F0 m 0 ls_ []) := by
    intro S ad x1 H locs ls_ hE hp hZ hP hD hS hl
    unfold f_Y10_there at hE
    unfold p_Y10_there at hp
    refine lv_aload_n hx hb dX10_there_0 rfl (lv_at hl 0 rfl) ?_
    refine va_get (D := G) (ci := 7) (v := va_re ad (grC S x0 0)) (C := RX10) (T := TX10) (N := 5) hx hb hts iX10 hown hK hP x0 (at_7 (k_x0.n hZ.1)) rfl 0 (by decide) (hw (.fieldLink RX10 10 "MotionFloor" "now" "LMotionFloor$Assembly;") (List.mem_of_getElem? (i := 0) rfl)) (fun _ h9 => h9) rfl dX10_there_1 ?_
    refine lv_iconst (v := 1) hx hb dX10_there_4 (by decide) ?_
    refine lv_iload_n hx hb dX10_there_5 rfl (lv_at hl 1 rfl) ?_
    refine lv_iconst (v := 0) hx hb dX10_there_6 (by decide) ?_
    refine lv_iconst (v := 0) hx hb dX10_there_7 (by decide) ?_
    refine lv_iconst (v := 0) hx hb dX10_there_8 (by decide) ?_
    obtain ⟨hy1, hp⟩ := hp
    refine cTop6 (r := (grC S x0 0)) hy1.1 ?_
    obtain ⟨hy2, hp⟩ := hp
    obtain ⟨hy3, hp⟩ := hp
    refine cNoi (va_runV (As := [.int 1, .int x1, .int 0, .int 0, .int 0]) (rest := []) ⟨hx, hb, hml, hown, hts⟩ (c_Y0_enact l G K ad S ((grC S x0 0).getD 0) (f_Y0_enact S ((grC S x0 0).getD 0) (1 : Int32) x1 (0 : Int32) (0 : Int32) (0 : Int32)).2.1 (f_Y0_enact S ((grC S x0 0).getD 0) (1 : Int32) x1 (0 : Int32) (0 : Int32) (0 : Int32)).2.2.1 (1 : Int32) x1 (0 : Int32) (0 : Int32) (0 : Int32) _) (cwV 5 hts (wGV t_ (mw (.methodLink RX10 32 yX0_enact) (List.mem_of_getElem? (i := 1) rfl)) (mw (.instanceMethod yX0_enact) (List.mem_of_getElem? (i := 2) rfl)) (mw (.selects RX0 yX0_enact yX0_enact) (List.mem_of_getElem? (i := 3) rfl)) (mw (.initialized RX0) (List.mem_of_getElem? (i := 4) rfl)) j_Y0_enact) rfl rfl rfl (by decide +kernel) ⟨Nat.le_of_ble_eq_true rfl, Nat.le_of_ble_eq_true rfl⟩) (cPV hK hTE hP hD 0 rfl (at_0 hy1.2) ⟨⟨hy2.1.1, hy2.2.1⟩, hy1.2, hy3⟩) rfl rfl hl.1 rfl (lv_room (Nat.le_of_ble_eq_true rfl)) dX10_there_9 ⟨by show _ ≤ lc - S0.1; have := hZ.1.1.1; have := hy2.1; omega, by show _ ≤ ls - S0.2.1; have := hZ.1.1.2; have := hy2.2; omega⟩) hP hD hS hA (fun r5 u4 H locs hv hP hD hS => ?_)
    obtain ⟨hv, hz, ha⟩ := hv
    have e1 : (f_Y0_enact S ((grC S x0 0).getD 0) (1 : Int32) x1 (0 : Int32) (0 : Int32) (0 : Int32)).2.1 = u4.1.1 := by rw [← hv]
    have e2 : (f_Y0_enact S ((grC S x0 0).getD 0) (1 : Int32) x1 (0 : Int32) (0 : Int32) (0 : Int32)).2.2.1 = u4.1.2.1 := by rw [← hv]
    refine cCells (cells' := u4.1.1 - S0.1) (slots' := u4.1.2.1 - S0.2.1) (by have := hZ.1.1.1; have := hy2.1; omega) (by have := hZ.1.1.2; have := hy2.2; omega) ?_
    rw [← ha x0 (k_x0.n hZ.1).1] at hl
    have hZ := hZ.n hz ha (by rw [← e1]; exact hy2.1.2) (by rw [← e2]; exact hy2.2.2)
    rw [← hv] at hE hp
    dsimp only at hE hp
    exact B_Y10_there_12a u4.1 u4.2 x1 r5 _ _ _ hE hp hZ hP hD hS (lv_sub hl [0, 1] rfl)
  exact cCells (Nat.sub_self _).symm (Nat.sub_self _).symm (B_M S0 ad0 a1 _ _ _ hX hp (nH.rf S0 ad0 k_l) hP hD hS hl)
theorem gdX10_gone_0 : ckS (List.drop 0 cX10_gone.data.toList) 0 [(0, .aload_n 0, 1), (1, .getfield 10, 3), (4, .iconst 2, 1), (5, .iload_n 1, 1), (6, .iconst 0, 1), (7, .iconst 0, 1), (8, .iconst 0, 1), (9, .invokevirtual 32, 3), (12, .ireturn, 1)] = true := by decide +kernel
theorem dX10_gone_0 : decode cX10_gone 0 = .ok (.aload_n 0, 1) := ckS_g gdX10_gone_0 0 rfl
theorem dX10_gone_1 : decode cX10_gone 1 = .ok (.getfield 10, 3) := ckS_g gdX10_gone_0 1 rfl
theorem dX10_gone_4 : decode cX10_gone 4 = .ok (.iconst 2, 1) := ckS_g gdX10_gone_0 2 rfl
theorem dX10_gone_5 : decode cX10_gone 5 = .ok (.iload_n 1, 1) := ckS_g gdX10_gone_0 3 rfl
theorem dX10_gone_6 : decode cX10_gone 6 = .ok (.iconst 0, 1) := ckS_g gdX10_gone_0 4 rfl
theorem dX10_gone_7 : decode cX10_gone 7 = .ok (.iconst 0, 1) := ckS_g gdX10_gone_0 5 rfl
theorem dX10_gone_8 : decode cX10_gone 8 = .ok (.iconst 0, 1) := ckS_g gdX10_gone_0 6 rfl
theorem dX10_gone_9 : decode cX10_gone 9 = .ok (.invokevirtual 32, 3) := ckS_g gdX10_gone_0 7 rfl
theorem dX10_gone_12 : decode cX10_gone 12 = .ok (.ireturn, 1) := ckS_g gdX10_gone_0 8 rfl
set_option maxRecDepth 100000 in
theorem zc695 : wZ (.code yX10_gone cX10_gone 2 (some .int)) := ⟨wT4 (List.mem_of_getElem? (i := 31) rfl), Or.inl rfl⟩
def b_Y10_gone_12a (S : Cst) (x0 : Nat) (x1 : Int32) (y0 : Int32) : Int32 × Cst := (y0, S)
def q_Y10_gone_12a (S : Cst) (x0 : Nat) (lc : Nat) (ls : Nat) (x1 : Int32) (y0 : Int32) : Prop := True
def f_Y10_gone (S : Cst) (x0 : Nat) (x1 : Int32) : Int32 × Cst := (b_Y10_gone_12a ((f_Y0_enact S ((grC S x0 0).getD 0) (2 : Int32) x1 (0 : Int32) (0 : Int32) (0 : Int32)).2) x0 x1 ((f_Y0_enact S ((grC S x0 0).getD 0) (2 : Int32) x1 (0 : Int32) (0 : Int32) (0 : Int32)).1))
def p_Y10_gone (S : Cst) (x0 : Nat) (lc : Nat) (ls : Nat) (x1 : Int32) : Prop := (iR S (grC S x0 0) 0) ∧ ((S.1 ≤ (f_Y0_enact S ((grC S x0 0).getD 0) (2 : Int32) x1 (0 : Int32) (0 : Int32) (0 : Int32)).2.1 ∧ (f_Y0_enact S ((grC S x0 0).getD 0) (2 : Int32) x1 (0 : Int32) (0 : Int32) (0 : Int32)).2.1 ≤ lc) ∧ (S.2.1 ≤ (f_Y0_enact S ((grC S x0 0).getD 0) (2 : Int32) x1 (0 : Int32) (0 : Int32) (0 : Int32)).2.2.1 ∧ (f_Y0_enact S ((grC S x0 0).getD 0) (2 : Int32) x1 (0 : Int32) (0 : Int32) (0 : Int32)).2.2.1 ≤ ls)) ∧ (p_Y0_enact S ((grC S x0 0).getD 0) (f_Y0_enact S ((grC S x0 0).getD 0) (2 : Int32) x1 (0 : Int32) (0 : Int32) (0 : Int32)).2.1 (f_Y0_enact S ((grC S x0 0).getD 0) (2 : Int32) x1 (0 : Int32) (0 : Int32) (0 : Int32)).2.2.1 (2 : Int32) x1 (0 : Int32) (0 : Int32) (0 : Int32)) ∧ (q_Y10_gone_12a ((f_Y0_enact S ((grC S x0 0).getD 0) (2 : Int32) x1 (0 : Int32) (0 : Int32) (0 : Int32)).2) x0 lc ls x1 ((f_Y0_enact S ((grC S x0 0).getD 0) (2 : Int32) x1 (0 : Int32) (0 : Int32) (0 : Int32)).1))
def e_Y10_gone : List Cond := [.fieldLink RX10 10 "MotionFloor" "now" "LMotionFloor$Assembly;", .methodLink RX10 32 yX0_enact, .instanceMethod yX0_enact, .selects RX0 yX0_enact yX0_enact, .initialized RX0]
def v_Y10_gone : List Cond := .code yX10_gone cX10_gone 2 (some .int) :: (e_Y10_gone ++ (wsX100 ++ (v_Y0_enact ++ [])))
theorem te_Y10_gone : GoodIn lw_tbl e_Y10_gone := wGc zc496 (wGc zc693 (wGc zc692 (wGc zc691 (wGc zc39 (wG0)))))
theorem t_Y10_gone : GoodIn lw_tbl v_Y10_gone := wGc zc695 (wGa te_Y10_gone (wGa zcX10 (wGa t_Y0_enact (wG0))))
set_option maxHeartbeats 4000000 in
set_option maxRecDepth 100000 in
theorem c_Y10_gone (l : Launch) (G : va_G) (K : Nat → ClassId) (ad0 : Nat → Nat) (S0 : Cst) (x0 : Nat) (lc : Nat) (ls : Nat) (a1 : Int32) (sz : Nat) : Met l yX10_gone v_Y10_gone ({ frames := 8, cells := lc - S0.1, slots := ls - S0.2.1, locals := 226 }) (va_Pc [.ref (ad0 x0), .int a1] (cSt G K ad0 sz S0 ((S0.1 ≤ lc ∧ S0.2.1 ≤ ls) ∧ iK S0 x0 7 ∧ p_Y10_gone S0 x0 lc ls a1))) (va_Qi (fun (r : Int32) (u : Cst × (Nat → Nat)) => (r, u.1) = f_Y10_gone S0 x0 a1 ∧ eN S0 u.1 ∧ (∀ q, q < S0.1 → u.2 q = ad0 q)) (fun u t => cBt G K u.2 (va_A (wsC K ad0 S0) sz) u.1 t) (va_A (wsC K ad0 S0) sz)) (lc - S0.1) (ls - S0.2.1) (va_A (wsC K ad0 S0) sz) := by
  refine Met.ofW (cc := cX10_gone) (maxL := 2) (ret := (some .int)) (by decide) rfl ?_
  intro p e s m args below meth c s₁ B hml hv
  obtain ⟨rfl, ⟨hsz, hP, hK, hD0, hTE⟩, hp⟩ := hv
  obtain ⟨k_l, hp⟩ := hp
  obtain ⟨k_x0, hp⟩ := hp
  have hx := B.exec
  have hb := B.bytes
  have hr := B.returns
  have hts := atoms_spec (ws := v_Y10_gone) B.pre
  have t_ := t_Y10_gone
  have mw : ∀ w ∈ e_Y10_gone, w ∈ v_Y10_gone := fun w h => List.mem_cons_of_mem _ (List.mem_append_left _ h)
  have hw := fun w (h : w ∈ e_Y10_gone) => hts w (mw w h)
  have iX10 : ∀ w ∈ wsX100, w ∈ v_Y10_gone := fun w h => List.mem_cons_of_mem _ (List.mem_append_right _ (List.mem_append_left _ h))
  have j_Y0_enact : ∀ w ∈ v_Y0_enact, w ∈ v_Y10_gone := fun w h => List.mem_cons_of_mem _ (List.mem_append_right _ (List.mem_append_right _ (List.mem_append_left _ h)))
  have hown : s.vm.findClass RX10 = some m.cls := findClass_of_methodNamed B.named
  have hlocks := B.notSynchronized
  subst hsz
  have hD := hD0.self (sz := s.heap.size)
  generalize hAe : va_A (wsC K ad0 S0) s.heap.size = A at hD ⊢
  have hA : ∀ q : Nat, s.heap.size ≤ q → A q := fun q h => by rw [← hAe]; exact Or.inr h
  have hS : va_S A s.heap s.heap [] := va_S.rf
  have hl : lv_has (lg_sl ([.ref (ad0 x0), .int a1]) ++ List.replicate (2 - (lg_sl ([.ref (ad0 x0), .int a1])).length) Slot.unset).toArray 2 [(0, .ref (ad0 x0)), (1, .int a1)] := by
    exact lv_entry ([.ref (ad0 x0), .int a1]) (n := 2) (Nat.le_of_ble_eq_true rfl)
  rw [lg_entry_eq]
  generalize (lg_sl ([.ref (ad0 x0), .int a1]) ++ List.replicate (2 - (lg_sl ([.ref (ad0 x0), .int a1])).length) Slot.unset).toArray = ls_ at hl ⊢
  refine wGen (fun Q hQ => ?_)
  obtain ⟨X, hX⟩ : ∃ X, f_Y10_gone S0 x0 a1 = X := ⟨_, rfl⟩
  have B_Y10_gone_12a : ∀ (S : Cst) (ad : Nat → Nat) (x1 : Int32) (y0 : Int32) (H : Heap) (locs : List Loc) (ls_ : Array Slot), b_Y10_gone_12a S x0 x1 y0 = X → q_Y10_gone_12a S x0 lc ls x1 y0 → nH S0 ad0 lc ls S ad → va_P G vwCl (wsC K ad S) H → va_D A (wsC K ad S) → va_S A s.heap H locs → lv_has ls_ 2 [(0, .ref (ad x0)), (1, .int x1)] → W p l e ({ frames := 8, cells := lc - S0.1, slots := ls - S0.2.1, locals := 226 } : Room) s m #[Value.ref (ad0 x0), Value.int a1] below meth c H locs (S.1 - S0.1) (S.2.1 - S0.2.1) Q (F0 m 12 ls_ [.int y0]) := by
    intro S ad x1 y0 H locs ls_ hE hp hZ hP hD hS hl
    unfold b_Y10_gone_12a at hE
    unfold q_Y10_gone_12a at hp
    refine W.widen (k := lc - S0.1) (n := ls - S0.2.1) (show S.1 - S0.1 ≤ lc - S0.1 from Nat.sub_le_sub_right hZ.2.2.1 _) (show S.2.1 - S0.2.1 ≤ ls - S0.2.1 from Nat.sub_le_sub_right hZ.2.2.2 _) ?_
    subst hQ
    exact W.iret (v := y0) hx hb hr (fun t ht hW => ⟨⟨y0, (S, ad), rfl, ⟨hE.trans hX.symm, hZ.1, hZ.2.1⟩, by rw [ht]; exact hP, hD⟩, hS.F ht⟩) hS.2.2 dX10_gone_12
  have B_M : ∀ (S : Cst) (ad : Nat → Nat) (x1 : Int32) (H : Heap) (locs : List Loc) (ls_ : Array Slot), f_Y10_gone S x0 x1 = X → p_Y10_gone S x0 lc ls x1 → nH S0 ad0 lc ls S ad → va_P G vwCl (wsC K ad S) H → va_D A (wsC K ad S) → va_S A s.heap H locs → lv_has ls_ 2 [(0, .ref (ad x0)), (1, .int x1)] → W p l e ({ frames := 8, cells := lc - S0.1, slots := ls - S0.2.1, locals := 226 } : Room) s m #[Value.ref (ad0 x0), Value.int a1] below meth c H locs (S.1 - S0.1) (S.2.1 - S0.2.1) Q (F0 m 0 ls_ []) := by
    intro S ad x1 H locs ls_ hE hp hZ hP hD hS hl
    unfold f_Y10_gone at hE
    unfold p_Y10_gone at hp
    refine lv_aload_n hx hb dX10_gone_0 rfl (lv_at hl 0 rfl) ?_
    refine va_get (D := G) (ci := 7) (v := va_re ad (grC S x0 0)) (C := RX10) (T := TX10) (N := 5) hx hb hts iX10 hown hK hP x0 (at_7 (k_x0.n hZ.1)) rfl 0 (by decide) (hw (.fieldLink RX10 10 "MotionFloor" "now" "LMotionFloor$Assembly;") (List.mem_of_getElem? (i := 0) rfl)) (fun _ h9 => h9) rfl dX10_gone_1 ?_
    refine lv_iconst (v := 2) hx hb dX10_gone_4 (by decide) ?_
    refine lv_iload_n hx hb dX10_gone_5 rfl (lv_at hl 1 rfl) ?_
    refine lv_iconst (v := 0) hx hb dX10_gone_6 (by decide) ?_
    refine lv_iconst (v := 0) hx hb dX10_gone_7 (by decide) ?_
    refine lv_iconst (v := 0) hx hb dX10_gone_8 (by decide) ?_
    obtain ⟨hy1, hp⟩ := hp
    refine cTop6 (r := (grC S x0 0)) hy1.1 ?_
    obtain ⟨hy2, hp⟩ := hp
    obtain ⟨hy3, hp⟩ := hp
    refine cNoi (va_runV (As := [.int 2, .int x1, .int 0, .int 0, .int 0]) (rest := []) ⟨hx, hb, hml, hown, hts⟩ (c_Y0_enact l G K ad S ((grC S x0 0).getD 0) (f_Y0_enact S ((grC S x0 0).getD 0) (2 : Int32) x1 (0 : Int32) (0 : Int32) (0 : Int32)).2.1 (f_Y0_enact S ((grC S x0 0).getD 0) (2 : Int32) x1 (0 : Int32) (0 : Int32) (0 : Int32)).2.2.1 (2 : Int32) x1 (0 : Int32) (0 : Int32) (0 : Int32) _) (cwV 5 hts (wGV t_ (mw (.methodLink RX10 32 yX0_enact) (List.mem_of_getElem? (i := 1) rfl)) (mw (.instanceMethod yX0_enact) (List.mem_of_getElem? (i := 2) rfl)) (mw (.selects RX0 yX0_enact yX0_enact) (List.mem_of_getElem? (i := 3) rfl)) (mw (.initialized RX0) (List.mem_of_getElem? (i := 4) rfl)) j_Y0_enact) rfl rfl rfl (by decide +kernel) ⟨Nat.le_of_ble_eq_true rfl, Nat.le_of_ble_eq_true rfl⟩) (cPV hK hTE hP hD 0 rfl (at_0 hy1.2) ⟨⟨hy2.1.1, hy2.2.1⟩, hy1.2, hy3⟩) rfl rfl hl.1 rfl (lv_room (Nat.le_of_ble_eq_true rfl)) dX10_gone_9 ⟨by show _ ≤ lc - S0.1; have := hZ.1.1.1; have := hy2.1; omega, by show _ ≤ ls - S0.2.1; have := hZ.1.1.2; have := hy2.2; omega⟩) hP hD hS hA (fun r5 u4 H locs hv hP hD hS => ?_)
    obtain ⟨hv, hz, ha⟩ := hv
    have e1 : (f_Y0_enact S ((grC S x0 0).getD 0) (2 : Int32) x1 (0 : Int32) (0 : Int32) (0 : Int32)).2.1 = u4.1.1 := by rw [← hv]
    have e2 : (f_Y0_enact S ((grC S x0 0).getD 0) (2 : Int32) x1 (0 : Int32) (0 : Int32) (0 : Int32)).2.2.1 = u4.1.2.1 := by rw [← hv]
    refine cCells (cells' := u4.1.1 - S0.1) (slots' := u4.1.2.1 - S0.2.1) (by have := hZ.1.1.1; have := hy2.1; omega) (by have := hZ.1.1.2; have := hy2.2; omega) ?_
    rw [← ha x0 (k_x0.n hZ.1).1] at hl
    have hZ := hZ.n hz ha (by rw [← e1]; exact hy2.1.2) (by rw [← e2]; exact hy2.2.2)
    rw [← hv] at hE hp
    dsimp only at hE hp
    exact B_Y10_gone_12a u4.1 u4.2 x1 r5 _ _ _ hE hp hZ hP hD hS (lv_sub hl [0, 1] rfl)
  exact cCells (Nat.sub_self _).symm (Nat.sub_self _).symm (B_M S0 ad0 a1 _ _ _ hX hp (nH.rf S0 ad0 k_l) hP hD hS hl)
theorem gdX10_quorum_0 : ckS (List.drop 0 cX10_quorum.data.toList) 0 [(0, .aload_n 0, 1), (1, .getfield 10, 3), (4, .iconst 3, 1), (5, .iload_n 1, 1), (6, .iconst 0, 1), (7, .iconst 0, 1), (8, .iconst 0, 1), (9, .invokevirtual 32, 3), (12, .ireturn, 1)] = true := by decide +kernel
theorem dX10_quorum_0 : decode cX10_quorum 0 = .ok (.aload_n 0, 1) := ckS_g gdX10_quorum_0 0 rfl
theorem dX10_quorum_1 : decode cX10_quorum 1 = .ok (.getfield 10, 3) := ckS_g gdX10_quorum_0 1 rfl
theorem dX10_quorum_4 : decode cX10_quorum 4 = .ok (.iconst 3, 1) := ckS_g gdX10_quorum_0 2 rfl
theorem dX10_quorum_5 : decode cX10_quorum 5 = .ok (.iload_n 1, 1) := ckS_g gdX10_quorum_0 3 rfl
theorem dX10_quorum_6 : decode cX10_quorum 6 = .ok (.iconst 0, 1) := ckS_g gdX10_quorum_0 4 rfl
theorem dX10_quorum_7 : decode cX10_quorum 7 = .ok (.iconst 0, 1) := ckS_g gdX10_quorum_0 5 rfl
theorem dX10_quorum_8 : decode cX10_quorum 8 = .ok (.iconst 0, 1) := ckS_g gdX10_quorum_0 6 rfl
theorem dX10_quorum_9 : decode cX10_quorum 9 = .ok (.invokevirtual 32, 3) := ckS_g gdX10_quorum_0 7 rfl
theorem dX10_quorum_12 : decode cX10_quorum 12 = .ok (.ireturn, 1) := ckS_g gdX10_quorum_0 8 rfl
set_option maxRecDepth 100000 in
theorem zc696 : wZ (.code yX10_quorum cX10_quorum 2 (some .int)) := ⟨wT4 (List.mem_of_getElem? (i := 35) rfl), Or.inl rfl⟩
def b_Y10_quorum_12a (S : Cst) (x0 : Nat) (x1 : Int32) (y0 : Int32) : Int32 × Cst := (y0, S)
def q_Y10_quorum_12a (S : Cst) (x0 : Nat) (lc : Nat) (ls : Nat) (x1 : Int32) (y0 : Int32) : Prop := True
def f_Y10_quorum (S : Cst) (x0 : Nat) (x1 : Int32) : Int32 × Cst := (b_Y10_quorum_12a ((f_Y0_enact S ((grC S x0 0).getD 0) (3 : Int32) x1 (0 : Int32) (0 : Int32) (0 : Int32)).2) x0 x1 ((f_Y0_enact S ((grC S x0 0).getD 0) (3 : Int32) x1 (0 : Int32) (0 : Int32) (0 : Int32)).1))
def p_Y10_quorum (S : Cst) (x0 : Nat) (lc : Nat) (ls : Nat) (x1 : Int32) : Prop := (iR S (grC S x0 0) 0) ∧ ((S.1 ≤ (f_Y0_enact S ((grC S x0 0).getD 0) (3 : Int32) x1 (0 : Int32) (0 : Int32) (0 : Int32)).2.1 ∧ (f_Y0_enact S ((grC S x0 0).getD 0) (3 : Int32) x1 (0 : Int32) (0 : Int32) (0 : Int32)).2.1 ≤ lc) ∧ (S.2.1 ≤ (f_Y0_enact S ((grC S x0 0).getD 0) (3 : Int32) x1 (0 : Int32) (0 : Int32) (0 : Int32)).2.2.1 ∧ (f_Y0_enact S ((grC S x0 0).getD 0) (3 : Int32) x1 (0 : Int32) (0 : Int32) (0 : Int32)).2.2.1 ≤ ls)) ∧ (p_Y0_enact S ((grC S x0 0).getD 0) (f_Y0_enact S ((grC S x0 0).getD 0) (3 : Int32) x1 (0 : Int32) (0 : Int32) (0 : Int32)).2.1 (f_Y0_enact S ((grC S x0 0).getD 0) (3 : Int32) x1 (0 : Int32) (0 : Int32) (0 : Int32)).2.2.1 (3 : Int32) x1 (0 : Int32) (0 : Int32) (0 : Int32)) ∧ (q_Y10_quorum_12a ((f_Y0_enact S ((grC S x0 0).getD 0) (3 : Int32) x1 (0 : Int32) (0 : Int32) (0 : Int32)).2) x0 lc ls x1 ((f_Y0_enact S ((grC S x0 0).getD 0) (3 : Int32) x1 (0 : Int32) (0 : Int32) (0 : Int32)).1))
def e_Y10_quorum : List Cond := [.fieldLink RX10 10 "MotionFloor" "now" "LMotionFloor$Assembly;", .methodLink RX10 32 yX0_enact, .instanceMethod yX0_enact, .selects RX0 yX0_enact yX0_enact, .initialized RX0]
def v_Y10_quorum : List Cond := .code yX10_quorum cX10_quorum 2 (some .int) :: (e_Y10_quorum ++ (wsX100 ++ (v_Y0_enact ++ [])))
theorem te_Y10_quorum : GoodIn lw_tbl e_Y10_quorum := wGc zc496 (wGc zc693 (wGc zc692 (wGc zc691 (wGc zc39 (wG0)))))
theorem t_Y10_quorum : GoodIn lw_tbl v_Y10_quorum := wGc zc696 (wGa te_Y10_quorum (wGa zcX10 (wGa t_Y0_enact (wG0))))
set_option maxHeartbeats 4000000 in
set_option maxRecDepth 100000 in
theorem c_Y10_quorum (l : Launch) (G : va_G) (K : Nat → ClassId) (ad0 : Nat → Nat) (S0 : Cst) (x0 : Nat) (lc : Nat) (ls : Nat) (a1 : Int32) (sz : Nat) : Met l yX10_quorum v_Y10_quorum ({ frames := 8, cells := lc - S0.1, slots := ls - S0.2.1, locals := 226 }) (va_Pc [.ref (ad0 x0), .int a1] (cSt G K ad0 sz S0 ((S0.1 ≤ lc ∧ S0.2.1 ≤ ls) ∧ iK S0 x0 7 ∧ p_Y10_quorum S0 x0 lc ls a1))) (va_Qi (fun (r : Int32) (u : Cst × (Nat → Nat)) => (r, u.1) = f_Y10_quorum S0 x0 a1 ∧ eN S0 u.1 ∧ (∀ q, q < S0.1 → u.2 q = ad0 q)) (fun u t => cBt G K u.2 (va_A (wsC K ad0 S0) sz) u.1 t) (va_A (wsC K ad0 S0) sz)) (lc - S0.1) (ls - S0.2.1) (va_A (wsC K ad0 S0) sz) := by
  refine Met.ofW (cc := cX10_quorum) (maxL := 2) (ret := (some .int)) (by decide) rfl ?_
  intro p e s m args below meth c s₁ B hml hv
  obtain ⟨rfl, ⟨hsz, hP, hK, hD0, hTE⟩, hp⟩ := hv
  obtain ⟨k_l, hp⟩ := hp
  obtain ⟨k_x0, hp⟩ := hp
  have hx := B.exec
  have hb := B.bytes
  have hr := B.returns
  have hts := atoms_spec (ws := v_Y10_quorum) B.pre
  have t_ := t_Y10_quorum
  have mw : ∀ w ∈ e_Y10_quorum, w ∈ v_Y10_quorum := fun w h => List.mem_cons_of_mem _ (List.mem_append_left _ h)
  have hw := fun w (h : w ∈ e_Y10_quorum) => hts w (mw w h)
  have iX10 : ∀ w ∈ wsX100, w ∈ v_Y10_quorum := fun w h => List.mem_cons_of_mem _ (List.mem_append_right _ (List.mem_append_left _ h))
  have j_Y0_enact : ∀ w ∈ v_Y0_enact, w ∈ v_Y10_quorum := fun w h => List.mem_cons_of_mem _ (List.mem_append_right _ (List.mem_append_right _ (List.mem_append_left _ h)))
  have hown : s.vm.findClass RX10 = some m.cls := findClass_of_methodNamed B.named
  have hlocks := B.notSynchronized
  subst hsz
  have hD := hD0.self (sz := s.heap.size)
  generalize hAe : va_A (wsC K ad0 S0) s.heap.size = A at hD ⊢
  have hA : ∀ q : Nat, s.heap.size ≤ q → A q := fun q h => by rw [← hAe]; exact Or.inr h
  have hS : va_S A s.heap s.heap [] := va_S.rf
  have hl : lv_has (lg_sl ([.ref (ad0 x0), .int a1]) ++ List.replicate (2 - (lg_sl ([.ref (ad0 x0), .int a1])).length) Slot.unset).toArray 2 [(0, .ref (ad0 x0)), (1, .int a1)] := by
    exact lv_entry ([.ref (ad0 x0), .int a1]) (n := 2) (Nat.le_of_ble_eq_true rfl)
  rw [lg_entry_eq]
  generalize (lg_sl ([.ref (ad0 x0), .int a1]) ++ List.replicate (2 - (lg_sl ([.ref (ad0 x0), .int a1])).length) Slot.unset).toArray = ls_ at hl ⊢
  refine wGen (fun Q hQ => ?_)
  obtain ⟨X, hX⟩ : ∃ X, f_Y10_quorum S0 x0 a1 = X := ⟨_, rfl⟩
  have B_Y10_quorum_12a : ∀ (S : Cst) (ad : Nat → Nat) (x1 : Int32) (y0 : Int32) (H : Heap) (locs : List Loc) (ls_ : Array Slot), b_Y10_quorum_12a S x0 x1 y0 = X → q_Y10_quorum_12a S x0 lc ls x1 y0 → nH S0 ad0 lc ls S ad → va_P G vwCl (wsC K ad S) H → va_D A (wsC K ad S) → va_S A s.heap H locs → lv_has ls_ 2 [(0, .ref (ad x0)), (1, .int x1)] → W p l e ({ frames := 8, cells := lc - S0.1, slots := ls - S0.2.1, locals := 226 } : Room) s m #[Value.ref (ad0 x0), Value.int a1] below meth c H locs (S.1 - S0.1) (S.2.1 - S0.2.1) Q (F0 m 12 ls_ [.int y0]) := by
    intro S ad x1 y0 H locs ls_ hE hp hZ hP hD hS hl
    unfold b_Y10_quorum_12a at hE
    unfold q_Y10_quorum_12a at hp
    refine W.widen (k := lc - S0.1) (n := ls - S0.2.1) (show S.1 - S0.1 ≤ lc - S0.1 from Nat.sub_le_sub_right hZ.2.2.1 _) (show S.2.1 - S0.2.1 ≤ ls - S0.2.1 from Nat.sub_le_sub_right hZ.2.2.2 _) ?_
    subst hQ
    exact W.iret (v := y0) hx hb hr (fun t ht hW => ⟨⟨y0, (S, ad), rfl, ⟨hE.trans hX.symm, hZ.1, hZ.2.1⟩, by rw [ht]; exact hP, hD⟩, hS.F ht⟩) hS.2.2 dX10_quorum_12
  have B_M : ∀ (S : Cst) (ad : Nat → Nat) (x1 : Int32) (H : Heap) (locs : List Loc) (ls_ : Array Slot), f_Y10_quorum S x0 x1 = X → p_Y10_quorum S x0 lc ls x1 → nH S0 ad0 lc ls S ad → va_P G vwCl (wsC K ad S) H → va_D A (wsC K ad S) → va_S A s.heap H locs → lv_has ls_ 2 [(0, .ref (ad x0)), (1, .int x1)] → W p l e ({ frames := 8, cells := lc - S0.1, slots := ls - S0.2.1, locals := 226 } : Room) s m #[Value.ref (ad0 x0), Value.int a1] below meth c H locs (S.1 - S0.1) (S.2.1 - S0.2.1) Q (F0 m 0 ls_ []) := by
    intro S ad x1 H locs ls_ hE hp hZ hP hD hS hl
    unfold f_Y10_quorum at hE
    unfold p_Y10_quorum at hp
    refine lv_aload_n hx hb dX10_quorum_0 rfl (lv_at hl 0 rfl) ?_
    refine va_get (D := G) (ci := 7) (v := va_re ad (grC S x0 0)) (C := RX10) (T := TX10) (N := 5) hx hb hts iX10 hown hK hP x0 (at_7 (k_x0.n hZ.1)) rfl 0 (by decide) (hw (.fieldLink RX10 10 "MotionFloor" "now" "LMotionFloor$Assembly;") (List.mem_of_getElem? (i := 0) rfl)) (fun _ h9 => h9) rfl dX10_quorum_1 ?_
    refine lv_iconst (v := 3) hx hb dX10_quorum_4 (by decide) ?_
    refine lv_iload_n hx hb dX10_quorum_5 rfl (lv_at hl 1 rfl) ?_
    refine lv_iconst (v := 0) hx hb dX10_quorum_6 (by decide) ?_
    refine lv_iconst (v := 0) hx hb dX10_quorum_7 (by decide) ?_
    refine lv_iconst (v := 0) hx hb dX10_quorum_8 (by decide) ?_
    obtain ⟨hy1, hp⟩ := hp
    refine cTop6 (r := (grC S x0 0)) hy1.1 ?_
    obtain ⟨hy2, hp⟩ := hp
    obtain ⟨hy3, hp⟩ := hp
    refine cNoi (va_runV (As := [.int 3, .int x1, .int 0, .int 0, .int 0]) (rest := []) ⟨hx, hb, hml, hown, hts⟩ (c_Y0_enact l G K ad S ((grC S x0 0).getD 0) (f_Y0_enact S ((grC S x0 0).getD 0) (3 : Int32) x1 (0 : Int32) (0 : Int32) (0 : Int32)).2.1 (f_Y0_enact S ((grC S x0 0).getD 0) (3 : Int32) x1 (0 : Int32) (0 : Int32) (0 : Int32)).2.2.1 (3 : Int32) x1 (0 : Int32) (0 : Int32) (0 : Int32) _) (cwV 5 hts (wGV t_ (mw (.methodLink RX10 32 yX0_enact) (List.mem_of_getElem? (i := 1) rfl)) (mw (.instanceMethod yX0_enact) (List.mem_of_getElem? (i := 2) rfl)) (mw (.selects RX0 yX0_enact yX0_enact) (List.mem_of_getElem? (i := 3) rfl)) (mw (.initialized RX0) (List.mem_of_getElem? (i := 4) rfl)) j_Y0_enact) rfl rfl rfl (by decide +kernel) ⟨Nat.le_of_ble_eq_true rfl, Nat.le_of_ble_eq_true rfl⟩) (cPV hK hTE hP hD 0 rfl (at_0 hy1.2) ⟨⟨hy2.1.1, hy2.2.1⟩, hy1.2, hy3⟩) rfl rfl hl.1 rfl (lv_room (Nat.le_of_ble_eq_true rfl)) dX10_quorum_9 ⟨by show _ ≤ lc - S0.1; have := hZ.1.1.1; have := hy2.1; omega, by show _ ≤ ls - S0.2.1; have := hZ.1.1.2; have := hy2.2; omega⟩) hP hD hS hA (fun r5 u4 H locs hv hP hD hS => ?_)
    obtain ⟨hv, hz, ha⟩ := hv
    have e1 : (f_Y0_enact S ((grC S x0 0).getD 0) (3 : Int32) x1 (0 : Int32) (0 : Int32) (0 : Int32)).2.1 = u4.1.1 := by rw [← hv]
    have e2 : (f_Y0_enact S ((grC S x0 0).getD 0) (3 : Int32) x1 (0 : Int32) (0 : Int32) (0 : Int32)).2.2.1 = u4.1.2.1 := by rw [← hv]
    refine cCells (cells' := u4.1.1 - S0.1) (slots' := u4.1.2.1 - S0.2.1) (by have := hZ.1.1.1; have := hy2.1; omega) (by have := hZ.1.1.2; have := hy2.2; omega) ?_
    rw [← ha x0 (k_x0.n hZ.1).1] at hl
    have hZ := hZ.n hz ha (by rw [← e1]; exact hy2.1.2) (by rw [← e2]; exact hy2.2.2)
    rw [← hv] at hE hp
    dsimp only at hE hp
    exact B_Y10_quorum_12a u4.1 u4.2 x1 r5 _ _ _ hE hp hZ hP hD hS (lv_sub hl [0, 1] rfl)
  exact cCells (Nat.sub_self _).symm (Nat.sub_self _).symm (B_M S0 ad0 a1 _ _ _ hX hp (nH.rf S0 ad0 k_l) hP hD hS hl)
theorem gdX10_chair_0 : ckS (List.drop 0 cX10_chair.data.toList) 0 [(0, .aload_n 0, 1), (1, .getfield 10, 3), (4, .iconst 4, 1), (5, .iload_n 1, 1), (6, .iconst 0, 1), (7, .iconst 0, 1), (8, .iconst 0, 1), (9, .invokevirtual 32, 3), (12, .ireturn, 1)] = true := by decide +kernel
theorem dX10_chair_0 : decode cX10_chair 0 = .ok (.aload_n 0, 1) := ckS_g gdX10_chair_0 0 rfl
theorem dX10_chair_1 : decode cX10_chair 1 = .ok (.getfield 10, 3) := ckS_g gdX10_chair_0 1 rfl
theorem dX10_chair_4 : decode cX10_chair 4 = .ok (.iconst 4, 1) := ckS_g gdX10_chair_0 2 rfl
theorem dX10_chair_5 : decode cX10_chair 5 = .ok (.iload_n 1, 1) := ckS_g gdX10_chair_0 3 rfl
theorem dX10_chair_6 : decode cX10_chair 6 = .ok (.iconst 0, 1) := ckS_g gdX10_chair_0 4 rfl
theorem dX10_chair_7 : decode cX10_chair 7 = .ok (.iconst 0, 1) := ckS_g gdX10_chair_0 5 rfl
theorem dX10_chair_8 : decode cX10_chair 8 = .ok (.iconst 0, 1) := ckS_g gdX10_chair_0 6 rfl
theorem dX10_chair_9 : decode cX10_chair 9 = .ok (.invokevirtual 32, 3) := ckS_g gdX10_chair_0 7 rfl
theorem dX10_chair_12 : decode cX10_chair 12 = .ok (.ireturn, 1) := ckS_g gdX10_chair_0 8 rfl
set_option maxRecDepth 100000 in
theorem zc697 : wZ (.code yX10_chair cX10_chair 2 (some .int)) := ⟨wT4 (List.mem_of_getElem? (i := 39) rfl), Or.inl rfl⟩
def b_Y10_chair_12a (S : Cst) (x0 : Nat) (x1 : Int32) (y0 : Int32) : Int32 × Cst := (y0, S)
def q_Y10_chair_12a (S : Cst) (x0 : Nat) (lc : Nat) (ls : Nat) (x1 : Int32) (y0 : Int32) : Prop := True
def f_Y10_chair (S : Cst) (x0 : Nat) (x1 : Int32) : Int32 × Cst := (b_Y10_chair_12a ((f_Y0_enact S ((grC S x0 0).getD 0) (4 : Int32) x1 (0 : Int32) (0 : Int32) (0 : Int32)).2) x0 x1 ((f_Y0_enact S ((grC S x0 0).getD 0) (4 : Int32) x1 (0 : Int32) (0 : Int32) (0 : Int32)).1))
def p_Y10_chair (S : Cst) (x0 : Nat) (lc : Nat) (ls : Nat) (x1 : Int32) : Prop := (iR S (grC S x0 0) 0) ∧ ((S.1 ≤ (f_Y0_enact S ((grC S x0 0).getD 0) (4 : Int32) x1 (0 : Int32) (0 : Int32) (0 : Int32)).2.1 ∧ (f_Y0_enact S ((grC S x0 0).getD 0) (4 : Int32) x1 (0 : Int32) (0 : Int32) (0 : Int32)).2.1 ≤ lc) ∧ (S.2.1 ≤ (f_Y0_enact S ((grC S x0 0).getD 0) (4 : Int32) x1 (0 : Int32) (0 : Int32) (0 : Int32)).2.2.1 ∧ (f_Y0_enact S ((grC S x0 0).getD 0) (4 : Int32) x1 (0 : Int32) (0 : Int32) (0 : Int32)).2.2.1 ≤ ls)) ∧ (p_Y0_enact S ((grC S x0 0).getD 0) (f_Y0_enact S ((grC S x0 0).getD 0) (4 : Int32) x1 (0 : Int32) (0 : Int32) (0 : Int32)).2.1 (f_Y0_enact S ((grC S x0 0).getD 0) (4 : Int32) x1 (0 : Int32) (0 : Int32) (0 : Int32)).2.2.1 (4 : Int32) x1 (0 : Int32) (0 : Int32) (0 : Int32)) ∧ (q_Y10_chair_12a ((f_Y0_enact S ((grC S x0 0).getD 0) (4 : Int32) x1 (0 : Int32) (0 : Int32) (0 : Int32)).2) x0 lc ls x1 ((f_Y0_enact S ((grC S x0 0).getD 0) (4 : Int32) x1 (0 : Int32) (0 : Int32) (0 : Int32)).1))
def e_Y10_chair : List Cond := [.fieldLink RX10 10 "MotionFloor" "now" "LMotionFloor$Assembly;", .methodLink RX10 32 yX0_enact, .instanceMethod yX0_enact, .selects RX0 yX0_enact yX0_enact, .initialized RX0]
def v_Y10_chair : List Cond := .code yX10_chair cX10_chair 2 (some .int) :: (e_Y10_chair ++ (wsX100 ++ (v_Y0_enact ++ [])))
theorem te_Y10_chair : GoodIn lw_tbl e_Y10_chair := wGc zc496 (wGc zc693 (wGc zc692 (wGc zc691 (wGc zc39 (wG0)))))
theorem t_Y10_chair : GoodIn lw_tbl v_Y10_chair := wGc zc697 (wGa te_Y10_chair (wGa zcX10 (wGa t_Y0_enact (wG0))))
set_option maxHeartbeats 4000000 in
set_option maxRecDepth 100000 in
theorem c_Y10_chair (l : Launch) (G : va_G) (K : Nat → ClassId) (ad0 : Nat → Nat) (S0 : Cst) (x0 : Nat) (lc : Nat) (ls : Nat) (a1 : Int32) (sz : Nat) : Met l yX10_chair v_Y10_chair ({ frames := 8, cells := lc - S0.1, slots := ls - S0.2.1, locals := 226 }) (va_Pc [.ref (ad0 x0), .int a1] (cSt G K ad0 sz S0 ((S0.1 ≤ lc ∧ S0.2.1 ≤ ls) ∧ iK S0 x0 7 ∧ p_Y10_chair S0 x0 lc ls a1))) (va_Qi (fun (r : Int32) (u : Cst × (Nat → Nat)) => (r, u.1) = f_Y10_chair S0 x0 a1 ∧ eN S0 u.1 ∧ (∀ q, q < S0.1 → u.2 q = ad0 q)) (fun u t => cBt G K u.2 (va_A (wsC K ad0 S0) sz) u.1 t) (va_A (wsC K ad0 S0) sz)) (lc - S0.1) (ls - S0.2.1) (va_A (wsC K ad0 S0) sz) := by
  refine Met.ofW (cc := cX10_chair) (maxL := 2) (ret := (some .int)) (by decide) rfl ?_
  intro p e s m args below meth c s₁ B hml hv
  obtain ⟨rfl, ⟨hsz, hP, hK, hD0, hTE⟩, hp⟩ := hv
  obtain ⟨k_l, hp⟩ := hp
  obtain ⟨k_x0, hp⟩ := hp
  have hx := B.exec
  have hb := B.bytes
  have hr := B.returns
  have hts := atoms_spec (ws := v_Y10_chair) B.pre
  have t_ := t_Y10_chair
  have mw : ∀ w ∈ e_Y10_chair, w ∈ v_Y10_chair := fun w h => List.mem_cons_of_mem _ (List.mem_append_left _ h)
  have hw := fun w (h : w ∈ e_Y10_chair) => hts w (mw w h)
  have iX10 : ∀ w ∈ wsX100, w ∈ v_Y10_chair := fun w h => List.mem_cons_of_mem _ (List.mem_append_right _ (List.mem_append_left _ h))
  have j_Y0_enact : ∀ w ∈ v_Y0_enact, w ∈ v_Y10_chair := fun w h => List.mem_cons_of_mem _ (List.mem_append_right _ (List.mem_append_right _ (List.mem_append_left _ h)))
  have hown : s.vm.findClass RX10 = some m.cls := findClass_of_methodNamed B.named
  have hlocks := B.notSynchronized
  subst hsz
  have hD := hD0.self (sz := s.heap.size)
  generalize hAe : va_A (wsC K ad0 S0) s.heap.size = A at hD ⊢
  have hA : ∀ q : Nat, s.heap.size ≤ q → A q := fun q h => by rw [← hAe]; exact Or.inr h
  have hS : va_S A s.heap s.heap [] := va_S.rf
  have hl : lv_has (lg_sl ([.ref (ad0 x0), .int a1]) ++ List.replicate (2 - (lg_sl ([.ref (ad0 x0), .int a1])).length) Slot.unset).toArray 2 [(0, .ref (ad0 x0)), (1, .int a1)] := by
    exact lv_entry ([.ref (ad0 x0), .int a1]) (n := 2) (Nat.le_of_ble_eq_true rfl)
  rw [lg_entry_eq]
  generalize (lg_sl ([.ref (ad0 x0), .int a1]) ++ List.replicate (2 - (lg_sl ([.ref (ad0 x0), .int a1])).length) Slot.unset).toArray = ls_ at hl ⊢
  refine wGen (fun Q hQ => ?_)
  obtain ⟨X, hX⟩ : ∃ X, f_Y10_chair S0 x0 a1 = X := ⟨_, rfl⟩
  have B_Y10_chair_12a : ∀ (S : Cst) (ad : Nat → Nat) (x1 : Int32) (y0 : Int32) (H : Heap) (locs : List Loc) (ls_ : Array Slot), b_Y10_chair_12a S x0 x1 y0 = X → q_Y10_chair_12a S x0 lc ls x1 y0 → nH S0 ad0 lc ls S ad → va_P G vwCl (wsC K ad S) H → va_D A (wsC K ad S) → va_S A s.heap H locs → lv_has ls_ 2 [(0, .ref (ad x0)), (1, .int x1)] → W p l e ({ frames := 8, cells := lc - S0.1, slots := ls - S0.2.1, locals := 226 } : Room) s m #[Value.ref (ad0 x0), Value.int a1] below meth c H locs (S.1 - S0.1) (S.2.1 - S0.2.1) Q (F0 m 12 ls_ [.int y0]) := by
    intro S ad x1 y0 H locs ls_ hE hp hZ hP hD hS hl
    unfold b_Y10_chair_12a at hE
    unfold q_Y10_chair_12a at hp
    refine W.widen (k := lc - S0.1) (n := ls - S0.2.1) (show S.1 - S0.1 ≤ lc - S0.1 from Nat.sub_le_sub_right hZ.2.2.1 _) (show S.2.1 - S0.2.1 ≤ ls - S0.2.1 from Nat.sub_le_sub_right hZ.2.2.2 _) ?_
    subst hQ
    exact W.iret (v := y0) hx hb hr (fun t ht hW => ⟨⟨y0, (S, ad), rfl, ⟨hE.trans hX.symm, hZ.1, hZ.2.1⟩, by rw [ht]; exact hP, hD⟩, hS.F ht⟩) hS.2.2 dX10_chair_12
  have B_M : ∀ (S : Cst) (ad : Nat → Nat) (x1 : Int32) (H : Heap) (locs : List Loc) (ls_ : Array Slot), f_Y10_chair S x0 x1 = X → p_Y10_chair S x0 lc ls x1 → nH S0 ad0 lc ls S ad → va_P G vwCl (wsC K ad S) H → va_D A (wsC K ad S) → va_S A s.heap H locs → lv_has ls_ 2 [(0, .ref (ad x0)), (1, .int x1)] → W p l e ({ frames := 8, cells := lc - S0.1, slots := ls - S0.2.1, locals := 226 } : Room) s m #[Value.ref (ad0 x0), Value.int a1] below meth c H locs (S.1 - S0.1) (S.2.1 - S0.2.1) Q (F0 m 0 ls_ []) := by
    intro S ad x1 H locs ls_ hE hp hZ hP hD hS hl
    unfold f_Y10_chair at hE
    unfold p_Y10_chair at hp
    refine lv_aload_n hx hb dX10_chair_0 rfl (lv_at hl 0 rfl) ?_
    refine va_get (D := G) (ci := 7) (v := va_re ad (grC S x0 0)) (C := RX10) (T := TX10) (N := 5) hx hb hts iX10 hown hK hP x0 (at_7 (k_x0.n hZ.1)) rfl 0 (by decide) (hw (.fieldLink RX10 10 "MotionFloor" "now" "LMotionFloor$Assembly;") (List.mem_of_getElem? (i := 0) rfl)) (fun _ h9 => h9) rfl dX10_chair_1 ?_
    refine lv_iconst (v := 4) hx hb dX10_chair_4 (by decide) ?_
    refine lv_iload_n hx hb dX10_chair_5 rfl (lv_at hl 1 rfl) ?_
    refine lv_iconst (v := 0) hx hb dX10_chair_6 (by decide) ?_
    refine lv_iconst (v := 0) hx hb dX10_chair_7 (by decide) ?_
    refine lv_iconst (v := 0) hx hb dX10_chair_8 (by decide) ?_
    obtain ⟨hy1, hp⟩ := hp
    refine cTop6 (r := (grC S x0 0)) hy1.1 ?_
    obtain ⟨hy2, hp⟩ := hp
    obtain ⟨hy3, hp⟩ := hp
    refine cNoi (va_runV (As := [.int 4, .int x1, .int 0, .int 0, .int 0]) (rest := []) ⟨hx, hb, hml, hown, hts⟩ (c_Y0_enact l G K ad S ((grC S x0 0).getD 0) (f_Y0_enact S ((grC S x0 0).getD 0) (4 : Int32) x1 (0 : Int32) (0 : Int32) (0 : Int32)).2.1 (f_Y0_enact S ((grC S x0 0).getD 0) (4 : Int32) x1 (0 : Int32) (0 : Int32) (0 : Int32)).2.2.1 (4 : Int32) x1 (0 : Int32) (0 : Int32) (0 : Int32) _) (cwV 5 hts (wGV t_ (mw (.methodLink RX10 32 yX0_enact) (List.mem_of_getElem? (i := 1) rfl)) (mw (.instanceMethod yX0_enact) (List.mem_of_getElem? (i := 2) rfl)) (mw (.selects RX0 yX0_enact yX0_enact) (List.mem_of_getElem? (i := 3) rfl)) (mw (.initialized RX0) (List.mem_of_getElem? (i := 4) rfl)) j_Y0_enact) rfl rfl rfl (by decide +kernel) ⟨Nat.le_of_ble_eq_true rfl, Nat.le_of_ble_eq_true rfl⟩) (cPV hK hTE hP hD 0 rfl (at_0 hy1.2) ⟨⟨hy2.1.1, hy2.2.1⟩, hy1.2, hy3⟩) rfl rfl hl.1 rfl (lv_room (Nat.le_of_ble_eq_true rfl)) dX10_chair_9 ⟨by show _ ≤ lc - S0.1; have := hZ.1.1.1; have := hy2.1; omega, by show _ ≤ ls - S0.2.1; have := hZ.1.1.2; have := hy2.2; omega⟩) hP hD hS hA (fun r5 u4 H locs hv hP hD hS => ?_)
    obtain ⟨hv, hz, ha⟩ := hv
    have e1 : (f_Y0_enact S ((grC S x0 0).getD 0) (4 : Int32) x1 (0 : Int32) (0 : Int32) (0 : Int32)).2.1 = u4.1.1 := by rw [← hv]
    have e2 : (f_Y0_enact S ((grC S x0 0).getD 0) (4 : Int32) x1 (0 : Int32) (0 : Int32) (0 : Int32)).2.2.1 = u4.1.2.1 := by rw [← hv]
    refine cCells (cells' := u4.1.1 - S0.1) (slots' := u4.1.2.1 - S0.2.1) (by have := hZ.1.1.1; have := hy2.1; omega) (by have := hZ.1.1.2; have := hy2.2; omega) ?_
    rw [← ha x0 (k_x0.n hZ.1).1] at hl
    have hZ := hZ.n hz ha (by rw [← e1]; exact hy2.1.2) (by rw [← e2]; exact hy2.2.2)
    rw [← hv] at hE hp
    dsimp only at hE hp
    exact B_Y10_chair_12a u4.1 u4.2 x1 r5 _ _ _ hE hp hZ hP hD hS (lv_sub hl [0, 1] rfl)
  exact cCells (Nat.sub_self _).symm (Nat.sub_self _).symm (B_M S0 ad0 a1 _ _ _ hX hp (nH.rf S0 ad0 k_l) hP hD hS hl)
theorem gdX10_majority_0 : ckS (List.drop 0 cX10_majority.data.toList) 0 [(0, .aload_n 0, 1), (1, .getfield 10, 3), (4, .iconst 5, 1), (5, .iload_n 1, 1), (6, .iload_n 2, 1), (7, .iconst 0, 1), (8, .iconst 0, 1), (9, .invokevirtual 32, 3), (12, .ireturn, 1)] = true := by decide +kernel
theorem dX10_majority_0 : decode cX10_majority 0 = .ok (.aload_n 0, 1) := ckS_g gdX10_majority_0 0 rfl
theorem dX10_majority_1 : decode cX10_majority 1 = .ok (.getfield 10, 3) := ckS_g gdX10_majority_0 1 rfl
theorem dX10_majority_4 : decode cX10_majority 4 = .ok (.iconst 5, 1) := ckS_g gdX10_majority_0 2 rfl
theorem dX10_majority_5 : decode cX10_majority 5 = .ok (.iload_n 1, 1) := ckS_g gdX10_majority_0 3 rfl
theorem dX10_majority_6 : decode cX10_majority 6 = .ok (.iload_n 2, 1) := ckS_g gdX10_majority_0 4 rfl
theorem dX10_majority_7 : decode cX10_majority 7 = .ok (.iconst 0, 1) := ckS_g gdX10_majority_0 5 rfl
theorem dX10_majority_8 : decode cX10_majority 8 = .ok (.iconst 0, 1) := ckS_g gdX10_majority_0 6 rfl
theorem dX10_majority_9 : decode cX10_majority 9 = .ok (.invokevirtual 32, 3) := ckS_g gdX10_majority_0 7 rfl
theorem dX10_majority_12 : decode cX10_majority 12 = .ok (.ireturn, 1) := ckS_g gdX10_majority_0 8 rfl
set_option maxRecDepth 100000 in
theorem zc698 : wZ (.code yX10_majority cX10_majority 3 (some .int)) := ⟨wT4 (List.mem_of_getElem? (i := 43) rfl), Or.inl rfl⟩
def b_Y10_majority_12a (S : Cst) (x0 : Nat) (x1 : Int32) (x2 : Int32) (y0 : Int32) : Int32 × Cst := (y0, S)
def q_Y10_majority_12a (S : Cst) (x0 : Nat) (lc : Nat) (ls : Nat) (x1 : Int32) (x2 : Int32) (y0 : Int32) : Prop := True
def f_Y10_majority (S : Cst) (x0 : Nat) (x1 : Int32) (x2 : Int32) : Int32 × Cst := (b_Y10_majority_12a ((f_Y0_enact S ((grC S x0 0).getD 0) (5 : Int32) x1 x2 (0 : Int32) (0 : Int32)).2) x0 x1 x2 ((f_Y0_enact S ((grC S x0 0).getD 0) (5 : Int32) x1 x2 (0 : Int32) (0 : Int32)).1))
def p_Y10_majority (S : Cst) (x0 : Nat) (lc : Nat) (ls : Nat) (x1 : Int32) (x2 : Int32) : Prop := (iR S (grC S x0 0) 0) ∧ ((S.1 ≤ (f_Y0_enact S ((grC S x0 0).getD 0) (5 : Int32) x1 x2 (0 : Int32) (0 : Int32)).2.1 ∧ (f_Y0_enact S ((grC S x0 0).getD 0) (5 : Int32) x1 x2 (0 : Int32) (0 : Int32)).2.1 ≤ lc) ∧ (S.2.1 ≤ (f_Y0_enact S ((grC S x0 0).getD 0) (5 : Int32) x1 x2 (0 : Int32) (0 : Int32)).2.2.1 ∧ (f_Y0_enact S ((grC S x0 0).getD 0) (5 : Int32) x1 x2 (0 : Int32) (0 : Int32)).2.2.1 ≤ ls)) ∧ (p_Y0_enact S ((grC S x0 0).getD 0) (f_Y0_enact S ((grC S x0 0).getD 0) (5 : Int32) x1 x2 (0 : Int32) (0 : Int32)).2.1 (f_Y0_enact S ((grC S x0 0).getD 0) (5 : Int32) x1 x2 (0 : Int32) (0 : Int32)).2.2.1 (5 : Int32) x1 x2 (0 : Int32) (0 : Int32)) ∧ (q_Y10_majority_12a ((f_Y0_enact S ((grC S x0 0).getD 0) (5 : Int32) x1 x2 (0 : Int32) (0 : Int32)).2) x0 lc ls x1 x2 ((f_Y0_enact S ((grC S x0 0).getD 0) (5 : Int32) x1 x2 (0 : Int32) (0 : Int32)).1))
def e_Y10_majority : List Cond := [.fieldLink RX10 10 "MotionFloor" "now" "LMotionFloor$Assembly;", .methodLink RX10 32 yX0_enact, .instanceMethod yX0_enact, .selects RX0 yX0_enact yX0_enact, .initialized RX0]
def v_Y10_majority : List Cond := .code yX10_majority cX10_majority 3 (some .int) :: (e_Y10_majority ++ (wsX100 ++ (v_Y0_enact ++ [])))
theorem te_Y10_majority : GoodIn lw_tbl e_Y10_majority := wGc zc496 (wGc zc693 (wGc zc692 (wGc zc691 (wGc zc39 (wG0)))))
theorem t_Y10_majority : GoodIn lw_tbl v_Y10_majority := wGc zc698 (wGa te_Y10_majority (wGa zcX10 (wGa t_Y0_enact (wG0))))
set_option maxHeartbeats 4000000 in
set_option maxRecDepth 100000 in
theorem c_Y10_majority (l : Launch) (G : va_G) (K : Nat → ClassId) (ad0 : Nat → Nat) (S0 : Cst) (x0 : Nat) (lc : Nat) (ls : Nat) (a1 : Int32) (a2 : Int32) (sz : Nat) : Met l yX10_majority v_Y10_majority ({ frames := 8, cells := lc - S0.1, slots := ls - S0.2.1, locals := 226 }) (va_Pc [.ref (ad0 x0), .int a1, .int a2] (cSt G K ad0 sz S0 ((S0.1 ≤ lc ∧ S0.2.1 ≤ ls) ∧ iK S0 x0 7 ∧ p_Y10_majority S0 x0 lc ls a1 a2))) (va_Qi (fun (r : Int32) (u : Cst × (Nat → Nat)) => (r, u.1) = f_Y10_majority S0 x0 a1 a2 ∧ eN S0 u.1 ∧ (∀ q, q < S0.1 → u.2 q = ad0 q)) (fun u t => cBt G K u.2 (va_A (wsC K ad0 S0) sz) u.1 t) (va_A (wsC K ad0 S0) sz)) (lc - S0.1) (ls - S0.2.1) (va_A (wsC K ad0 S0) sz) := by
  refine Met.ofW (cc := cX10_majority) (maxL := 3) (ret := (some .int)) (by decide) rfl ?_
  intro p e s m args below meth c s₁ B hml hv
  obtain ⟨rfl, ⟨hsz, hP, hK, hD0, hTE⟩, hp⟩ := hv
  obtain ⟨k_l, hp⟩ := hp
  obtain ⟨k_x0, hp⟩ := hp
  have hx := B.exec
  have hb := B.bytes
  have hr := B.returns
  have hts := atoms_spec (ws := v_Y10_majority) B.pre
  have t_ := t_Y10_majority
  have mw : ∀ w ∈ e_Y10_majority, w ∈ v_Y10_majority := fun w h => List.mem_cons_of_mem _ (List.mem_append_left _ h)
  have hw := fun w (h : w ∈ e_Y10_majority) => hts w (mw w h)
  have iX10 : ∀ w ∈ wsX100, w ∈ v_Y10_majority := fun w h => List.mem_cons_of_mem _ (List.mem_append_right _ (List.mem_append_left _ h))
  have j_Y0_enact : ∀ w ∈ v_Y0_enact, w ∈ v_Y10_majority := fun w h => List.mem_cons_of_mem _ (List.mem_append_right _ (List.mem_append_right _ (List.mem_append_left _ h)))
  have hown : s.vm.findClass RX10 = some m.cls := findClass_of_methodNamed B.named
  have hlocks := B.notSynchronized
  subst hsz
  have hD := hD0.self (sz := s.heap.size)
  generalize hAe : va_A (wsC K ad0 S0) s.heap.size = A at hD ⊢
  have hA : ∀ q : Nat, s.heap.size ≤ q → A q := fun q h => by rw [← hAe]; exact Or.inr h
  have hS : va_S A s.heap s.heap [] := va_S.rf
  have hl : lv_has (lg_sl ([.ref (ad0 x0), .int a1, .int a2]) ++ List.replicate (3 - (lg_sl ([.ref (ad0 x0), .int a1, .int a2])).length) Slot.unset).toArray 3 [(0, .ref (ad0 x0)), (1, .int a1), (2, .int a2)] := by
    exact lv_entry ([.ref (ad0 x0), .int a1, .int a2]) (n := 3) (Nat.le_of_ble_eq_true rfl)
  rw [lg_entry_eq]
  generalize (lg_sl ([.ref (ad0 x0), .int a1, .int a2]) ++ List.replicate (3 - (lg_sl ([.ref (ad0 x0), .int a1, .int a2])).length) Slot.unset).toArray = ls_ at hl ⊢
  refine wGen (fun Q hQ => ?_)
  obtain ⟨X, hX⟩ : ∃ X, f_Y10_majority S0 x0 a1 a2 = X := ⟨_, rfl⟩
  have B_Y10_majority_12a : ∀ (S : Cst) (ad : Nat → Nat) (x1 : Int32) (x2 : Int32) (y0 : Int32) (H : Heap) (locs : List Loc) (ls_ : Array Slot), b_Y10_majority_12a S x0 x1 x2 y0 = X → q_Y10_majority_12a S x0 lc ls x1 x2 y0 → nH S0 ad0 lc ls S ad → va_P G vwCl (wsC K ad S) H → va_D A (wsC K ad S) → va_S A s.heap H locs → lv_has ls_ 3 [(0, .ref (ad x0)), (1, .int x1), (2, .int x2)] → W p l e ({ frames := 8, cells := lc - S0.1, slots := ls - S0.2.1, locals := 226 } : Room) s m #[Value.ref (ad0 x0), Value.int a1, Value.int a2] below meth c H locs (S.1 - S0.1) (S.2.1 - S0.2.1) Q (F0 m 12 ls_ [.int y0]) := by
    intro S ad x1 x2 y0 H locs ls_ hE hp hZ hP hD hS hl
    unfold b_Y10_majority_12a at hE
    unfold q_Y10_majority_12a at hp
    refine W.widen (k := lc - S0.1) (n := ls - S0.2.1) (show S.1 - S0.1 ≤ lc - S0.1 from Nat.sub_le_sub_right hZ.2.2.1 _) (show S.2.1 - S0.2.1 ≤ ls - S0.2.1 from Nat.sub_le_sub_right hZ.2.2.2 _) ?_
    subst hQ
    exact W.iret (v := y0) hx hb hr (fun t ht hW => ⟨⟨y0, (S, ad), rfl, ⟨hE.trans hX.symm, hZ.1, hZ.2.1⟩, by rw [ht]; exact hP, hD⟩, hS.F ht⟩) hS.2.2 dX10_majority_12
  have B_M : ∀ (S : Cst) (ad : Nat → Nat) (x1 : Int32) (x2 : Int32) (H : Heap) (locs : List Loc) (ls_ : Array Slot), f_Y10_majority S x0 x1 x2 = X → p_Y10_majority S x0 lc ls x1 x2 → nH S0 ad0 lc ls S ad → va_P G vwCl (wsC K ad S) H → va_D A (wsC K ad S) → va_S A s.heap H locs → lv_has ls_ 3 [(0, .ref (ad x0)), (1, .int x1), (2, .int x2)] → W p l e ({ frames := 8, cells := lc - S0.1, slots := ls - S0.2.1, locals := 226 } : Room) s m #[Value.ref (ad0 x0), Value.int a1, Value.int a2] below meth c H locs (S.1 - S0.1) (S.2.1 - S0.2.1) Q (F0 m 0 ls_ []) := by
    intro S ad x1 x2 H locs ls_ hE hp hZ hP hD hS hl
    unfold f_Y10_majority at hE
    unfold p_Y10_majority at hp
    refine lv_aload_n hx hb dX10_majority_0 rfl (lv_at hl 0 rfl) ?_
    refine va_get (D := G) (ci := 7) (v := va_re ad (grC S x0 0)) (C := RX10) (T := TX10) (N := 5) hx hb hts iX10 hown hK hP x0 (at_7 (k_x0.n hZ.1)) rfl 0 (by decide) (hw (.fieldLink RX10 10 "MotionFloor" "now" "LMotionFloor$Assembly;") (List.mem_of_getElem? (i := 0) rfl)) (fun _ h9 => h9) rfl dX10_majority_1 ?_
    refine lv_iconst (v := 5) hx hb dX10_majority_4 (by decide) ?_
    refine lv_iload_n hx hb dX10_majority_5 rfl (lv_at hl 1 rfl) ?_
    refine lv_iload_n hx hb dX10_majority_6 rfl (lv_at hl 2 rfl) ?_
    refine lv_iconst (v := 0) hx hb dX10_majority_7 (by decide) ?_
    refine lv_iconst (v := 0) hx hb dX10_majority_8 (by decide) ?_
    obtain ⟨hy1, hp⟩ := hp
    refine cTop6 (r := (grC S x0 0)) hy1.1 ?_
    obtain ⟨hy2, hp⟩ := hp
    obtain ⟨hy3, hp⟩ := hp
    refine cNoi (va_runV (As := [.int 5, .int x1, .int x2, .int 0, .int 0]) (rest := []) ⟨hx, hb, hml, hown, hts⟩ (c_Y0_enact l G K ad S ((grC S x0 0).getD 0) (f_Y0_enact S ((grC S x0 0).getD 0) (5 : Int32) x1 x2 (0 : Int32) (0 : Int32)).2.1 (f_Y0_enact S ((grC S x0 0).getD 0) (5 : Int32) x1 x2 (0 : Int32) (0 : Int32)).2.2.1 (5 : Int32) x1 x2 (0 : Int32) (0 : Int32) _) (cwV 5 hts (wGV t_ (mw (.methodLink RX10 32 yX0_enact) (List.mem_of_getElem? (i := 1) rfl)) (mw (.instanceMethod yX0_enact) (List.mem_of_getElem? (i := 2) rfl)) (mw (.selects RX0 yX0_enact yX0_enact) (List.mem_of_getElem? (i := 3) rfl)) (mw (.initialized RX0) (List.mem_of_getElem? (i := 4) rfl)) j_Y0_enact) rfl rfl rfl (by decide +kernel) ⟨Nat.le_of_ble_eq_true rfl, Nat.le_of_ble_eq_true rfl⟩) (cPV hK hTE hP hD 0 rfl (at_0 hy1.2) ⟨⟨hy2.1.1, hy2.2.1⟩, hy1.2, hy3⟩) rfl rfl hl.1 rfl (lv_room (Nat.le_of_ble_eq_true rfl)) dX10_majority_9 ⟨by show _ ≤ lc - S0.1; have := hZ.1.1.1; have := hy2.1; omega, by show _ ≤ ls - S0.2.1; have := hZ.1.1.2; have := hy2.2; omega⟩) hP hD hS hA (fun r5 u4 H locs hv hP hD hS => ?_)
    obtain ⟨hv, hz, ha⟩ := hv
    have e1 : (f_Y0_enact S ((grC S x0 0).getD 0) (5 : Int32) x1 x2 (0 : Int32) (0 : Int32)).2.1 = u4.1.1 := by rw [← hv]
    have e2 : (f_Y0_enact S ((grC S x0 0).getD 0) (5 : Int32) x1 x2 (0 : Int32) (0 : Int32)).2.2.1 = u4.1.2.1 := by rw [← hv]
    refine cCells (cells' := u4.1.1 - S0.1) (slots' := u4.1.2.1 - S0.2.1) (by have := hZ.1.1.1; have := hy2.1; omega) (by have := hZ.1.1.2; have := hy2.2; omega) ?_
    rw [← ha x0 (k_x0.n hZ.1).1] at hl
    have hZ := hZ.n hz ha (by rw [← e1]; exact hy2.1.2) (by rw [← e2]; exact hy2.2.2)
    rw [← hv] at hE hp
    dsimp only at hE hp
    exact B_Y10_majority_12a u4.1 u4.2 x1 x2 r5 _ _ _ hE hp hZ hP hD hS (lv_sub hl [0, 1, 2] rfl)
  exact cCells (Nat.sub_self _).symm (Nat.sub_self _).symm (B_M S0 ad0 a1 a2 _ _ _ hX hp (nH.rf S0 ad0 k_l) hP hD hS hl)
theorem gdX10_limit_0 : ckS (List.drop 0 cX10_limit.data.toList) 0 [(0, .aload_n 0, 1), (1, .getfield 10, 3), (4, .bipush 6, 2), (6, .iload_n 1, 1), (7, .iconst 0, 1), (8, .iconst 0, 1), (9, .iconst 0, 1), (10, .invokevirtual 32, 3), (13, .ireturn, 1)] = true := by decide +kernel
theorem dX10_limit_0 : decode cX10_limit 0 = .ok (.aload_n 0, 1) := ckS_g gdX10_limit_0 0 rfl
theorem dX10_limit_1 : decode cX10_limit 1 = .ok (.getfield 10, 3) := ckS_g gdX10_limit_0 1 rfl
theorem dX10_limit_4 : decode cX10_limit 4 = .ok (.bipush 6, 2) := ckS_g gdX10_limit_0 2 rfl
theorem dX10_limit_6 : decode cX10_limit 6 = .ok (.iload_n 1, 1) := ckS_g gdX10_limit_0 3 rfl
theorem dX10_limit_7 : decode cX10_limit 7 = .ok (.iconst 0, 1) := ckS_g gdX10_limit_0 4 rfl
theorem dX10_limit_8 : decode cX10_limit 8 = .ok (.iconst 0, 1) := ckS_g gdX10_limit_0 5 rfl
theorem dX10_limit_9 : decode cX10_limit 9 = .ok (.iconst 0, 1) := ckS_g gdX10_limit_0 6 rfl
theorem dX10_limit_10 : decode cX10_limit 10 = .ok (.invokevirtual 32, 3) := ckS_g gdX10_limit_0 7 rfl
theorem dX10_limit_13 : decode cX10_limit 13 = .ok (.ireturn, 1) := ckS_g gdX10_limit_0 8 rfl
set_option maxRecDepth 100000 in
theorem zc699 : wZ (.code yX10_limit cX10_limit 2 (some .int)) := ⟨wT4 (List.mem_of_getElem? (i := 47) rfl), Or.inl rfl⟩
def b_Y10_limit_13a (S : Cst) (x0 : Nat) (x1 : Int32) (y0 : Int32) : Int32 × Cst := (y0, S)
def q_Y10_limit_13a (S : Cst) (x0 : Nat) (lc : Nat) (ls : Nat) (x1 : Int32) (y0 : Int32) : Prop := True
def f_Y10_limit (S : Cst) (x0 : Nat) (x1 : Int32) : Int32 × Cst := (b_Y10_limit_13a ((f_Y0_enact S ((grC S x0 0).getD 0) (6 : Int32) x1 (0 : Int32) (0 : Int32) (0 : Int32)).2) x0 x1 ((f_Y0_enact S ((grC S x0 0).getD 0) (6 : Int32) x1 (0 : Int32) (0 : Int32) (0 : Int32)).1))
def p_Y10_limit (S : Cst) (x0 : Nat) (lc : Nat) (ls : Nat) (x1 : Int32) : Prop := (iR S (grC S x0 0) 0) ∧ ((S.1 ≤ (f_Y0_enact S ((grC S x0 0).getD 0) (6 : Int32) x1 (0 : Int32) (0 : Int32) (0 : Int32)).2.1 ∧ (f_Y0_enact S ((grC S x0 0).getD 0) (6 : Int32) x1 (0 : Int32) (0 : Int32) (0 : Int32)).2.1 ≤ lc) ∧ (S.2.1 ≤ (f_Y0_enact S ((grC S x0 0).getD 0) (6 : Int32) x1 (0 : Int32) (0 : Int32) (0 : Int32)).2.2.1 ∧ (f_Y0_enact S ((grC S x0 0).getD 0) (6 : Int32) x1 (0 : Int32) (0 : Int32) (0 : Int32)).2.2.1 ≤ ls)) ∧ (p_Y0_enact S ((grC S x0 0).getD 0) (f_Y0_enact S ((grC S x0 0).getD 0) (6 : Int32) x1 (0 : Int32) (0 : Int32) (0 : Int32)).2.1 (f_Y0_enact S ((grC S x0 0).getD 0) (6 : Int32) x1 (0 : Int32) (0 : Int32) (0 : Int32)).2.2.1 (6 : Int32) x1 (0 : Int32) (0 : Int32) (0 : Int32)) ∧ (q_Y10_limit_13a ((f_Y0_enact S ((grC S x0 0).getD 0) (6 : Int32) x1 (0 : Int32) (0 : Int32) (0 : Int32)).2) x0 lc ls x1 ((f_Y0_enact S ((grC S x0 0).getD 0) (6 : Int32) x1 (0 : Int32) (0 : Int32) (0 : Int32)).1))
def e_Y10_limit : List Cond := [.fieldLink RX10 10 "MotionFloor" "now" "LMotionFloor$Assembly;", .methodLink RX10 32 yX0_enact, .instanceMethod yX0_enact, .selects RX0 yX0_enact yX0_enact, .initialized RX0]
def v_Y10_limit : List Cond := .code yX10_limit cX10_limit 2 (some .int) :: (e_Y10_limit ++ (wsX100 ++ (v_Y0_enact ++ [])))
theorem te_Y10_limit : GoodIn lw_tbl e_Y10_limit := wGc zc496 (wGc zc693 (wGc zc692 (wGc zc691 (wGc zc39 (wG0)))))
theorem t_Y10_limit : GoodIn lw_tbl v_Y10_limit := wGc zc699 (wGa te_Y10_limit (wGa zcX10 (wGa t_Y0_enact (wG0))))
set_option maxHeartbeats 4000000 in
set_option maxRecDepth 100000 in
theorem c_Y10_limit (l : Launch) (G : va_G) (K : Nat → ClassId) (ad0 : Nat → Nat) (S0 : Cst) (x0 : Nat) (lc : Nat) (ls : Nat) (a1 : Int32) (sz : Nat) : Met l yX10_limit v_Y10_limit ({ frames := 8, cells := lc - S0.1, slots := ls - S0.2.1, locals := 226 }) (va_Pc [.ref (ad0 x0), .int a1] (cSt G K ad0 sz S0 ((S0.1 ≤ lc ∧ S0.2.1 ≤ ls) ∧ iK S0 x0 7 ∧ p_Y10_limit S0 x0 lc ls a1))) (va_Qi (fun (r : Int32) (u : Cst × (Nat → Nat)) => (r, u.1) = f_Y10_limit S0 x0 a1 ∧ eN S0 u.1 ∧ (∀ q, q < S0.1 → u.2 q = ad0 q)) (fun u t => cBt G K u.2 (va_A (wsC K ad0 S0) sz) u.1 t) (va_A (wsC K ad0 S0) sz)) (lc - S0.1) (ls - S0.2.1) (va_A (wsC K ad0 S0) sz) := by
  refine Met.ofW (cc := cX10_limit) (maxL := 2) (ret := (some .int)) (by decide) rfl ?_
  intro p e s m args below meth c s₁ B hml hv
  obtain ⟨rfl, ⟨hsz, hP, hK, hD0, hTE⟩, hp⟩ := hv
  obtain ⟨k_l, hp⟩ := hp
  obtain ⟨k_x0, hp⟩ := hp
  have hx := B.exec
  have hb := B.bytes
  have hr := B.returns
  have hts := atoms_spec (ws := v_Y10_limit) B.pre
  have t_ := t_Y10_limit
  have mw : ∀ w ∈ e_Y10_limit, w ∈ v_Y10_limit := fun w h => List.mem_cons_of_mem _ (List.mem_append_left _ h)
  have hw := fun w (h : w ∈ e_Y10_limit) => hts w (mw w h)
  have iX10 : ∀ w ∈ wsX100, w ∈ v_Y10_limit := fun w h => List.mem_cons_of_mem _ (List.mem_append_right _ (List.mem_append_left _ h))
  have j_Y0_enact : ∀ w ∈ v_Y0_enact, w ∈ v_Y10_limit := fun w h => List.mem_cons_of_mem _ (List.mem_append_right _ (List.mem_append_right _ (List.mem_append_left _ h)))
  have hown : s.vm.findClass RX10 = some m.cls := findClass_of_methodNamed B.named
  have hlocks := B.notSynchronized
  subst hsz
  have hD := hD0.self (sz := s.heap.size)
  generalize hAe : va_A (wsC K ad0 S0) s.heap.size = A at hD ⊢
  have hA : ∀ q : Nat, s.heap.size ≤ q → A q := fun q h => by rw [← hAe]; exact Or.inr h
  have hS : va_S A s.heap s.heap [] := va_S.rf
  have hl : lv_has (lg_sl ([.ref (ad0 x0), .int a1]) ++ List.replicate (2 - (lg_sl ([.ref (ad0 x0), .int a1])).length) Slot.unset).toArray 2 [(0, .ref (ad0 x0)), (1, .int a1)] := by
    exact lv_entry ([.ref (ad0 x0), .int a1]) (n := 2) (Nat.le_of_ble_eq_true rfl)
  rw [lg_entry_eq]
  generalize (lg_sl ([.ref (ad0 x0), .int a1]) ++ List.replicate (2 - (lg_sl ([.ref (ad0 x0), .int a1])).length) Slot.unset).toArray = ls_ at hl ⊢
  refine wGen (fun Q hQ => ?_)
  obtain ⟨X, hX⟩ : ∃ X, f_Y10_limit S0 x0 a1 = X := ⟨_, rfl⟩
  have B_Y10_limit_13a : ∀ (S : Cst) (ad : Nat → Nat) (x1 : Int32) (y0 : Int32) (H : Heap) (locs : List Loc) (ls_ : Array Slot), b_Y10_limit_13a S x0 x1 y0 = X → q_Y10_limit_13a S x0 lc ls x1 y0 → nH S0 ad0 lc ls S ad → va_P G vwCl (wsC K ad S) H → va_D A (wsC K ad S) → va_S A s.heap H locs → lv_has ls_ 2 [(0, .ref (ad x0)), (1, .int x1)] → W p l e ({ frames := 8, cells := lc - S0.1, slots := ls - S0.2.1, locals := 226 } : Room) s m #[Value.ref (ad0 x0), Value.int a1] below meth c H locs (S.1 - S0.1) (S.2.1 - S0.2.1) Q (F0 m 13 ls_ [.int y0]) := by
    intro S ad x1 y0 H locs ls_ hE hp hZ hP hD hS hl
    unfold b_Y10_limit_13a at hE
    unfold q_Y10_limit_13a at hp
    refine W.widen (k := lc - S0.1) (n := ls - S0.2.1) (show S.1 - S0.1 ≤ lc - S0.1 from Nat.sub_le_sub_right hZ.2.2.1 _) (show S.2.1 - S0.2.1 ≤ ls - S0.2.1 from Nat.sub_le_sub_right hZ.2.2.2 _) ?_
    subst hQ
    exact W.iret (v := y0) hx hb hr (fun t ht hW => ⟨⟨y0, (S, ad), rfl, ⟨hE.trans hX.symm, hZ.1, hZ.2.1⟩, by rw [ht]; exact hP, hD⟩, hS.F ht⟩) hS.2.2 dX10_limit_13
  have B_M : ∀ (S : Cst) (ad : Nat → Nat) (x1 : Int32) (H : Heap) (locs : List Loc) (ls_ : Array Slot), f_Y10_limit S x0 x1 = X → p_Y10_limit S x0 lc ls x1 → nH S0 ad0 lc ls S ad → va_P G vwCl (wsC K ad S) H → va_D A (wsC K ad S) → va_S A s.heap H locs → lv_has ls_ 2 [(0, .ref (ad x0)), (1, .int x1)] → W p l e ({ frames := 8, cells := lc - S0.1, slots := ls - S0.2.1, locals := 226 } : Room) s m #[Value.ref (ad0 x0), Value.int a1] below meth c H locs (S.1 - S0.1) (S.2.1 - S0.2.1) Q (F0 m 0 ls_ []) := by
    intro S ad x1 H locs ls_ hE hp hZ hP hD hS hl
    unfold f_Y10_limit at hE
    unfold p_Y10_limit at hp
    refine lv_aload_n hx hb dX10_limit_0 rfl (lv_at hl 0 rfl) ?_
    refine va_get (D := G) (ci := 7) (v := va_re ad (grC S x0 0)) (C := RX10) (T := TX10) (N := 5) hx hb hts iX10 hown hK hP x0 (at_7 (k_x0.n hZ.1)) rfl 0 (by decide) (hw (.fieldLink RX10 10 "MotionFloor" "now" "LMotionFloor$Assembly;") (List.mem_of_getElem? (i := 0) rfl)) (fun _ h9 => h9) rfl dX10_limit_1 ?_
    refine lv_bipush (v := 6) hx hb dX10_limit_4 (by decide) ?_
    refine lv_iload_n hx hb dX10_limit_6 rfl (lv_at hl 1 rfl) ?_
    refine lv_iconst (v := 0) hx hb dX10_limit_7 (by decide) ?_
    refine lv_iconst (v := 0) hx hb dX10_limit_8 (by decide) ?_
    refine lv_iconst (v := 0) hx hb dX10_limit_9 (by decide) ?_
    obtain ⟨hy1, hp⟩ := hp
    refine cTop6 (r := (grC S x0 0)) hy1.1 ?_
    obtain ⟨hy2, hp⟩ := hp
    obtain ⟨hy3, hp⟩ := hp
    refine cNoi (va_runV (As := [.int 6, .int x1, .int 0, .int 0, .int 0]) (rest := []) ⟨hx, hb, hml, hown, hts⟩ (c_Y0_enact l G K ad S ((grC S x0 0).getD 0) (f_Y0_enact S ((grC S x0 0).getD 0) (6 : Int32) x1 (0 : Int32) (0 : Int32) (0 : Int32)).2.1 (f_Y0_enact S ((grC S x0 0).getD 0) (6 : Int32) x1 (0 : Int32) (0 : Int32) (0 : Int32)).2.2.1 (6 : Int32) x1 (0 : Int32) (0 : Int32) (0 : Int32) _) (cwV 5 hts (wGV t_ (mw (.methodLink RX10 32 yX0_enact) (List.mem_of_getElem? (i := 1) rfl)) (mw (.instanceMethod yX0_enact) (List.mem_of_getElem? (i := 2) rfl)) (mw (.selects RX0 yX0_enact yX0_enact) (List.mem_of_getElem? (i := 3) rfl)) (mw (.initialized RX0) (List.mem_of_getElem? (i := 4) rfl)) j_Y0_enact) rfl rfl rfl (by decide +kernel) ⟨Nat.le_of_ble_eq_true rfl, Nat.le_of_ble_eq_true rfl⟩) (cPV hK hTE hP hD 0 rfl (at_0 hy1.2) ⟨⟨hy2.1.1, hy2.2.1⟩, hy1.2, hy3⟩) rfl rfl hl.1 rfl (lv_room (Nat.le_of_ble_eq_true rfl)) dX10_limit_10 ⟨by show _ ≤ lc - S0.1; have := hZ.1.1.1; have := hy2.1; omega, by show _ ≤ ls - S0.2.1; have := hZ.1.1.2; have := hy2.2; omega⟩) hP hD hS hA (fun r5 u4 H locs hv hP hD hS => ?_)
    obtain ⟨hv, hz, ha⟩ := hv
    have e1 : (f_Y0_enact S ((grC S x0 0).getD 0) (6 : Int32) x1 (0 : Int32) (0 : Int32) (0 : Int32)).2.1 = u4.1.1 := by rw [← hv]
    have e2 : (f_Y0_enact S ((grC S x0 0).getD 0) (6 : Int32) x1 (0 : Int32) (0 : Int32) (0 : Int32)).2.2.1 = u4.1.2.1 := by rw [← hv]
    refine cCells (cells' := u4.1.1 - S0.1) (slots' := u4.1.2.1 - S0.2.1) (by have := hZ.1.1.1; have := hy2.1; omega) (by have := hZ.1.1.2; have := hy2.2; omega) ?_
    rw [← ha x0 (k_x0.n hZ.1).1] at hl
    have hZ := hZ.n hz ha (by rw [← e1]; exact hy2.1.2) (by rw [← e2]; exact hy2.2.2)
    rw [← hv] at hE hp
    dsimp only at hE hp
    exact B_Y10_limit_13a u4.1 u4.2 x1 r5 _ _ _ hE hp hZ hP hD hS (lv_sub hl [0, 1] rfl)
  exact cCells (Nat.sub_self _).symm (Nat.sub_self _).symm (B_M S0 ad0 a1 _ _ _ hX hp (nH.rf S0 ad0 k_l) hP hD hS hl)
theorem gdX10_floor_0 : ckS (List.drop 0 cX10_floor.data.toList) 0 [(0, .aload_n 0, 1), (1, .getfield 10, 3), (4, .bipush 7, 2), (6, .iload_n 1, 1), (7, .iconst 0, 1), (8, .iconst 0, 1), (9, .iconst 0, 1), (10, .invokevirtual 32, 3), (13, .ireturn, 1)] = true := by decide +kernel
theorem dX10_floor_0 : decode cX10_floor 0 = .ok (.aload_n 0, 1) := ckS_g gdX10_floor_0 0 rfl
theorem dX10_floor_1 : decode cX10_floor 1 = .ok (.getfield 10, 3) := ckS_g gdX10_floor_0 1 rfl
theorem dX10_floor_4 : decode cX10_floor 4 = .ok (.bipush 7, 2) := ckS_g gdX10_floor_0 2 rfl
theorem dX10_floor_6 : decode cX10_floor 6 = .ok (.iload_n 1, 1) := ckS_g gdX10_floor_0 3 rfl
theorem dX10_floor_7 : decode cX10_floor 7 = .ok (.iconst 0, 1) := ckS_g gdX10_floor_0 4 rfl
theorem dX10_floor_8 : decode cX10_floor 8 = .ok (.iconst 0, 1) := ckS_g gdX10_floor_0 5 rfl
theorem dX10_floor_9 : decode cX10_floor 9 = .ok (.iconst 0, 1) := ckS_g gdX10_floor_0 6 rfl
theorem dX10_floor_10 : decode cX10_floor 10 = .ok (.invokevirtual 32, 3) := ckS_g gdX10_floor_0 7 rfl
theorem dX10_floor_13 : decode cX10_floor 13 = .ok (.ireturn, 1) := ckS_g gdX10_floor_0 8 rfl
set_option maxRecDepth 100000 in
theorem zc700 : wZ (.code yX10_floor cX10_floor 2 (some .int)) := ⟨wT4 (List.mem_of_getElem? (i := 51) rfl), Or.inl rfl⟩
def b_Y10_floor_13a (S : Cst) (x0 : Nat) (x1 : Int32) (y0 : Int32) : Int32 × Cst := (y0, S)
def q_Y10_floor_13a (S : Cst) (x0 : Nat) (lc : Nat) (ls : Nat) (x1 : Int32) (y0 : Int32) : Prop := True
def f_Y10_floor (S : Cst) (x0 : Nat) (x1 : Int32) : Int32 × Cst := (b_Y10_floor_13a ((f_Y0_enact S ((grC S x0 0).getD 0) (7 : Int32) x1 (0 : Int32) (0 : Int32) (0 : Int32)).2) x0 x1 ((f_Y0_enact S ((grC S x0 0).getD 0) (7 : Int32) x1 (0 : Int32) (0 : Int32) (0 : Int32)).1))
def p_Y10_floor (S : Cst) (x0 : Nat) (lc : Nat) (ls : Nat) (x1 : Int32) : Prop := (iR S (grC S x0 0) 0) ∧ ((S.1 ≤ (f_Y0_enact S ((grC S x0 0).getD 0) (7 : Int32) x1 (0 : Int32) (0 : Int32) (0 : Int32)).2.1 ∧ (f_Y0_enact S ((grC S x0 0).getD 0) (7 : Int32) x1 (0 : Int32) (0 : Int32) (0 : Int32)).2.1 ≤ lc) ∧ (S.2.1 ≤ (f_Y0_enact S ((grC S x0 0).getD 0) (7 : Int32) x1 (0 : Int32) (0 : Int32) (0 : Int32)).2.2.1 ∧ (f_Y0_enact S ((grC S x0 0).getD 0) (7 : Int32) x1 (0 : Int32) (0 : Int32) (0 : Int32)).2.2.1 ≤ ls)) ∧ (p_Y0_enact S ((grC S x0 0).getD 0) (f_Y0_enact S ((grC S x0 0).getD 0) (7 : Int32) x1 (0 : Int32) (0 : Int32) (0 : Int32)).2.1 (f_Y0_enact S ((grC S x0 0).getD 0) (7 : Int32) x1 (0 : Int32) (0 : Int32) (0 : Int32)).2.2.1 (7 : Int32) x1 (0 : Int32) (0 : Int32) (0 : Int32)) ∧ (q_Y10_floor_13a ((f_Y0_enact S ((grC S x0 0).getD 0) (7 : Int32) x1 (0 : Int32) (0 : Int32) (0 : Int32)).2) x0 lc ls x1 ((f_Y0_enact S ((grC S x0 0).getD 0) (7 : Int32) x1 (0 : Int32) (0 : Int32) (0 : Int32)).1))
def e_Y10_floor : List Cond := [.fieldLink RX10 10 "MotionFloor" "now" "LMotionFloor$Assembly;", .methodLink RX10 32 yX0_enact, .instanceMethod yX0_enact, .selects RX0 yX0_enact yX0_enact, .initialized RX0]
def v_Y10_floor : List Cond := .code yX10_floor cX10_floor 2 (some .int) :: (e_Y10_floor ++ (wsX100 ++ (v_Y0_enact ++ [])))
theorem te_Y10_floor : GoodIn lw_tbl e_Y10_floor := wGc zc496 (wGc zc693 (wGc zc692 (wGc zc691 (wGc zc39 (wG0)))))
theorem t_Y10_floor : GoodIn lw_tbl v_Y10_floor := wGc zc700 (wGa te_Y10_floor (wGa zcX10 (wGa t_Y0_enact (wG0))))
set_option maxHeartbeats 4000000 in
set_option maxRecDepth 100000 in
theorem c_Y10_floor (l : Launch) (G : va_G) (K : Nat → ClassId) (ad0 : Nat → Nat) (S0 : Cst) (x0 : Nat) (lc : Nat) (ls : Nat) (a1 : Int32) (sz : Nat) : Met l yX10_floor v_Y10_floor ({ frames := 8, cells := lc - S0.1, slots := ls - S0.2.1, locals := 226 }) (va_Pc [.ref (ad0 x0), .int a1] (cSt G K ad0 sz S0 ((S0.1 ≤ lc ∧ S0.2.1 ≤ ls) ∧ iK S0 x0 7 ∧ p_Y10_floor S0 x0 lc ls a1))) (va_Qi (fun (r : Int32) (u : Cst × (Nat → Nat)) => (r, u.1) = f_Y10_floor S0 x0 a1 ∧ eN S0 u.1 ∧ (∀ q, q < S0.1 → u.2 q = ad0 q)) (fun u t => cBt G K u.2 (va_A (wsC K ad0 S0) sz) u.1 t) (va_A (wsC K ad0 S0) sz)) (lc - S0.1) (ls - S0.2.1) (va_A (wsC K ad0 S0) sz) := by
  refine Met.ofW (cc := cX10_floor) (maxL := 2) (ret := (some .int)) (by decide) rfl ?_
  intro p e s m args below meth c s₁ B hml hv
  obtain ⟨rfl, ⟨hsz, hP, hK, hD0, hTE⟩, hp⟩ := hv
  obtain ⟨k_l, hp⟩ := hp
  obtain ⟨k_x0, hp⟩ := hp
  have hx := B.exec
  have hb := B.bytes
  have hr := B.returns
  have hts := atoms_spec (ws := v_Y10_floor) B.pre
  have t_ := t_Y10_floor
  have mw : ∀ w ∈ e_Y10_floor, w ∈ v_Y10_floor := fun w h => List.mem_cons_of_mem _ (List.mem_append_left _ h)
  have hw := fun w (h : w ∈ e_Y10_floor) => hts w (mw w h)
  have iX10 : ∀ w ∈ wsX100, w ∈ v_Y10_floor := fun w h => List.mem_cons_of_mem _ (List.mem_append_right _ (List.mem_append_left _ h))
  have j_Y0_enact : ∀ w ∈ v_Y0_enact, w ∈ v_Y10_floor := fun w h => List.mem_cons_of_mem _ (List.mem_append_right _ (List.mem_append_right _ (List.mem_append_left _ h)))
  have hown : s.vm.findClass RX10 = some m.cls := findClass_of_methodNamed B.named
  have hlocks := B.notSynchronized
  subst hsz
  have hD := hD0.self (sz := s.heap.size)
  generalize hAe : va_A (wsC K ad0 S0) s.heap.size = A at hD ⊢
  have hA : ∀ q : Nat, s.heap.size ≤ q → A q := fun q h => by rw [← hAe]; exact Or.inr h
  have hS : va_S A s.heap s.heap [] := va_S.rf
  have hl : lv_has (lg_sl ([.ref (ad0 x0), .int a1]) ++ List.replicate (2 - (lg_sl ([.ref (ad0 x0), .int a1])).length) Slot.unset).toArray 2 [(0, .ref (ad0 x0)), (1, .int a1)] := by
    exact lv_entry ([.ref (ad0 x0), .int a1]) (n := 2) (Nat.le_of_ble_eq_true rfl)
  rw [lg_entry_eq]
  generalize (lg_sl ([.ref (ad0 x0), .int a1]) ++ List.replicate (2 - (lg_sl ([.ref (ad0 x0), .int a1])).length) Slot.unset).toArray = ls_ at hl ⊢
  refine wGen (fun Q hQ => ?_)
  obtain ⟨X, hX⟩ : ∃ X, f_Y10_floor S0 x0 a1 = X := ⟨_, rfl⟩
  have B_Y10_floor_13a : ∀ (S : Cst) (ad : Nat → Nat) (x1 : Int32) (y0 : Int32) (H : Heap) (locs : List Loc) (ls_ : Array Slot), b_Y10_floor_13a S x0 x1 y0 = X → q_Y10_floor_13a S x0 lc ls x1 y0 → nH S0 ad0 lc ls S ad → va_P G vwCl (wsC K ad S) H → va_D A (wsC K ad S) → va_S A s.heap H locs → lv_has ls_ 2 [(0, .ref (ad x0)), (1, .int x1)] → W p l e ({ frames := 8, cells := lc - S0.1, slots := ls - S0.2.1, locals := 226 } : Room) s m #[Value.ref (ad0 x0), Value.int a1] below meth c H locs (S.1 - S0.1) (S.2.1 - S0.2.1) Q (F0 m 13 ls_ [.int y0]) := by
    intro S ad x1 y0 H locs ls_ hE hp hZ hP hD hS hl
    unfold b_Y10_floor_13a at hE
    unfold q_Y10_floor_13a at hp
    refine W.widen (k := lc - S0.1) (n := ls - S0.2.1) (show S.1 - S0.1 ≤ lc - S0.1 from Nat.sub_le_sub_right hZ.2.2.1 _) (show S.2.1 - S0.2.1 ≤ ls - S0.2.1 from Nat.sub_le_sub_right hZ.2.2.2 _) ?_
    subst hQ
    exact W.iret (v := y0) hx hb hr (fun t ht hW => ⟨⟨y0, (S, ad), rfl, ⟨hE.trans hX.symm, hZ.1, hZ.2.1⟩, by rw [ht]; exact hP, hD⟩, hS.F ht⟩) hS.2.2 dX10_floor_13
  have B_M : ∀ (S : Cst) (ad : Nat → Nat) (x1 : Int32) (H : Heap) (locs : List Loc) (ls_ : Array Slot), f_Y10_floor S x0 x1 = X → p_Y10_floor S x0 lc ls x1 → nH S0 ad0 lc ls S ad → va_P G vwCl (wsC K ad S) H → va_D A (wsC K ad S) → va_S A s.heap H locs → lv_has ls_ 2 [(0, .ref (ad x0)), (1, .int x1)] → W p l e ({ frames := 8, cells := lc - S0.1, slots := ls - S0.2.1, locals := 226 } : Room) s m #[Value.ref (ad0 x0), Value.int a1] below meth c H locs (S.1 - S0.1) (S.2.1 - S0.2.1) Q (F0 m 0 ls_ []) := by
    intro S ad x1 H locs ls_ hE hp hZ hP hD hS hl
    unfold f_Y10_floor at hE
    unfold p_Y10_floor at hp
    refine lv_aload_n hx hb dX10_floor_0 rfl (lv_at hl 0 rfl) ?_
    refine va_get (D := G) (ci := 7) (v := va_re ad (grC S x0 0)) (C := RX10) (T := TX10) (N := 5) hx hb hts iX10 hown hK hP x0 (at_7 (k_x0.n hZ.1)) rfl 0 (by decide) (hw (.fieldLink RX10 10 "MotionFloor" "now" "LMotionFloor$Assembly;") (List.mem_of_getElem? (i := 0) rfl)) (fun _ h9 => h9) rfl dX10_floor_1 ?_
    refine lv_bipush (v := 7) hx hb dX10_floor_4 (by decide) ?_
    refine lv_iload_n hx hb dX10_floor_6 rfl (lv_at hl 1 rfl) ?_
    refine lv_iconst (v := 0) hx hb dX10_floor_7 (by decide) ?_
    refine lv_iconst (v := 0) hx hb dX10_floor_8 (by decide) ?_
    refine lv_iconst (v := 0) hx hb dX10_floor_9 (by decide) ?_
    obtain ⟨hy1, hp⟩ := hp
    refine cTop6 (r := (grC S x0 0)) hy1.1 ?_
    obtain ⟨hy2, hp⟩ := hp
    obtain ⟨hy3, hp⟩ := hp
    refine cNoi (va_runV (As := [.int 7, .int x1, .int 0, .int 0, .int 0]) (rest := []) ⟨hx, hb, hml, hown, hts⟩ (c_Y0_enact l G K ad S ((grC S x0 0).getD 0) (f_Y0_enact S ((grC S x0 0).getD 0) (7 : Int32) x1 (0 : Int32) (0 : Int32) (0 : Int32)).2.1 (f_Y0_enact S ((grC S x0 0).getD 0) (7 : Int32) x1 (0 : Int32) (0 : Int32) (0 : Int32)).2.2.1 (7 : Int32) x1 (0 : Int32) (0 : Int32) (0 : Int32) _) (cwV 5 hts (wGV t_ (mw (.methodLink RX10 32 yX0_enact) (List.mem_of_getElem? (i := 1) rfl)) (mw (.instanceMethod yX0_enact) (List.mem_of_getElem? (i := 2) rfl)) (mw (.selects RX0 yX0_enact yX0_enact) (List.mem_of_getElem? (i := 3) rfl)) (mw (.initialized RX0) (List.mem_of_getElem? (i := 4) rfl)) j_Y0_enact) rfl rfl rfl (by decide +kernel) ⟨Nat.le_of_ble_eq_true rfl, Nat.le_of_ble_eq_true rfl⟩) (cPV hK hTE hP hD 0 rfl (at_0 hy1.2) ⟨⟨hy2.1.1, hy2.2.1⟩, hy1.2, hy3⟩) rfl rfl hl.1 rfl (lv_room (Nat.le_of_ble_eq_true rfl)) dX10_floor_10 ⟨by show _ ≤ lc - S0.1; have := hZ.1.1.1; have := hy2.1; omega, by show _ ≤ ls - S0.2.1; have := hZ.1.1.2; have := hy2.2; omega⟩) hP hD hS hA (fun r5 u4 H locs hv hP hD hS => ?_)
    obtain ⟨hv, hz, ha⟩ := hv
    have e1 : (f_Y0_enact S ((grC S x0 0).getD 0) (7 : Int32) x1 (0 : Int32) (0 : Int32) (0 : Int32)).2.1 = u4.1.1 := by rw [← hv]
    have e2 : (f_Y0_enact S ((grC S x0 0).getD 0) (7 : Int32) x1 (0 : Int32) (0 : Int32) (0 : Int32)).2.2.1 = u4.1.2.1 := by rw [← hv]
    refine cCells (cells' := u4.1.1 - S0.1) (slots' := u4.1.2.1 - S0.2.1) (by have := hZ.1.1.1; have := hy2.1; omega) (by have := hZ.1.1.2; have := hy2.2; omega) ?_
    rw [← ha x0 (k_x0.n hZ.1).1] at hl
    have hZ := hZ.n hz ha (by rw [← e1]; exact hy2.1.2) (by rw [← e2]; exact hy2.2.2)
    rw [← hv] at hE hp
    dsimp only at hE hp
    exact B_Y10_floor_13a u4.1 u4.2 x1 r5 _ _ _ hE hp hZ hP hD hS (lv_sub hl [0, 1] rfl)
  exact cCells (Nat.sub_self _).symm (Nat.sub_self _).symm (B_M S0 ad0 a1 _ _ _ hX hp (nH.rf S0 ad0 k_l) hP hD hS hl)
theorem gdX10_cede_0 : ckS (List.drop 0 cX10_cede.data.toList) 0 [(0, .aload_n 0, 1), (1, .getfield 10, 3), (4, .bipush 8, 2), (6, .iconst 0, 1), (7, .iconst 0, 1), (8, .iconst 0, 1), (9, .iconst 0, 1), (10, .invokevirtual 32, 3), (13, .ireturn, 1)] = true := by decide +kernel
theorem dX10_cede_0 : decode cX10_cede 0 = .ok (.aload_n 0, 1) := ckS_g gdX10_cede_0 0 rfl
theorem dX10_cede_1 : decode cX10_cede 1 = .ok (.getfield 10, 3) := ckS_g gdX10_cede_0 1 rfl
theorem dX10_cede_4 : decode cX10_cede 4 = .ok (.bipush 8, 2) := ckS_g gdX10_cede_0 2 rfl
theorem dX10_cede_6 : decode cX10_cede 6 = .ok (.iconst 0, 1) := ckS_g gdX10_cede_0 3 rfl
theorem dX10_cede_7 : decode cX10_cede 7 = .ok (.iconst 0, 1) := ckS_g gdX10_cede_0 4 rfl
theorem dX10_cede_8 : decode cX10_cede 8 = .ok (.iconst 0, 1) := ckS_g gdX10_cede_0 5 rfl
theorem dX10_cede_9 : decode cX10_cede 9 = .ok (.iconst 0, 1) := ckS_g gdX10_cede_0 6 rfl
theorem dX10_cede_10 : decode cX10_cede 10 = .ok (.invokevirtual 32, 3) := ckS_g gdX10_cede_0 7 rfl
theorem dX10_cede_13 : decode cX10_cede 13 = .ok (.ireturn, 1) := ckS_g gdX10_cede_0 8 rfl
set_option maxRecDepth 100000 in
theorem zc701 : wZ (.code yX10_cede cX10_cede 1 (some .int)) := ⟨wT4 (List.mem_of_getElem? (i := 55) rfl), Or.inl rfl⟩
def b_Y10_cede_13a (S : Cst) (x0 : Nat) (y0 : Int32) : Int32 × Cst := (y0, S)
def q_Y10_cede_13a (S : Cst) (x0 : Nat) (lc : Nat) (ls : Nat) (y0 : Int32) : Prop := True
def f_Y10_cede (S : Cst) (x0 : Nat) : Int32 × Cst := (b_Y10_cede_13a ((f_Y0_enact S ((grC S x0 0).getD 0) (8 : Int32) (0 : Int32) (0 : Int32) (0 : Int32) (0 : Int32)).2) x0 ((f_Y0_enact S ((grC S x0 0).getD 0) (8 : Int32) (0 : Int32) (0 : Int32) (0 : Int32) (0 : Int32)).1))
def p_Y10_cede (S : Cst) (x0 : Nat) (lc : Nat) (ls : Nat) : Prop := (iR S (grC S x0 0) 0) ∧ ((S.1 ≤ (f_Y0_enact S ((grC S x0 0).getD 0) (8 : Int32) (0 : Int32) (0 : Int32) (0 : Int32) (0 : Int32)).2.1 ∧ (f_Y0_enact S ((grC S x0 0).getD 0) (8 : Int32) (0 : Int32) (0 : Int32) (0 : Int32) (0 : Int32)).2.1 ≤ lc) ∧ (S.2.1 ≤ (f_Y0_enact S ((grC S x0 0).getD 0) (8 : Int32) (0 : Int32) (0 : Int32) (0 : Int32) (0 : Int32)).2.2.1 ∧ (f_Y0_enact S ((grC S x0 0).getD 0) (8 : Int32) (0 : Int32) (0 : Int32) (0 : Int32) (0 : Int32)).2.2.1 ≤ ls)) ∧ (p_Y0_enact S ((grC S x0 0).getD 0) (f_Y0_enact S ((grC S x0 0).getD 0) (8 : Int32) (0 : Int32) (0 : Int32) (0 : Int32) (0 : Int32)).2.1 (f_Y0_enact S ((grC S x0 0).getD 0) (8 : Int32) (0 : Int32) (0 : Int32) (0 : Int32) (0 : Int32)).2.2.1 (8 : Int32) (0 : Int32) (0 : Int32) (0 : Int32) (0 : Int32)) ∧ (q_Y10_cede_13a ((f_Y0_enact S ((grC S x0 0).getD 0) (8 : Int32) (0 : Int32) (0 : Int32) (0 : Int32) (0 : Int32)).2) x0 lc ls ((f_Y0_enact S ((grC S x0 0).getD 0) (8 : Int32) (0 : Int32) (0 : Int32) (0 : Int32) (0 : Int32)).1))
def e_Y10_cede : List Cond := [.fieldLink RX10 10 "MotionFloor" "now" "LMotionFloor$Assembly;", .methodLink RX10 32 yX0_enact, .instanceMethod yX0_enact, .selects RX0 yX0_enact yX0_enact, .initialized RX0]
def v_Y10_cede : List Cond := .code yX10_cede cX10_cede 1 (some .int) :: (e_Y10_cede ++ (wsX100 ++ (v_Y0_enact ++ [])))
theorem te_Y10_cede : GoodIn lw_tbl e_Y10_cede := wGc zc496 (wGc zc693 (wGc zc692 (wGc zc691 (wGc zc39 (wG0)))))
theorem t_Y10_cede : GoodIn lw_tbl v_Y10_cede := wGc zc701 (wGa te_Y10_cede (wGa zcX10 (wGa t_Y0_enact (wG0))))
set_option maxHeartbeats 4000000 in
set_option maxRecDepth 100000 in
theorem c_Y10_cede (l : Launch) (G : va_G) (K : Nat → ClassId) (ad0 : Nat → Nat) (S0 : Cst) (x0 : Nat) (lc : Nat) (ls : Nat)  (sz : Nat) : Met l yX10_cede v_Y10_cede ({ frames := 8, cells := lc - S0.1, slots := ls - S0.2.1, locals := 226 }) (va_Pc [.ref (ad0 x0)] (cSt G K ad0 sz S0 ((S0.1 ≤ lc ∧ S0.2.1 ≤ ls) ∧ iK S0 x0 7 ∧ p_Y10_cede S0 x0 lc ls))) (va_Qi (fun (r : Int32) (u : Cst × (Nat → Nat)) => (r, u.1) = f_Y10_cede S0 x0 ∧ eN S0 u.1 ∧ (∀ q, q < S0.1 → u.2 q = ad0 q)) (fun u t => cBt G K u.2 (va_A (wsC K ad0 S0) sz) u.1 t) (va_A (wsC K ad0 S0) sz)) (lc - S0.1) (ls - S0.2.1) (va_A (wsC K ad0 S0) sz) := by
  refine Met.ofW (cc := cX10_cede) (maxL := 1) (ret := (some .int)) (by decide) rfl ?_
  intro p e s m args below meth c s₁ B hml hv
  obtain ⟨rfl, ⟨hsz, hP, hK, hD0, hTE⟩, hp⟩ := hv
  obtain ⟨k_l, hp⟩ := hp
  obtain ⟨k_x0, hp⟩ := hp
  have hx := B.exec
  have hb := B.bytes
  have hr := B.returns
  have hts := atoms_spec (ws := v_Y10_cede) B.pre
  have t_ := t_Y10_cede
  have mw : ∀ w ∈ e_Y10_cede, w ∈ v_Y10_cede := fun w h => List.mem_cons_of_mem _ (List.mem_append_left _ h)
  have hw := fun w (h : w ∈ e_Y10_cede) => hts w (mw w h)
  have iX10 : ∀ w ∈ wsX100, w ∈ v_Y10_cede := fun w h => List.mem_cons_of_mem _ (List.mem_append_right _ (List.mem_append_left _ h))
  have j_Y0_enact : ∀ w ∈ v_Y0_enact, w ∈ v_Y10_cede := fun w h => List.mem_cons_of_mem _ (List.mem_append_right _ (List.mem_append_right _ (List.mem_append_left _ h)))
  have hown : s.vm.findClass RX10 = some m.cls := findClass_of_methodNamed B.named
  have hlocks := B.notSynchronized
  subst hsz
  have hD := hD0.self (sz := s.heap.size)
  generalize hAe : va_A (wsC K ad0 S0) s.heap.size = A at hD ⊢
  have hA : ∀ q : Nat, s.heap.size ≤ q → A q := fun q h => by rw [← hAe]; exact Or.inr h
  have hS : va_S A s.heap s.heap [] := va_S.rf
  have hl : lv_has (lg_sl ([.ref (ad0 x0)]) ++ List.replicate (1 - (lg_sl ([.ref (ad0 x0)])).length) Slot.unset).toArray 1 [(0, .ref (ad0 x0))] := by
    exact lv_entry ([.ref (ad0 x0)]) (n := 1) (Nat.le_of_ble_eq_true rfl)
  rw [lg_entry_eq]
  generalize (lg_sl ([.ref (ad0 x0)]) ++ List.replicate (1 - (lg_sl ([.ref (ad0 x0)])).length) Slot.unset).toArray = ls_ at hl ⊢
  refine wGen (fun Q hQ => ?_)
  obtain ⟨X, hX⟩ : ∃ X, f_Y10_cede S0 x0 = X := ⟨_, rfl⟩
  have B_Y10_cede_13a : ∀ (S : Cst) (ad : Nat → Nat) (y0 : Int32) (H : Heap) (locs : List Loc) (ls_ : Array Slot), b_Y10_cede_13a S x0 y0 = X → q_Y10_cede_13a S x0 lc ls y0 → nH S0 ad0 lc ls S ad → va_P G vwCl (wsC K ad S) H → va_D A (wsC K ad S) → va_S A s.heap H locs → lv_has ls_ 1 [(0, .ref (ad x0))] → W p l e ({ frames := 8, cells := lc - S0.1, slots := ls - S0.2.1, locals := 226 } : Room) s m #[Value.ref (ad0 x0)] below meth c H locs (S.1 - S0.1) (S.2.1 - S0.2.1) Q (F0 m 13 ls_ [.int y0]) := by
    intro S ad y0 H locs ls_ hE hp hZ hP hD hS hl
    unfold b_Y10_cede_13a at hE
    unfold q_Y10_cede_13a at hp
    refine W.widen (k := lc - S0.1) (n := ls - S0.2.1) (show S.1 - S0.1 ≤ lc - S0.1 from Nat.sub_le_sub_right hZ.2.2.1 _) (show S.2.1 - S0.2.1 ≤ ls - S0.2.1 from Nat.sub_le_sub_right hZ.2.2.2 _) ?_
    subst hQ
    exact W.iret (v := y0) hx hb hr (fun t ht hW => ⟨⟨y0, (S, ad), rfl, ⟨hE.trans hX.symm, hZ.1, hZ.2.1⟩, by rw [ht]; exact hP, hD⟩, hS.F ht⟩) hS.2.2 dX10_cede_13
  have B_M : ∀ (S : Cst) (ad : Nat → Nat) (H : Heap) (locs : List Loc) (ls_ : Array Slot), f_Y10_cede S x0 = X → p_Y10_cede S x0 lc ls → nH S0 ad0 lc ls S ad → va_P G vwCl (wsC K ad S) H → va_D A (wsC K ad S) → va_S A s.heap H locs → lv_has ls_ 1 [(0, .ref (ad x0))] → W p l e ({ frames := 8, cells := lc - S0.1, slots := ls - S0.2.1, locals := 226 } : Room) s m #[Value.ref (ad0 x0)] below meth c H locs (S.1 - S0.1) (S.2.1 - S0.2.1) Q (F0 m 0 ls_ []) := by
    intro S ad H locs ls_ hE hp hZ hP hD hS hl
    unfold f_Y10_cede at hE
    unfold p_Y10_cede at hp
    refine lv_aload_n hx hb dX10_cede_0 rfl (lv_at hl 0 rfl) ?_
    refine va_get (D := G) (ci := 7) (v := va_re ad (grC S x0 0)) (C := RX10) (T := TX10) (N := 5) hx hb hts iX10 hown hK hP x0 (at_7 (k_x0.n hZ.1)) rfl 0 (by decide) (hw (.fieldLink RX10 10 "MotionFloor" "now" "LMotionFloor$Assembly;") (List.mem_of_getElem? (i := 0) rfl)) (fun _ h9 => h9) rfl dX10_cede_1 ?_
    refine lv_bipush (v := 8) hx hb dX10_cede_4 (by decide) ?_
    refine lv_iconst (v := 0) hx hb dX10_cede_6 (by decide) ?_
    refine lv_iconst (v := 0) hx hb dX10_cede_7 (by decide) ?_
    refine lv_iconst (v := 0) hx hb dX10_cede_8 (by decide) ?_
    refine lv_iconst (v := 0) hx hb dX10_cede_9 (by decide) ?_
    obtain ⟨hy1, hp⟩ := hp
    refine cTop6 (r := (grC S x0 0)) hy1.1 ?_
    obtain ⟨hy2, hp⟩ := hp
    obtain ⟨hy3, hp⟩ := hp
    refine cNoi (va_runV (As := [.int 8, .int 0, .int 0, .int 0, .int 0]) (rest := []) ⟨hx, hb, hml, hown, hts⟩ (c_Y0_enact l G K ad S ((grC S x0 0).getD 0) (f_Y0_enact S ((grC S x0 0).getD 0) (8 : Int32) (0 : Int32) (0 : Int32) (0 : Int32) (0 : Int32)).2.1 (f_Y0_enact S ((grC S x0 0).getD 0) (8 : Int32) (0 : Int32) (0 : Int32) (0 : Int32) (0 : Int32)).2.2.1 (8 : Int32) (0 : Int32) (0 : Int32) (0 : Int32) (0 : Int32) _) (cwV 5 hts (wGV t_ (mw (.methodLink RX10 32 yX0_enact) (List.mem_of_getElem? (i := 1) rfl)) (mw (.instanceMethod yX0_enact) (List.mem_of_getElem? (i := 2) rfl)) (mw (.selects RX0 yX0_enact yX0_enact) (List.mem_of_getElem? (i := 3) rfl)) (mw (.initialized RX0) (List.mem_of_getElem? (i := 4) rfl)) j_Y0_enact) rfl rfl rfl (by decide +kernel) ⟨Nat.le_of_ble_eq_true rfl, Nat.le_of_ble_eq_true rfl⟩) (cPV hK hTE hP hD 0 rfl (at_0 hy1.2) ⟨⟨hy2.1.1, hy2.2.1⟩, hy1.2, hy3⟩) rfl rfl hl.1 rfl (lv_room (Nat.le_of_ble_eq_true rfl)) dX10_cede_10 ⟨by show _ ≤ lc - S0.1; have := hZ.1.1.1; have := hy2.1; omega, by show _ ≤ ls - S0.2.1; have := hZ.1.1.2; have := hy2.2; omega⟩) hP hD hS hA (fun r5 u4 H locs hv hP hD hS => ?_)
    obtain ⟨hv, hz, ha⟩ := hv
    have e1 : (f_Y0_enact S ((grC S x0 0).getD 0) (8 : Int32) (0 : Int32) (0 : Int32) (0 : Int32) (0 : Int32)).2.1 = u4.1.1 := by rw [← hv]
    have e2 : (f_Y0_enact S ((grC S x0 0).getD 0) (8 : Int32) (0 : Int32) (0 : Int32) (0 : Int32) (0 : Int32)).2.2.1 = u4.1.2.1 := by rw [← hv]
    refine cCells (cells' := u4.1.1 - S0.1) (slots' := u4.1.2.1 - S0.2.1) (by have := hZ.1.1.1; have := hy2.1; omega) (by have := hZ.1.1.2; have := hy2.2; omega) ?_
    rw [← ha x0 (k_x0.n hZ.1).1] at hl
    have hZ := hZ.n hz ha (by rw [← e1]; exact hy2.1.2) (by rw [← e2]; exact hy2.2.2)
    rw [← hv] at hE hp
    dsimp only at hE hp
    exact B_Y10_cede_13a u4.1 u4.2 r5 _ _ _ hE hp hZ hP hD hS (lv_sub hl [0] rfl)
  exact cCells (Nat.sub_self _).symm (Nat.sub_self _).symm (B_M S0 ad0 _ _ _ hX hp (nH.rf S0 ad0 k_l) hP hD hS hl)
theorem gdX10_debate_0 : ckS (List.drop 0 cX10_debate.data.toList) 0 [(0, .aload_n 0, 1), (1, .getfield 10, 3), (4, .bipush 9, 2), (6, .iload_n 1, 1), (7, .iconst 0, 1), (8, .iconst 0, 1), (9, .iconst 0, 1), (10, .invokevirtual 32, 3), (13, .ireturn, 1)] = true := by decide +kernel
theorem dX10_debate_0 : decode cX10_debate 0 = .ok (.aload_n 0, 1) := ckS_g gdX10_debate_0 0 rfl
theorem dX10_debate_1 : decode cX10_debate 1 = .ok (.getfield 10, 3) := ckS_g gdX10_debate_0 1 rfl
theorem dX10_debate_4 : decode cX10_debate 4 = .ok (.bipush 9, 2) := ckS_g gdX10_debate_0 2 rfl
theorem dX10_debate_6 : decode cX10_debate 6 = .ok (.iload_n 1, 1) := ckS_g gdX10_debate_0 3 rfl
theorem dX10_debate_7 : decode cX10_debate 7 = .ok (.iconst 0, 1) := ckS_g gdX10_debate_0 4 rfl
theorem dX10_debate_8 : decode cX10_debate 8 = .ok (.iconst 0, 1) := ckS_g gdX10_debate_0 5 rfl
theorem dX10_debate_9 : decode cX10_debate 9 = .ok (.iconst 0, 1) := ckS_g gdX10_debate_0 6 rfl
theorem dX10_debate_10 : decode cX10_debate 10 = .ok (.invokevirtual 32, 3) := ckS_g gdX10_debate_0 7 rfl
theorem dX10_debate_13 : decode cX10_debate 13 = .ok (.ireturn, 1) := ckS_g gdX10_debate_0 8 rfl
set_option maxRecDepth 100000 in
theorem zc702 : wZ (.code yX10_debate cX10_debate 2 (some .int)) := ⟨wT4 (List.mem_of_getElem? (i := 59) rfl), Or.inl rfl⟩
def b_Y10_debate_13a (S : Cst) (x0 : Nat) (x1 : Int32) (y0 : Int32) : Int32 × Cst := (y0, S)
def q_Y10_debate_13a (S : Cst) (x0 : Nat) (lc : Nat) (ls : Nat) (x1 : Int32) (y0 : Int32) : Prop := True
def f_Y10_debate (S : Cst) (x0 : Nat) (x1 : Int32) : Int32 × Cst := (b_Y10_debate_13a ((f_Y0_enact S ((grC S x0 0).getD 0) (9 : Int32) x1 (0 : Int32) (0 : Int32) (0 : Int32)).2) x0 x1 ((f_Y0_enact S ((grC S x0 0).getD 0) (9 : Int32) x1 (0 : Int32) (0 : Int32) (0 : Int32)).1))
def p_Y10_debate (S : Cst) (x0 : Nat) (lc : Nat) (ls : Nat) (x1 : Int32) : Prop := (iR S (grC S x0 0) 0) ∧ ((S.1 ≤ (f_Y0_enact S ((grC S x0 0).getD 0) (9 : Int32) x1 (0 : Int32) (0 : Int32) (0 : Int32)).2.1 ∧ (f_Y0_enact S ((grC S x0 0).getD 0) (9 : Int32) x1 (0 : Int32) (0 : Int32) (0 : Int32)).2.1 ≤ lc) ∧ (S.2.1 ≤ (f_Y0_enact S ((grC S x0 0).getD 0) (9 : Int32) x1 (0 : Int32) (0 : Int32) (0 : Int32)).2.2.1 ∧ (f_Y0_enact S ((grC S x0 0).getD 0) (9 : Int32) x1 (0 : Int32) (0 : Int32) (0 : Int32)).2.2.1 ≤ ls)) ∧ (p_Y0_enact S ((grC S x0 0).getD 0) (f_Y0_enact S ((grC S x0 0).getD 0) (9 : Int32) x1 (0 : Int32) (0 : Int32) (0 : Int32)).2.1 (f_Y0_enact S ((grC S x0 0).getD 0) (9 : Int32) x1 (0 : Int32) (0 : Int32) (0 : Int32)).2.2.1 (9 : Int32) x1 (0 : Int32) (0 : Int32) (0 : Int32)) ∧ (q_Y10_debate_13a ((f_Y0_enact S ((grC S x0 0).getD 0) (9 : Int32) x1 (0 : Int32) (0 : Int32) (0 : Int32)).2) x0 lc ls x1 ((f_Y0_enact S ((grC S x0 0).getD 0) (9 : Int32) x1 (0 : Int32) (0 : Int32) (0 : Int32)).1))
def e_Y10_debate : List Cond := [.fieldLink RX10 10 "MotionFloor" "now" "LMotionFloor$Assembly;", .methodLink RX10 32 yX0_enact, .instanceMethod yX0_enact, .selects RX0 yX0_enact yX0_enact, .initialized RX0]
def v_Y10_debate : List Cond := .code yX10_debate cX10_debate 2 (some .int) :: (e_Y10_debate ++ (wsX100 ++ (v_Y0_enact ++ [])))
theorem te_Y10_debate : GoodIn lw_tbl e_Y10_debate := wGc zc496 (wGc zc693 (wGc zc692 (wGc zc691 (wGc zc39 (wG0)))))
theorem t_Y10_debate : GoodIn lw_tbl v_Y10_debate := wGc zc702 (wGa te_Y10_debate (wGa zcX10 (wGa t_Y0_enact (wG0))))
set_option maxHeartbeats 4000000 in
set_option maxRecDepth 100000 in
theorem c_Y10_debate (l : Launch) (G : va_G) (K : Nat → ClassId) (ad0 : Nat → Nat) (S0 : Cst) (x0 : Nat) (lc : Nat) (ls : Nat) (a1 : Int32) (sz : Nat) : Met l yX10_debate v_Y10_debate ({ frames := 8, cells := lc - S0.1, slots := ls - S0.2.1, locals := 226 }) (va_Pc [.ref (ad0 x0), .int a1] (cSt G K ad0 sz S0 ((S0.1 ≤ lc ∧ S0.2.1 ≤ ls) ∧ iK S0 x0 7 ∧ p_Y10_debate S0 x0 lc ls a1))) (va_Qi (fun (r : Int32) (u : Cst × (Nat → Nat)) => (r, u.1) = f_Y10_debate S0 x0 a1 ∧ eN S0 u.1 ∧ (∀ q, q < S0.1 → u.2 q = ad0 q)) (fun u t => cBt G K u.2 (va_A (wsC K ad0 S0) sz) u.1 t) (va_A (wsC K ad0 S0) sz)) (lc - S0.1) (ls - S0.2.1) (va_A (wsC K ad0 S0) sz) := by
  refine Met.ofW (cc := cX10_debate) (maxL := 2) (ret := (some .int)) (by decide) rfl ?_
  intro p e s m args below meth c s₁ B hml hv
  obtain ⟨rfl, ⟨hsz, hP, hK, hD0, hTE⟩, hp⟩ := hv
  obtain ⟨k_l, hp⟩ := hp
  obtain ⟨k_x0, hp⟩ := hp
  have hx := B.exec
  have hb := B.bytes
  have hr := B.returns
  have hts := atoms_spec (ws := v_Y10_debate) B.pre
  have t_ := t_Y10_debate
  have mw : ∀ w ∈ e_Y10_debate, w ∈ v_Y10_debate := fun w h => List.mem_cons_of_mem _ (List.mem_append_left _ h)
  have hw := fun w (h : w ∈ e_Y10_debate) => hts w (mw w h)
  have iX10 : ∀ w ∈ wsX100, w ∈ v_Y10_debate := fun w h => List.mem_cons_of_mem _ (List.mem_append_right _ (List.mem_append_left _ h))
  have j_Y0_enact : ∀ w ∈ v_Y0_enact, w ∈ v_Y10_debate := fun w h => List.mem_cons_of_mem _ (List.mem_append_right _ (List.mem_append_right _ (List.mem_append_left _ h)))
  have hown : s.vm.findClass RX10 = some m.cls := findClass_of_methodNamed B.named
  have hlocks := B.notSynchronized
  subst hsz
  have hD := hD0.self (sz := s.heap.size)
  generalize hAe : va_A (wsC K ad0 S0) s.heap.size = A at hD ⊢
  have hA : ∀ q : Nat, s.heap.size ≤ q → A q := fun q h => by rw [← hAe]; exact Or.inr h
  have hS : va_S A s.heap s.heap [] := va_S.rf
  have hl : lv_has (lg_sl ([.ref (ad0 x0), .int a1]) ++ List.replicate (2 - (lg_sl ([.ref (ad0 x0), .int a1])).length) Slot.unset).toArray 2 [(0, .ref (ad0 x0)), (1, .int a1)] := by
    exact lv_entry ([.ref (ad0 x0), .int a1]) (n := 2) (Nat.le_of_ble_eq_true rfl)
  rw [lg_entry_eq]
  generalize (lg_sl ([.ref (ad0 x0), .int a1]) ++ List.replicate (2 - (lg_sl ([.ref (ad0 x0), .int a1])).length) Slot.unset).toArray = ls_ at hl ⊢
  refine wGen (fun Q hQ => ?_)
  obtain ⟨X, hX⟩ : ∃ X, f_Y10_debate S0 x0 a1 = X := ⟨_, rfl⟩
  have B_Y10_debate_13a : ∀ (S : Cst) (ad : Nat → Nat) (x1 : Int32) (y0 : Int32) (H : Heap) (locs : List Loc) (ls_ : Array Slot), b_Y10_debate_13a S x0 x1 y0 = X → q_Y10_debate_13a S x0 lc ls x1 y0 → nH S0 ad0 lc ls S ad → va_P G vwCl (wsC K ad S) H → va_D A (wsC K ad S) → va_S A s.heap H locs → lv_has ls_ 2 [(0, .ref (ad x0)), (1, .int x1)] → W p l e ({ frames := 8, cells := lc - S0.1, slots := ls - S0.2.1, locals := 226 } : Room) s m #[Value.ref (ad0 x0), Value.int a1] below meth c H locs (S.1 - S0.1) (S.2.1 - S0.2.1) Q (F0 m 13 ls_ [.int y0]) := by
    intro S ad x1 y0 H locs ls_ hE hp hZ hP hD hS hl
    unfold b_Y10_debate_13a at hE
    unfold q_Y10_debate_13a at hp
    refine W.widen (k := lc - S0.1) (n := ls - S0.2.1) (show S.1 - S0.1 ≤ lc - S0.1 from Nat.sub_le_sub_right hZ.2.2.1 _) (show S.2.1 - S0.2.1 ≤ ls - S0.2.1 from Nat.sub_le_sub_right hZ.2.2.2 _) ?_
    subst hQ
    exact W.iret (v := y0) hx hb hr (fun t ht hW => ⟨⟨y0, (S, ad), rfl, ⟨hE.trans hX.symm, hZ.1, hZ.2.1⟩, by rw [ht]; exact hP, hD⟩, hS.F ht⟩) hS.2.2 dX10_debate_13
  have B_M : ∀ (S : Cst) (ad : Nat → Nat) (x1 : Int32) (H : Heap) (locs : List Loc) (ls_ : Array Slot), f_Y10_debate S x0 x1 = X → p_Y10_debate S x0 lc ls x1 → nH S0 ad0 lc ls S ad → va_P G vwCl (wsC K ad S) H → va_D A (wsC K ad S) → va_S A s.heap H locs → lv_has ls_ 2 [(0, .ref (ad x0)), (1, .int x1)] → W p l e ({ frames := 8, cells := lc - S0.1, slots := ls - S0.2.1, locals := 226 } : Room) s m #[Value.ref (ad0 x0), Value.int a1] below meth c H locs (S.1 - S0.1) (S.2.1 - S0.2.1) Q (F0 m 0 ls_ []) := by
    intro S ad x1 H locs ls_ hE hp hZ hP hD hS hl
    unfold f_Y10_debate at hE
    unfold p_Y10_debate at hp
    refine lv_aload_n hx hb dX10_debate_0 rfl (lv_at hl 0 rfl) ?_
    refine va_get (D := G) (ci := 7) (v := va_re ad (grC S x0 0)) (C := RX10) (T := TX10) (N := 5) hx hb hts iX10 hown hK hP x0 (at_7 (k_x0.n hZ.1)) rfl 0 (by decide) (hw (.fieldLink RX10 10 "MotionFloor" "now" "LMotionFloor$Assembly;") (List.mem_of_getElem? (i := 0) rfl)) (fun _ h9 => h9) rfl dX10_debate_1 ?_
    refine lv_bipush (v := 9) hx hb dX10_debate_4 (by decide) ?_
    refine lv_iload_n hx hb dX10_debate_6 rfl (lv_at hl 1 rfl) ?_
    refine lv_iconst (v := 0) hx hb dX10_debate_7 (by decide) ?_
    refine lv_iconst (v := 0) hx hb dX10_debate_8 (by decide) ?_
    refine lv_iconst (v := 0) hx hb dX10_debate_9 (by decide) ?_
    obtain ⟨hy1, hp⟩ := hp
    refine cTop6 (r := (grC S x0 0)) hy1.1 ?_
    obtain ⟨hy2, hp⟩ := hp
    obtain ⟨hy3, hp⟩ := hp
    refine cNoi (va_runV (As := [.int 9, .int x1, .int 0, .int 0, .int 0]) (rest := []) ⟨hx, hb, hml, hown, hts⟩ (c_Y0_enact l G K ad S ((grC S x0 0).getD 0) (f_Y0_enact S ((grC S x0 0).getD 0) (9 : Int32) x1 (0 : Int32) (0 : Int32) (0 : Int32)).2.1 (f_Y0_enact S ((grC S x0 0).getD 0) (9 : Int32) x1 (0 : Int32) (0 : Int32) (0 : Int32)).2.2.1 (9 : Int32) x1 (0 : Int32) (0 : Int32) (0 : Int32) _) (cwV 5 hts (wGV t_ (mw (.methodLink RX10 32 yX0_enact) (List.mem_of_getElem? (i := 1) rfl)) (mw (.instanceMethod yX0_enact) (List.mem_of_getElem? (i := 2) rfl)) (mw (.selects RX0 yX0_enact yX0_enact) (List.mem_of_getElem? (i := 3) rfl)) (mw (.initialized RX0) (List.mem_of_getElem? (i := 4) rfl)) j_Y0_enact) rfl rfl rfl (by decide +kernel) ⟨Nat.le_of_ble_eq_true rfl, Nat.le_of_ble_eq_true rfl⟩) (cPV hK hTE hP hD 0 rfl (at_0 hy1.2) ⟨⟨hy2.1.1, hy2.2.1⟩, hy1.2, hy3⟩) rfl rfl hl.1 rfl (lv_room (Nat.le_of_ble_eq_true rfl)) dX10_debate_10 ⟨by show _ ≤ lc - S0.1; have := hZ.1.1.1; have := hy2.1; omega, by show _ ≤ ls - S0.2.1; have := hZ.1.1.2; have := hy2.2; omega⟩) hP hD hS hA (fun r5 u4 H locs hv hP hD hS => ?_)
    obtain ⟨hv, hz, ha⟩ := hv
    have e1 : (f_Y0_enact S ((grC S x0 0).getD 0) (9 : Int32) x1 (0 : Int32) (0 : Int32) (0 : Int32)).2.1 = u4.1.1 := by rw [← hv]
    have e2 : (f_Y0_enact S ((grC S x0 0).getD 0) (9 : Int32) x1 (0 : Int32) (0 : Int32) (0 : Int32)).2.2.1 = u4.1.2.1 := by rw [← hv]
    refine cCells (cells' := u4.1.1 - S0.1) (slots' := u4.1.2.1 - S0.2.1) (by have := hZ.1.1.1; have := hy2.1; omega) (by have := hZ.1.1.2; have := hy2.2; omega) ?_
    rw [← ha x0 (k_x0.n hZ.1).1] at hl
    have hZ := hZ.n hz ha (by rw [← e1]; exact hy2.1.2) (by rw [← e2]; exact hy2.2.2)
    rw [← hv] at hE hp
    dsimp only at hE hp
    exact B_Y10_debate_13a u4.1 u4.2 x1 r5 _ _ _ hE hp hZ hP hD hS (lv_sub hl [0, 1] rfl)
  exact cCells (Nat.sub_self _).symm (Nat.sub_self _).symm (B_M S0 ad0 a1 _ _ _ hX hp (nH.rf S0 ad0 k_l) hP hD hS hl)
theorem gdX10_draft_0 : ckS (List.drop 0 cX10_draft.data.toList) 0 [(0, .aload_n 0, 1), (1, .getfield 10, 3), (4, .bipush 10, 2), (6, .iload_n 1, 1), (7, .iconst 0, 1), (8, .iconst 0, 1), (9, .iconst 0, 1), (10, .invokevirtual 32, 3), (13, .ireturn, 1)] = true := by decide +kernel
theorem dX10_draft_0 : decode cX10_draft 0 = .ok (.aload_n 0, 1) := ckS_g gdX10_draft_0 0 rfl
theorem dX10_draft_1 : decode cX10_draft 1 = .ok (.getfield 10, 3) := ckS_g gdX10_draft_0 1 rfl
theorem dX10_draft_4 : decode cX10_draft 4 = .ok (.bipush 10, 2) := ckS_g gdX10_draft_0 2 rfl
theorem dX10_draft_6 : decode cX10_draft 6 = .ok (.iload_n 1, 1) := ckS_g gdX10_draft_0 3 rfl
theorem dX10_draft_7 : decode cX10_draft 7 = .ok (.iconst 0, 1) := ckS_g gdX10_draft_0 4 rfl
theorem dX10_draft_8 : decode cX10_draft 8 = .ok (.iconst 0, 1) := ckS_g gdX10_draft_0 5 rfl
theorem dX10_draft_9 : decode cX10_draft 9 = .ok (.iconst 0, 1) := ckS_g gdX10_draft_0 6 rfl
theorem dX10_draft_10 : decode cX10_draft 10 = .ok (.invokevirtual 32, 3) := ckS_g gdX10_draft_0 7 rfl
theorem dX10_draft_13 : decode cX10_draft 13 = .ok (.ireturn, 1) := ckS_g gdX10_draft_0 8 rfl
set_option maxRecDepth 100000 in
theorem zc703 : wZ (.code yX10_draft cX10_draft 2 (some .int)) := ⟨wT4 (List.mem_of_getElem? (i := 63) rfl), Or.inl rfl⟩
def b_Y10_draft_13a (S : Cst) (x0 : Nat) (x1 : Int32) (y0 : Int32) : Int32 × Cst := (y0, S)
def q_Y10_draft_13a (S : Cst) (x0 : Nat) (lc : Nat) (ls : Nat) (x1 : Int32) (y0 : Int32) : Prop := True
def f_Y10_draft (S : Cst) (x0 : Nat) (x1 : Int32) : Int32 × Cst := (b_Y10_draft_13a ((f_Y0_enact S ((grC S x0 0).getD 0) (10 : Int32) x1 (0 : Int32) (0 : Int32) (0 : Int32)).2) x0 x1 ((f_Y0_enact S ((grC S x0 0).getD 0) (10 : Int32) x1 (0 : Int32) (0 : Int32) (0 : Int32)).1))
def p_Y10_draft (S : Cst) (x0 : Nat) (lc : Nat) (ls : Nat) (x1 : Int32) : Prop := (iR S (grC S x0 0) 0) ∧ ((S.1 ≤ (f_Y0_enact S ((grC S x0 0).getD 0) (10 : Int32) x1 (0 : Int32) (0 : Int32) (0 : Int32)).2.1 ∧ (f_Y0_enact S ((grC S x0 0).getD 0) (10 : Int32) x1 (0 : Int32) (0 : Int32) (0 : Int32)).2.1 ≤ lc) ∧ (S.2.1 ≤ (f_Y0_enact S ((grC S x0 0).getD 0) (10 : Int32) x1 (0 : Int32) (0 : Int32) (0 : Int32)).2.2.1 ∧ (f_Y0_enact S ((grC S x0 0).getD 0) (10 : Int32) x1 (0 : Int32) (0 : Int32) (0 : Int32)).2.2.1 ≤ ls)) ∧ (p_Y0_enact S ((grC S x0 0).getD 0) (f_Y0_enact S ((grC S x0 0).getD 0) (10 : Int32) x1 (0 : Int32) (0 : Int32) (0 : Int32)).2.1 (f_Y0_enact S ((grC S x0 0).getD 0) (10 : Int32) x1 (0 : Int32) (0 : Int32) (0 : Int32)).2.2.1 (10 : Int32) x1 (0 : Int32) (0 : Int32) (0 : Int32)) ∧ (q_Y10_draft_13a ((f_Y0_enact S ((grC S x0 0).getD 0) (10 : Int32) x1 (0 : Int32) (0 : Int32) (0 : Int32)).2) x0 lc ls x1 ((f_Y0_enact S ((grC S x0 0).getD 0) (10 : Int32) x1 (0 : Int32) (0 : Int32) (0 : Int32)).1))
def e_Y10_draft : List Cond := [.fieldLink RX10 10 "MotionFloor" "now" "LMotionFloor$Assembly;", .methodLink RX10 32 yX0_enact, .instanceMethod yX0_enact, .selects RX0 yX0_enact yX0_enact, .initialized RX0]
def v_Y10_draft : List Cond := .code yX10_draft cX10_draft 2 (some .int) :: (e_Y10_draft ++ (wsX100 ++ (v_Y0_enact ++ [])))
theorem te_Y10_draft : GoodIn lw_tbl e_Y10_draft := wGc zc496 (wGc zc693 (wGc zc692 (wGc zc691 (wGc zc39 (wG0)))))
theorem t_Y10_draft : GoodIn lw_tbl v_Y10_draft := wGc zc703 (wGa te_Y10_draft (wGa zcX10 (wGa t_Y0_enact (wG0))))
set_option maxHeartbeats 4000000 in
set_option maxRecDepth 100000 in
theorem c_Y10_draft (l : Launch) (G : va_G) (K : Nat → ClassId) (ad0 : Nat → Nat) (S0 : Cst) (x0 : Nat) (lc : Nat) (ls : Nat) (a1 : Int32) (sz : Nat) : Met l yX10_draft v_Y10_draft ({ frames := 8, cells := lc - S0.1, slots := ls - S0.2.1, locals := 226 }) (va_Pc [.ref (ad0 x0), .int a1] (cSt G K ad0 sz S0 ((S0.1 ≤ lc ∧ S0.2.1 ≤ ls) ∧ iK S0 x0 7 ∧ p_Y10_draft S0 x0 lc ls a1))) (va_Qi (fun (r : Int32) (u : Cst × (Nat → Nat)) => (r, u.1) = f_Y10_draft S0 x0 a1 ∧ eN S0 u.1 ∧ (∀ q, q < S0.1 → u.2 q = ad0 q)) (fun u t => cBt G K u.2 (va_A (wsC K ad0 S0) sz) u.1 t) (va_A (wsC K ad0 S0) sz)) (lc - S0.1) (ls - S0.2.1) (va_A (wsC K ad0 S0) sz) := by
  refine Met.ofW (cc := cX10_draft) (maxL := 2) (ret := (some .int)) (by decide) rfl ?_
  intro p e s m args below meth c s₁ B hml hv
  obtain ⟨rfl, ⟨hsz, hP, hK, hD0, hTE⟩, hp⟩ := hv
  obtain ⟨k_l, hp⟩ := hp
  obtain ⟨k_x0, hp⟩ := hp
  have hx := B.exec
  have hb := B.bytes
  have hr := B.returns
  have hts := atoms_spec (ws := v_Y10_draft) B.pre
  have t_ := t_Y10_draft
  have mw : ∀ w ∈ e_Y10_draft, w ∈ v_Y10_draft := fun w h => List.mem_cons_of_mem _ (List.mem_append_left _ h)
  have hw := fun w (h : w ∈ e_Y10_draft) => hts w (mw w h)
  have iX10 : ∀ w ∈ wsX100, w ∈ v_Y10_draft := fun w h => List.mem_cons_of_mem _ (List.mem_append_right _ (List.mem_append_left _ h))
  have j_Y0_enact : ∀ w ∈ v_Y0_enact, w ∈ v_Y10_draft := fun w h => List.mem_cons_of_mem _ (List.mem_append_right _ (List.mem_append_right _ (List.mem_append_left _ h)))
  have hown : s.vm.findClass RX10 = some m.cls := findClass_of_methodNamed B.named
  have hlocks := B.notSynchronized
  subst hsz
  have hD := hD0.self (sz := s.heap.size)
  generalize hAe : va_A (wsC K ad0 S0) s.heap.size = A at hD ⊢
  have hA : ∀ q : Nat, s.heap.size ≤ q → A q := fun q h => by rw [← hAe]; exact Or.inr h
  have hS : va_S A s.heap s.heap [] := va_S.rf
  have hl : lv_has (lg_sl ([.ref (ad0 x0), .int a1]) ++ List.replicate (2 - (lg_sl ([.ref (ad0 x0), .int a1])).length) Slot.unset).toArray 2 [(0, .ref (ad0 x0)), (1, .int a1)] := by
    exact lv_entry ([.ref (ad0 x0), .int a1]) (n := 2) (Nat.le_of_ble_eq_true rfl)
  rw [lg_entry_eq]
  generalize (lg_sl ([.ref (ad0 x0), .int a1]) ++ List.replicate (2 - (lg_sl ([.ref (ad0 x0), .int a1])).length) Slot.unset).toArray = ls_ at hl ⊢
  refine wGen (fun Q hQ => ?_)
  obtain ⟨X, hX⟩ : ∃ X, f_Y10_draft S0 x0 a1 = X := ⟨_, rfl⟩
  have B_Y10_draft_13a : ∀ (S : Cst) (ad : Nat → Nat) (x1 : Int32) (y0 : Int32) (H : Heap) (locs : List Loc) (ls_ : Array Slot), b_Y10_draft_13a S x0 x1 y0 = X → q_Y10_draft_13a S x0 lc ls x1 y0 → nH S0 ad0 lc ls S ad → va_P G vwCl (wsC K ad S) H → va_D A (wsC K ad S) → va_S A s.heap H locs → lv_has ls_ 2 [(0, .ref (ad x0)), (1, .int x1)] → W p l e ({ frames := 8, cells := lc - S0.1, slots := ls - S0.2.1, locals := 226 } : Room) s m #[Value.ref (ad0 x0), Value.int a1] below meth c H locs (S.1 - S0.1) (S.2.1 - S0.2.1) Q (F0 m 13 ls_ [.int y0]) := by
    intro S ad x1 y0 H locs ls_ hE hp hZ hP hD hS hl
    unfold b_Y10_draft_13a at hE
    unfold q_Y10_draft_13a at hp
    refine W.widen (k := lc - S0.1) (n := ls - S0.2.1) (show S.1 - S0.1 ≤ lc - S0.1 from Nat.sub_le_sub_right hZ.2.2.1 _) (show S.2.1 - S0.2.1 ≤ ls - S0.2.1 from Nat.sub_le_sub_right hZ.2.2.2 _) ?_
    subst hQ
    exact W.iret (v := y0) hx hb hr (fun t ht hW => ⟨⟨y0, (S, ad), rfl, ⟨hE.trans hX.symm, hZ.1, hZ.2.1⟩, by rw [ht]; exact hP, hD⟩, hS.F ht⟩) hS.2.2 dX10_draft_13
  have B_M : ∀ (S : Cst) (ad : Nat → Nat) (x1 : Int32) (H : Heap) (locs : List Loc) (ls_ : Array Slot), f_Y10_draft S x0 x1 = X → p_Y10_draft S x0 lc ls x1 → nH S0 ad0 lc ls S ad → va_P G vwCl (wsC K ad S) H → va_D A (wsC K ad S) → va_S A s.heap H locs → lv_has ls_ 2 [(0, .ref (ad x0)), (1, .int x1)] → W p l e ({ frames := 8, cells := lc - S0.1, slots := ls - S0.2.1, locals := 226 } : Room) s m #[Value.ref (ad0 x0), Value.int a1] below meth c H locs (S.1 - S0.1) (S.2.1 - S0.2.1) Q (F0 m 0 ls_ []) := by
    intro S ad x1 H locs ls_ hE hp hZ hP hD hS hl
    unfold f_Y10_draft at hE
    unfold p_Y10_draft at hp
    refine lv_aload_n hx hb dX10_draft_0 rfl (lv_at hl 0 rfl) ?_
    refine va_get (D := G) (ci := 7) (v := va_re ad (grC S x0 0)) (C := RX10) (T := TX10) (N := 5) hx hb hts iX10 hown hK hP x0 (at_7 (k_x0.n hZ.1)) rfl 0 (by decide) (hw (.fieldLink RX10 10 "MotionFloor" "now" "LMotionFloor$Assembly;") (List.mem_of_getElem? (i := 0) rfl)) (fun _ h9 => h9) rfl dX10_draft_1 ?_
    refine lv_bipush (v := 10) hx hb dX10_draft_4 (by decide) ?_
    refine lv_iload_n hx hb dX10_draft_6 rfl (lv_at hl 1 rfl) ?_
    refine lv_iconst (v := 0) hx hb dX10_draft_7 (by decide) ?_
    refine lv_iconst (v := 0) hx hb dX10_draft_8 (by decide) ?_
    refine lv_iconst (v := 0) hx hb dX10_draft_9 (by decide) ?_
    obtain ⟨hy1, hp⟩ := hp
    refine cTop6 (r := (grC S x0 0)) hy1.1 ?_
    obtain ⟨hy2, hp⟩ := hp
    obtain ⟨hy3, hp⟩ := hp
    refine cNoi (va_runV (As := [.int 10, .int x1, .int 0, .int 0, .int 0]) (rest := []) ⟨hx, hb, hml, hown, hts⟩ (c_Y0_enact l G K ad S ((grC S x0 0).getD 0) (f_Y0_enact S ((grC S x0 0).getD 0) (10 : Int32) x1 (0 : Int32) (0 : Int32) (0 : Int32)).2.1 (f_Y0_enact S ((grC S x0 0).getD 0) (10 : Int32) x1 (0 : Int32) (0 : Int32) (0 : Int32)).2.2.1 (10 : Int32) x1 (0 : Int32) (0 : Int32) (0 : Int32) _) (cwV 5 hts (wGV t_ (mw (.methodLink RX10 32 yX0_enact) (List.mem_of_getElem? (i := 1) rfl)) (mw (.instanceMethod yX0_enact) (List.mem_of_getElem? (i := 2) rfl)) (mw (.selects RX0 yX0_enact yX0_enact) (List.mem_of_getElem? (i := 3) rfl)) (mw (.initialized RX0) (List.mem_of_getElem? (i := 4) rfl)) j_Y0_enact) rfl rfl rfl (by decide +kernel) ⟨Nat.le_of_ble_eq_true rfl, Nat.le_of_ble_eq_true rfl⟩) (cPV hK hTE hP hD 0 rfl (at_0 hy1.2) ⟨⟨hy2.1.1, hy2.2.1⟩, hy1.2, hy3⟩) rfl rfl hl.1 rfl (lv_room (Nat.le_of_ble_eq_true rfl)) dX10_draft_10 ⟨by show _ ≤ lc - S0.1; have := hZ.1.1.1; have := hy2.1; omega, by show _ ≤ ls - S0.2.1; have := hZ.1.1.2; have := hy2.2; omega⟩) hP hD hS hA (fun r5 u4 H locs hv hP hD hS => ?_)
    obtain ⟨hv, hz, ha⟩ := hv
    have e1 : (f_Y0_enact S ((grC S x0 0).getD 0) (10 : Int32) x1 (0 : Int32) (0 : Int32) (0 : Int32)).2.1 = u4.1.1 := by rw [← hv]
    have e2 : (f_Y0_enact S ((grC S x0 0).getD 0) (10 : Int32) x1 (0 : Int32) (0 : Int32) (0 : Int32)).2.2.1 = u4.1.2.1 := by rw [← hv]
    refine cCells (cells' := u4.1.1 - S0.1) (slots' := u4.1.2.1 - S0.2.1) (by have := hZ.1.1.1; have := hy2.1; omega) (by have := hZ.1.1.2; have := hy2.2; omega) ?_
    rw [← ha x0 (k_x0.n hZ.1).1] at hl
    have hZ := hZ.n hz ha (by rw [← e1]; exact hy2.1.2) (by rw [← e2]; exact hy2.2.2)
    rw [← hv] at hE hp
    dsimp only at hE hp
    exact B_Y10_draft_13a u4.1 u4.2 x1 r5 _ _ _ hE hp hZ hP hD hS (lv_sub hl [0, 1] rfl)
  exact cCells (Nat.sub_self _).symm (Nat.sub_self _).symm (B_M S0 ad0 a1 _ _ _ hX hp (nH.rf S0 ad0 k_l) hP hD hS hl)
theorem gdX10_span_0 : ckS (List.drop 0 cX10_span.data.toList) 0 [(0, .aload_n 0, 1), (1, .getfield 10, 3), (4, .bipush 11, 2), (6, .iload_n 1, 1), (7, .iload_n 2, 1), (8, .iconst 0, 1), (9, .iconst 0, 1), (10, .invokevirtual 32, 3), (13, .ireturn, 1)] = true := by decide +kernel
theorem dX10_span_0 : decode cX10_span 0 = .ok (.aload_n 0, 1) := ckS_g gdX10_span_0 0 rfl
theorem dX10_span_1 : decode cX10_span 1 = .ok (.getfield 10, 3) := ckS_g gdX10_span_0 1 rfl
theorem dX10_span_4 : decode cX10_span 4 = .ok (.bipush 11, 2) := ckS_g gdX10_span_0 2 rfl
theorem dX10_span_6 : decode cX10_span 6 = .ok (.iload_n 1, 1) := ckS_g gdX10_span_0 3 rfl
theorem dX10_span_7 : decode cX10_span 7 = .ok (.iload_n 2, 1) := ckS_g gdX10_span_0 4 rfl
theorem dX10_span_8 : decode cX10_span 8 = .ok (.iconst 0, 1) := ckS_g gdX10_span_0 5 rfl
theorem dX10_span_9 : decode cX10_span 9 = .ok (.iconst 0, 1) := ckS_g gdX10_span_0 6 rfl
theorem dX10_span_10 : decode cX10_span 10 = .ok (.invokevirtual 32, 3) := ckS_g gdX10_span_0 7 rfl
theorem dX10_span_13 : decode cX10_span 13 = .ok (.ireturn, 1) := ckS_g gdX10_span_0 8 rfl
set_option maxRecDepth 100000 in
theorem zc704 : wZ (.code yX10_span cX10_span 3 (some .int)) := ⟨wT4 (List.mem_of_getElem? (i := 67) rfl), Or.inl rfl⟩
def b_Y10_span_13a (S : Cst) (x0 : Nat) (x1 : Int32) (x2 : Int32) (y0 : Int32) : Int32 × Cst := (y0, S)
def q_Y10_span_13a (S : Cst) (x0 : Nat) (lc : Nat) (ls : Nat) (x1 : Int32) (x2 : Int32) (y0 : Int32) : Prop := True
def f_Y10_span (S : Cst) (x0 : Nat) (x1 : Int32) (x2 : Int32) : Int32 × Cst := (b_Y10_span_13a ((f_Y0_enact S ((grC S x0 0).getD 0) (11 : Int32) x1 x2 (0 : Int32) (0 : Int32)).2) x0 x1 x2 ((f_Y0_enact S ((grC S x0 0).getD 0) (11 : Int32) x1 x2 (0 : Int32) (0 : Int32)).1))
def p_Y10_span (S : Cst) (x0 : Nat) (lc : Nat) (ls : Nat) (x1 : Int32) (x2 : Int32) : Prop := (iR S (grC S x0 0) 0) ∧ ((S.1 ≤ (f_Y0_enact S ((grC S x0 0).getD 0) (11 : Int32) x1 x2 (0 : Int32) (0 : Int32)).2.1 ∧ (f_Y0_enact S ((grC S x0 0).getD 0) (11 : Int32) x1 x2 (0 : Int32) (0 : Int32)).2.1 ≤ lc) ∧ (S.2.1 ≤ (f_Y0_enact S ((grC S x0 0).getD 0) (11 : Int32) x1 x2 (0 : Int32) (0 : Int32)).2.2.1 ∧ (f_Y0_enact S ((grC S x0 0).getD 0) (11 : Int32) x1 x2 (0 : Int32) (0 : Int32)).2.2.1 ≤ ls)) ∧ (p_Y0_enact S ((grC S x0 0).getD 0) (f_Y0_enact S ((grC S x0 0).getD 0) (11 : Int32) x1 x2 (0 : Int32) (0 : Int32)).2.1 (f_Y0_enact S ((grC S x0 0).getD 0) (11 : Int32) x1 x2 (0 : Int32) (0 : Int32)).2.2.1 (11 : Int32) x1 x2 (0 : Int32) (0 : Int32)) ∧ (q_Y10_span_13a ((f_Y0_enact S ((grC S x0 0).getD 0) (11 : Int32) x1 x2 (0 : Int32) (0 : Int32)).2) x0 lc ls x1 x2 ((f_Y0_enact S ((grC S x0 0).getD 0) (11 : Int32) x1 x2 (0 : Int32) (0 : Int32)).1))
def e_Y10_span : List Cond := [.fieldLink RX10 10 "MotionFloor" "now" "LMotionFloor$Assembly;", .methodLink RX10 32 yX0_enact, .instanceMethod yX0_enact, .selects RX0 yX0_enact yX0_enact, .initialized RX0]
def v_Y10_span : List Cond := .code yX10_span cX10_span 3 (some .int) :: (e_Y10_span ++ (wsX100 ++ (v_Y0_enact ++ [])))
theorem te_Y10_span : GoodIn lw_tbl e_Y10_span := wGc zc496 (wGc zc693 (wGc zc692 (wGc zc691 (wGc zc39 (wG0)))))
theorem t_Y10_span : GoodIn lw_tbl v_Y10_span := wGc zc704 (wGa te_Y10_span (wGa zcX10 (wGa t_Y0_enact (wG0))))
set_option maxHeartbeats 4000000 in
set_option maxRecDepth 100000 in
theorem c_Y10_span (l : Launch) (G : va_G) (K : Nat → ClassId) (ad0 : Nat → Nat) (S0 : Cst) (x0 : Nat) (lc : Nat) (ls : Nat) (a1 : Int32) (a2 : Int32) (sz : Nat) : Met l yX10_span v_Y10_span ({ frames := 8, cells := lc - S0.1, slots := ls - S0.2.1, locals := 226 }) (va_Pc [.ref (ad0 x0), .int a1, .int a2] (cSt G K ad0 sz S0 ((S0.1 ≤ lc ∧ S0.2.1 ≤ ls) ∧ iK S0 x0 7 ∧ p_Y10_span S0 x0 lc ls a1 a2))) (va_Qi (fun (r : Int32) (u : Cst × (Nat → Nat)) => (r, u.1) = f_Y10_span S0 x0 a1 a2 ∧ eN S0 u.1 ∧ (∀ q, q < S0.1 → u.2 q = ad0 q)) (fun u t => cBt G K u.2 (va_A (wsC K ad0 S0) sz) u.1 t) (va_A (wsC K ad0 S0) sz)) (lc - S0.1) (ls - S0.2.1) (va_A (wsC K ad0 S0) sz) := by
  refine Met.ofW (cc := cX10_span) (maxL := 3) (ret := (some .int)) (by decide) rfl ?_
  intro p e s m args below meth c s₁ B hml hv
  obtain ⟨rfl, ⟨hsz, hP, hK, hD0, hTE⟩, hp⟩ := hv
  obtain ⟨k_l, hp⟩ := hp
  obtain ⟨k_x0, hp⟩ := hp
  have hx := B.exec
  have hb := B.bytes
  have hr := B.returns
  have hts := atoms_spec (ws := v_Y10_span) B.pre
  have t_ := t_Y10_span
  have mw : ∀ w ∈ e_Y10_span, w ∈ v_Y10_span := fun w h => List.mem_cons_of_mem _ (List.mem_append_left _ h)
  have hw := fun w (h : w ∈ e_Y10_span) => hts w (mw w h)
  have iX10 : ∀ w ∈ wsX100, w ∈ v_Y10_span := fun w h => List.mem_cons_of_mem _ (List.mem_append_right _ (List.mem_append_left _ h))
  have j_Y0_enact : ∀ w ∈ v_Y0_enact, w ∈ v_Y10_span := fun w h => List.mem_cons_of_mem _ (List.mem_append_right _ (List.mem_append_right _ (List.mem_append_left _ h)))
  have hown : s.vm.findClass RX10 = some m.cls := findClass_of_methodNamed B.named
  have hlocks := B.notSynchronized
  subst hsz
  have hD := hD0.self (sz := s.heap.size)
  generalize hAe : va_A (wsC K ad0 S0) s.heap.size = A at hD ⊢
  have hA : ∀ q : Nat, s.heap.size ≤ q → A q := fun q h => by rw [← hAe]; exact Or.inr h
  have hS : va_S A s.heap s.heap [] := va_S.rf
  have hl : lv_has (lg_sl ([.ref (ad0 x0), .int a1, .int a2]) ++ List.replicate (3 - (lg_sl ([.ref (ad0 x0), .int a1, .int a2])).length) Slot.unset).toArray 3 [(0, .ref (ad0 x0)), (1, .int a1), (2, .int a2)] := by
    exact lv_entry ([.ref (ad0 x0), .int a1, .int a2]) (n := 3) (Nat.le_of_ble_eq_true rfl)
  rw [lg_entry_eq]
  generalize (lg_sl ([.ref (ad0 x0), .int a1, .int a2]) ++ List.replicate (3 - (lg_sl ([.ref (ad0 x0), .int a1, .int a2])).length) Slot.unset).toArray = ls_ at hl ⊢
  refine wGen (fun Q hQ => ?_)
  obtain ⟨X, hX⟩ : ∃ X, f_Y10_span S0 x0 a1 a2 = X := ⟨_, rfl⟩
  have B_Y10_span_13a : ∀ (S : Cst) (ad : Nat → Nat) (x1 : Int32) (x2 : Int32) (y0 : Int32) (H : Heap) (locs : List Loc) (ls_ : Array Slot), b_Y10_span_13a S x0 x1 x2 y0 = X → q_Y10_span_13a S x0 lc ls x1 x2 y0 → nH S0 ad0 lc ls S ad → va_P G vwCl (wsC K ad S) H → va_D A (wsC K ad S) → va_S A s.heap H locs → lv_has ls_ 3 [(0, .ref (ad x0)), (1, .int x1), (2, .int x2)] → W p l e ({ frames := 8, cells := lc - S0.1, slots := ls - S0.2.1, locals := 226 } : Room) s m #[Value.ref (ad0 x0), Value.int a1, Value.int a2] below meth c H locs (S.1 - S0.1) (S.2.1 - S0.2.1) Q (F0 m 13 ls_ [.int y0]) := by
    intro S ad x1 x2 y0 H locs ls_ hE hp hZ hP hD hS hl
    unfold b_Y10_span_13a at hE
    unfold q_Y10_span_13a at hp
    refine W.widen (k := lc - S0.1) (n := ls - S0.2.1) (show S.1 - S0.1 ≤ lc - S0.1 from Nat.sub_le_sub_right hZ.2.2.1 _) (show S.2.1 - S0.2.1 ≤ ls - S0.2.1 from Nat.sub_le_sub_right hZ.2.2.2 _) ?_
    subst hQ
    exact W.iret (v := y0) hx hb hr (fun t ht hW => ⟨⟨y0, (S, ad), rfl, ⟨hE.trans hX.symm, hZ.1, hZ.2.1⟩, by rw [ht]; exact hP, hD⟩, hS.F ht⟩) hS.2.2 dX10_span_13
  have B_M : ∀ (S : Cst) (ad : Nat → Nat) (x1 : Int32) (x2 : Int32) (H : Heap) (locs : List Loc) (ls_ : Array Slot), f_Y10_span S x0 x1 x2 = X → p_Y10_span S x0 lc ls x1 x2 → nH S0 ad0 lc ls S ad → va_P G vwCl (wsC K ad S) H → va_D A (wsC K ad S) → va_S A s.heap H locs → lv_has ls_ 3 [(0, .ref (ad x0)), (1, .int x1), (2, .int x2)] → W p l e ({ frames := 8, cells := lc - S0.1, slots := ls - S0.2.1, locals := 226 } : Room) s m #[Value.ref (ad0 x0), Value.int a1, Value.int a2] below meth c H locs (S.1 - S0.1) (S.2.1 - S0.2.1) Q (F0 m 0 ls_ []) := by
    intro S ad x1 x2 H locs ls_ hE hp hZ hP hD hS hl
    unfold f_Y10_span at hE
    unfold p_Y10_span at hp
    refine lv_aload_n hx hb dX10_span_0 rfl (lv_at hl 0 rfl) ?_
    refine va_get (D := G) (ci := 7) (v := va_re ad (grC S x0 0)) (C := RX10) (T := TX10) (N := 5) hx hb hts iX10 hown hK hP x0 (at_7 (k_x0.n hZ.1)) rfl 0 (by decide) (hw (.fieldLink RX10 10 "MotionFloor" "now" "LMotionFloor$Assembly;") (List.mem_of_getElem? (i := 0) rfl)) (fun _ h9 => h9) rfl dX10_span_1 ?_
    refine lv_bipush (v := 11) hx hb dX10_span_4 (by decide) ?_
    refine lv_iload_n hx hb dX10_span_6 rfl (lv_at hl 1 rfl) ?_
    refine lv_iload_n hx hb dX10_span_7 rfl (lv_at hl 2 rfl) ?_
    refine lv_iconst (v := 0) hx hb dX10_span_8 (by decide) ?_
    refine lv_iconst (v := 0) hx hb dX10_span_9 (by decide) ?_
    obtain ⟨hy1, hp⟩ := hp
    refine cTop6 (r := (grC S x0 0)) hy1.1 ?_
    obtain ⟨hy2, hp⟩ := hp
    obtain ⟨hy3, hp⟩ := hp
    refine cNoi (va_runV (As := [.int 11, .int x1, .int x2, .int 0, .int 0]) (rest := []) ⟨hx, hb, hml, hown, hts⟩ (c_Y0_enact l G K ad S ((grC S x0 0).getD 0) (f_Y0_enact S ((grC S x0 0).getD 0) (11 : Int32) x1 x2 (0 : Int32) (0 : Int32)).2.1 (f_Y0_enact S ((grC S x0 0).getD 0) (11 : Int32) x1 x2 (0 : Int32) (0 : Int32)).2.2.1 (11 : Int32) x1 x2 (0 : Int32) (0 : Int32) _) (cwV 5 hts (wGV t_ (mw (.methodLink RX10 32 yX0_enact) (List.mem_of_getElem? (i := 1) rfl)) (mw (.instanceMethod yX0_enact) (List.mem_of_getElem? (i := 2) rfl)) (mw (.selects RX0 yX0_enact yX0_enact) (List.mem_of_getElem? (i := 3) rfl)) (mw (.initialized RX0) (List.mem_of_getElem? (i := 4) rfl)) j_Y0_enact) rfl rfl rfl (by decide +kernel) ⟨Nat.le_of_ble_eq_true rfl, Nat.le_of_ble_eq_true rfl⟩) (cPV hK hTE hP hD 0 rfl (at_0 hy1.2) ⟨⟨hy2.1.1, hy2.2.1⟩, hy1.2, hy3⟩) rfl rfl hl.1 rfl (lv_room (Nat.le_of_ble_eq_true rfl)) dX10_span_10 ⟨by show _ ≤ lc - S0.1; have := hZ.1.1.1; have := hy2.1; omega, by show _ ≤ ls - S0.2.1; have := hZ.1.1.2; have := hy2.2; omega⟩) hP hD hS hA (fun r5 u4 H locs hv hP hD hS => ?_)
    obtain ⟨hv, hz, ha⟩ := hv
    have e1 : (f_Y0_enact S ((grC S x0 0).getD 0) (11 : Int32) x1 x2 (0 : Int32) (0 : Int32)).2.1 = u4.1.1 := by rw [← hv]
    have e2 : (f_Y0_enact S ((grC S x0 0).getD 0) (11 : Int32) x1 x2 (0 : Int32) (0 : Int32)).2.2.1 = u4.1.2.1 := by rw [← hv]
    refine cCells (cells' := u4.1.1 - S0.1) (slots' := u4.1.2.1 - S0.2.1) (by have := hZ.1.1.1; have := hy2.1; omega) (by have := hZ.1.1.2; have := hy2.2; omega) ?_
    rw [← ha x0 (k_x0.n hZ.1).1] at hl
    have hZ := hZ.n hz ha (by rw [← e1]; exact hy2.1.2) (by rw [← e2]; exact hy2.2.2)
    rw [← hv] at hE hp
    dsimp only at hE hp
    exact B_Y10_span_13a u4.1 u4.2 x1 x2 r5 _ _ _ hE hp hZ hP hD hS (lv_sub hl [0, 1, 2] rfl)
  exact cCells (Nat.sub_self _).symm (Nat.sub_self _).symm (B_M S0 ad0 a1 a2 _ _ _ hX hp (nH.rf S0 ad0 k_l) hP hD hS hl)
theorem gdX10_word_0 : ckS (List.drop 0 cX10_word.data.toList) 0 [(0, .aload_n 0, 1), (1, .getfield 10, 3), (4, .bipush 12, 2), (6, .iload_n 1, 1), (7, .iload_n 2, 1), (8, .iload_n 3, 1), (9, .iload 4, 2), (11, .invokevirtual 32, 3), (14, .ireturn, 1)] = true := by decide +kernel
theorem dX10_word_0 : decode cX10_word 0 = .ok (.aload_n 0, 1) := ckS_g gdX10_word_0 0 rfl
theorem dX10_word_1 : decode cX10_word 1 = .ok (.getfield 10, 3) := ckS_g gdX10_word_0 1 rfl
theorem dX10_word_4 : decode cX10_word 4 = .ok (.bipush 12, 2) := ckS_g gdX10_word_0 2 rfl
theorem dX10_word_6 : decode cX10_word 6 = .ok (.iload_n 1, 1) := ckS_g gdX10_word_0 3 rfl
theorem dX10_word_7 : decode cX10_word 7 = .ok (.iload_n 2, 1) := ckS_g gdX10_word_0 4 rfl
theorem dX10_word_8 : decode cX10_word 8 = .ok (.iload_n 3, 1) := ckS_g gdX10_word_0 5 rfl
theorem dX10_word_9 : decode cX10_word 9 = .ok (.iload 4, 2) := ckS_g gdX10_word_0 6 rfl
theorem dX10_word_11 : decode cX10_word 11 = .ok (.invokevirtual 32, 3) := ckS_g gdX10_word_0 7 rfl
theorem dX10_word_14 : decode cX10_word 14 = .ok (.ireturn, 1) := ckS_g gdX10_word_0 8 rfl
set_option maxRecDepth 100000 in
theorem zc705 : wZ (.code yX10_word cX10_word 5 (some .int)) := ⟨wT4 (List.mem_of_getElem? (i := 71) rfl), Or.inl rfl⟩
def b_Y10_word_14a (S : Cst) (x0 : Nat) (x1 : Int32) (x2 : Int32) (x3 : Int32) (x4 : Int32) (y0 : Int32) : Int32 × Cst := (y0, S)
def q_Y10_word_14a (S : Cst) (x0 : Nat) (lc : Nat) (ls : Nat) (x1 : Int32) (x2 : Int32) (x3 : Int32) (x4 : Int32) (y0 : Int32) : Prop := True
def f_Y10_word (S : Cst) (x0 : Nat) (x1 : Int32) (x2 : Int32) (x3 : Int32) (x4 : Int32) : Int32 × Cst := (b_Y10_word_14a ((f_Y0_enact S ((grC S x0 0).getD 0) (12 : Int32) x1 x2 x3 x4).2) x0 x1 x2 x3 x4 ((f_Y0_enact S ((grC S x0 0).getD 0) (12 : Int32) x1 x2 x3 x4).1))
def p_Y10_word (S : Cst) (x0 : Nat) (lc : Nat) (ls : Nat) (x1 : Int32) (x2 : Int32) (x3 : Int32) (x4 : Int32) : Prop := (iR S (grC S x0 0) 0) ∧ ((S.1 ≤ (f_Y0_enact S ((grC S x0 0).getD 0) (12 : Int32) x1 x2 x3 x4).2.1 ∧ (f_Y0_enact S ((grC S x0 0).getD 0) (12 : Int32) x1 x2 x3 x4).2.1 ≤ lc) ∧ (S.2.1 ≤ (f_Y0_enact S ((grC S x0 0).getD 0) (12 : Int32) x1 x2 x3 x4).2.2.1 ∧ (f_Y0_enact S ((grC S x0 0).getD 0) (12 : Int32) x1 x2 x3 x4).2.2.1 ≤ ls)) ∧ (p_Y0_enact S ((grC S x0 0).getD 0) (f_Y0_enact S ((grC S x0 0).getD 0) (12 : Int32) x1 x2 x3 x4).2.1 (f_Y0_enact S ((grC S x0 0).getD 0) (12 : Int32) x1 x2 x3 x4).2.2.1 (12 : Int32) x1 x2 x3 x4) ∧ (q_Y10_word_14a ((f_Y0_enact S ((grC S x0 0).getD 0) (12 : Int32) x1 x2 x3 x4).2) x0 lc ls x1 x2 x3 x4 ((f_Y0_enact S ((grC S x0 0).getD 0) (12 : Int32) x1 x2 x3 x4).1))
def e_Y10_word : List Cond := [.fieldLink RX10 10 "MotionFloor" "now" "LMotionFloor$Assembly;", .methodLink RX10 32 yX0_enact, .instanceMethod yX0_enact, .selects RX0 yX0_enact yX0_enact, .initialized RX0]
def v_Y10_word : List Cond := .code yX10_word cX10_word 5 (some .int) :: (e_Y10_word ++ (wsX100 ++ (v_Y0_enact ++ [])))
theorem te_Y10_word : GoodIn lw_tbl e_Y10_word := wGc zc496 (wGc zc693 (wGc zc692 (wGc zc691 (wGc zc39 (wG0)))))
theorem t_Y10_word : GoodIn lw_tbl v_Y10_word := wGc zc705 (wGa te_Y10_word (wGa zcX10 (wGa t_Y0_enact (wG0))))
set_option maxHeartbeats 4000000 in
set_option maxRecDepth 100000 in
theorem c_Y10_word (l : Launch) (G : va_G) (K : Nat → ClassId) (ad0 : Nat → Nat) (S0 : Cst) (x0 : Nat) (lc : Nat) (ls : Nat) (a1 : Int32) (a2 : Int32) (a3 : Int32) (a4 : Int32) (sz : Nat) : Met l yX10_word v_Y10_word ({ frames := 8, cells := lc - S0.1, slots := ls - S0.2.1, locals := 226 }) (va_Pc [.ref (ad0 x0), .int a1, .int a2, .int a3, .int a4] (cSt G K ad0 sz S0 ((S0.1 ≤ lc ∧ S0.2.1 ≤ ls) ∧ iK S0 x0 7 ∧ p_Y10_word S0 x0 lc ls a1 a2 a3 a4))) (va_Qi (fun (r : Int32) (u : Cst × (Nat → Nat)) => (r, u.1) = f_Y10_word S0 x0 a1 a2 a3 a4 ∧ eN S0 u.1 ∧ (∀ q, q < S0.1 → u.2 q = ad0 q)) (fun u t => cBt G K u.2 (va_A (wsC K ad0 S0) sz) u.1 t) (va_A (wsC K ad0 S0) sz)) (lc - S0.1) (ls - S0.2.1) (va_A (wsC K ad0 S0) sz) := by
  refine Met.ofW (cc := cX10_word) (maxL := 5) (ret := (some .int)) (by decide) rfl ?_
  intro p e s m args below meth c s₁ B hml hv
  obtain ⟨rfl, ⟨hsz, hP, hK, hD0, hTE⟩, hp⟩ := hv
  obtain ⟨k_l, hp⟩ := hp
  obtain ⟨k_x0, hp⟩ := hp
  have hx := B.exec
  have hb := B.bytes
  have hr := B.returns
  have hts := atoms_spec (ws := v_Y10_word) B.pre
  have t_ := t_Y10_word
  have mw : ∀ w ∈ e_Y10_word, w ∈ v_Y10_word := fun w h => List.mem_cons_of_mem _ (List.mem_append_left _ h)
  have hw := fun w (h : w ∈ e_Y10_word) => hts w (mw w h)
  have iX10 : ∀ w ∈ wsX100, w ∈ v_Y10_word := fun w h => List.mem_cons_of_mem _ (List.mem_append_right _ (List.mem_append_left _ h))
  have j_Y0_enact : ∀ w ∈ v_Y0_enact, w ∈ v_Y10_word := fun w h => List.mem_cons_of_mem _ (List.mem_append_right _ (List.mem_append_right _ (List.mem_append_left _ h)))
  have hown : s.vm.findClass RX10 = some m.cls := findClass_of_methodNamed B.named
  have hlocks := B.notSynchronized
  subst hsz
  have hD := hD0.self (sz := s.heap.size)
  generalize hAe : va_A (wsC K ad0 S0) s.heap.size = A at hD ⊢
  have hA : ∀ q : Nat, s.heap.size ≤ q → A q := fun q h => by rw [← hAe]; exact Or.inr h
  have hS : va_S A s.heap s.heap [] := va_S.rf
  have hl : lv_has (lg_sl ([.ref (ad0 x0), .int a1, .int a2, .int a3, .int a4]) ++ List.replicate (5 - (lg_sl ([.ref (ad0 x0), .int a1, .int a2, .int a3, .int a4])).length) Slot.unset).toArray 5 [(0, .ref (ad0 x0)), (1, .int a1), (2, .int a2), (3, .int a3), (4, .int a4)] := by
    exact lv_entry ([.ref (ad0 x0), .int a1, .int a2, .int a3, .int a4]) (n := 5) (Nat.le_of_ble_eq_true rfl)
  rw [lg_entry_eq]
  generalize (lg_sl ([.ref (ad0 x0), .int a1, .int a2, .int a3, .int a4]) ++ List.replicate (5 - (lg_sl ([.ref (ad0 x0), .int a1, .int a2, .int a3, .int a4])).length) Slot.unset).toArray = ls_ at hl ⊢
  refine wGen (fun Q hQ => ?_)
  obtain ⟨X, hX⟩ : ∃ X, f_Y10_word S0 x0 a1 a2 a3 a4 = X := ⟨_, rfl⟩
  have B_Y10_word_14a : ∀ (S : Cst) (ad : Nat → Nat) (x1 : Int32) (x2 : Int32) (x3 : Int32) (x4 : Int32) (y0 : Int32) (H : Heap) (locs : List Loc) (ls_ : Array Slot), b_Y10_word_14a S x0 x1 x2 x3 x4 y0 = X → q_Y10_word_14a S x0 lc ls x1 x2 x3 x4 y0 → nH S0 ad0 lc ls S ad → va_P G vwCl (wsC K ad S) H → va_D A (wsC K ad S) → va_S A s.heap H locs → lv_has ls_ 5 [(0, .ref (ad x0)), (1, .int x1), (2, .int x2), (3, .int x3), (4, .int x4)] → W p l e ({ frames := 8, cells := lc - S0.1, slots := ls - S0.2.1, locals := 226 } : Room) s m #[Value.ref (ad0 x0), Value.int a1, Value.int a2, Value.int a3, Value.int a4] below meth c H locs (S.1 - S0.1) (S.2.1 - S0.2.1) Q (F0 m 14 ls_ [.int y0]) := by
    intro S ad x1 x2 x3 x4 y0 H locs ls_ hE hp hZ hP hD hS hl
    unfold b_Y10_word_14a at hE
    unfold q_Y10_word_14a at hp
    refine W.widen (k := lc - S0.1) (n := ls - S0.2.1) (show S.1 - S0.1 ≤ lc - S0.1 from Nat.sub_le_sub_right hZ.2.2.1 _) (show S.2.1 - S0.2.1 ≤ ls - S0.2.1 from Nat.sub_le_sub_right hZ.2.2.2 _) ?_
    subst hQ
    exact W.iret (v := y0) hx hb hr (fun t ht hW => ⟨⟨y0, (S, ad), rfl, ⟨hE.trans hX.symm, hZ.1, hZ.2.1⟩, by rw [ht]; exact hP, hD⟩, hS.F ht⟩) hS.2.2 dX10_word_14
  have B_M : ∀ (S : Cst) (ad : Nat → Nat) (x1 : Int32) (x2 : Int32) (x3 : Int32) (x4 : Int32) (H : Heap) (locs : List Loc) (ls_ : Array Slot), f_Y10_word S x0 x1 x2 x3 x4 = X → p_Y10_word S x0 lc ls x1 x2 x3 x4 → nH S0 ad0 lc ls S ad → va_P G vwCl (wsC K ad S) H → va_D A (wsC K ad S) → va_S A s.heap H locs → lv_has ls_ 5 [(0, .ref (ad x0)), (1, .int x1), (2, .int x2), (3, .int x3), (4, .int x4)] → W p l e ({ frames := 8, cells := lc - S0.1, slots := ls - S0.2.1, locals := 226 } : Room) s m #[Value.ref (ad0 x0), Value.int a1, Value.int a2, Value.int a3, Value.int a4] below meth c H locs (S.1 - S0.1) (S.2.1 - S0.2.1) Q (F0 m 0 ls_ []) := by
    intro S ad x1 x2 x3 x4 H locs ls_ hE hp hZ hP hD hS hl
    unfold f_Y10_word at hE
    unfold p_Y10_word at hp
    refine lv_aload_n hx hb dX10_word_0 rfl (lv_at hl 0 rfl) ?_
    refine va_get (D := G) (ci := 7) (v := va_re ad (grC S x0 0)) (C := RX10) (T := TX10) (N := 5) hx hb hts iX10 hown hK hP x0 (at_7 (k_x0.n hZ.1)) rfl 0 (by decide) (hw (.fieldLink RX10 10 "MotionFloor" "now" "LMotionFloor$Assembly;") (List.mem_of_getElem? (i := 0) rfl)) (fun _ h9 => h9) rfl dX10_word_1 ?_
    refine lv_bipush (v := 12) hx hb dX10_word_4 (by decide) ?_
    refine lv_iload_n hx hb dX10_word_6 rfl (lv_at hl 1 rfl) ?_
    refine lv_iload_n hx hb dX10_word_7 rfl (lv_at hl 2 rfl) ?_
    refine lv_iload_n hx hb dX10_word_8 rfl (lv_at hl 3 rfl) ?_
    refine lv_iload hx hb dX10_word_9 (lv_at hl 4 rfl) ?_
    obtain ⟨hy1, hp⟩ := hp
    refine cTop6 (r := (grC S x0 0)) hy1.1 ?_
    obtain ⟨hy2, hp⟩ := hp
    obtain ⟨hy3, hp⟩ := hp
    refine cNoi (va_runV (As := [.int 12, .int x1, .int x2, .int x3, .int x4]) (rest := []) ⟨hx, hb, hml, hown, hts⟩ (c_Y0_enact l G K ad S ((grC S x0 0).getD 0) (f_Y0_enact S ((grC S x0 0).getD 0) (12 : Int32) x1 x2 x3 x4).2.1 (f_Y0_enact S ((grC S x0 0).getD 0) (12 : Int32) x1 x2 x3 x4).2.2.1 (12 : Int32) x1 x2 x3 x4 _) (cwV 5 hts (wGV t_ (mw (.methodLink RX10 32 yX0_enact) (List.mem_of_getElem? (i := 1) rfl)) (mw (.instanceMethod yX0_enact) (List.mem_of_getElem? (i := 2) rfl)) (mw (.selects RX0 yX0_enact yX0_enact) (List.mem_of_getElem? (i := 3) rfl)) (mw (.initialized RX0) (List.mem_of_getElem? (i := 4) rfl)) j_Y0_enact) rfl rfl rfl (by decide +kernel) ⟨Nat.le_of_ble_eq_true rfl, Nat.le_of_ble_eq_true rfl⟩) (cPV hK hTE hP hD 0 rfl (at_0 hy1.2) ⟨⟨hy2.1.1, hy2.2.1⟩, hy1.2, hy3⟩) rfl rfl hl.1 rfl (lv_room (Nat.le_of_ble_eq_true rfl)) dX10_word_11 ⟨by show _ ≤ lc - S0.1; have := hZ.1.1.1; have := hy2.1; omega, by show _ ≤ ls - S0.2.1; have := hZ.1.1.2; have := hy2.2; omega⟩) hP hD hS hA (fun r5 u4 H locs hv hP hD hS => ?_)
    obtain ⟨hv, hz, ha⟩ := hv
    have e1 : (f_Y0_enact S ((grC S x0 0).getD 0) (12 : Int32) x1 x2 x3 x4).2.1 = u4.1.1 := by rw [← hv]
    have e2 : (f_Y0_enact S ((grC S x0 0).getD 0) (12 : Int32) x1 x2 x3 x4).2.2.1 = u4.1.2.1 := by rw [← hv]
    refine cCells (cells' := u4.1.1 - S0.1) (slots' := u4.1.2.1 - S0.2.1) (by have := hZ.1.1.1; have := hy2.1; omega) (by have := hZ.1.1.2; have := hy2.2; omega) ?_
    rw [← ha x0 (k_x0.n hZ.1).1] at hl
    have hZ := hZ.n hz ha (by rw [← e1]; exact hy2.1.2) (by rw [← e2]; exact hy2.2.2)
    rw [← hv] at hE hp
    dsimp only at hE hp
    exact B_Y10_word_14a u4.1 u4.2 x1 x2 x3 x4 r5 _ _ _ hE hp hZ hP hD hS (lv_sub hl [0, 1, 2, 3, 4] rfl)
  exact cCells (Nat.sub_self _).symm (Nat.sub_self _).symm (B_M S0 ad0 a1 a2 a3 a4 _ _ _ hX hp (nH.rf S0 ad0 k_l) hP hD hS hl)
theorem gdX10_lay_0 : ckS (List.drop 0 cX10_lay.data.toList) 0 [(0, .aload_n 0, 1), (1, .getfield 10, 3), (4, .bipush 13, 2), (6, .iload_n 1, 1), (7, .iconst 0, 1), (8, .iconst 0, 1), (9, .iconst 0, 1), (10, .invokevirtual 32, 3), (13, .ireturn, 1)] = true := by decide +kernel
theorem dX10_lay_0 : decode cX10_lay 0 = .ok (.aload_n 0, 1) := ckS_g gdX10_lay_0 0 rfl
theorem dX10_lay_1 : decode cX10_lay 1 = .ok (.getfield 10, 3) := ckS_g gdX10_lay_0 1 rfl
theorem dX10_lay_4 : decode cX10_lay 4 = .ok (.bipush 13, 2) := ckS_g gdX10_lay_0 2 rfl
theorem dX10_lay_6 : decode cX10_lay 6 = .ok (.iload_n 1, 1) := ckS_g gdX10_lay_0 3 rfl
theorem dX10_lay_7 : decode cX10_lay 7 = .ok (.iconst 0, 1) := ckS_g gdX10_lay_0 4 rfl
theorem dX10_lay_8 : decode cX10_lay 8 = .ok (.iconst 0, 1) := ckS_g gdX10_lay_0 5 rfl
theorem dX10_lay_9 : decode cX10_lay 9 = .ok (.iconst 0, 1) := ckS_g gdX10_lay_0 6 rfl
theorem dX10_lay_10 : decode cX10_lay 10 = .ok (.invokevirtual 32, 3) := ckS_g gdX10_lay_0 7 rfl
theorem dX10_lay_13 : decode cX10_lay 13 = .ok (.ireturn, 1) := ckS_g gdX10_lay_0 8 rfl
set_option maxRecDepth 100000 in
theorem zc706 : wZ (.code yX10_lay cX10_lay 2 (some .int)) := ⟨wT4 (List.mem_of_getElem? (i := 75) rfl), Or.inl rfl⟩
def b_Y10_lay_13a (S : Cst) (x0 : Nat) (x1 : Int32) (y0 : Int32) : Int32 × Cst := (y0, S)
def q_Y10_lay_13a (S : Cst) (x0 : Nat) (lc : Nat) (ls : Nat) (x1 : Int32) (y0 : Int32) : Prop := True
def f_Y10_lay (S : Cst) (x0 : Nat) (x1 : Int32) : Int32 × Cst := (b_Y10_lay_13a ((f_Y0_enact S ((grC S x0 0).getD 0) (13 : Int32) x1 (0 : Int32) (0 : Int32) (0 : Int32)).2) x0 x1 ((f_Y0_enact S ((grC S x0 0).getD 0) (13 : Int32) x1 (0 : Int32) (0 : Int32) (0 : Int32)).1))
def p_Y10_lay (S : Cst) (x0 : Nat) (lc : Nat) (ls : Nat) (x1 : Int32) : Prop := (iR S (grC S x0 0) 0) ∧ ((S.1 ≤ (f_Y0_enact S ((grC S x0 0).getD 0) (13 : Int32) x1 (0 : Int32) (0 : Int32) (0 : Int32)).2.1 ∧ (f_Y0_enact S ((grC S x0 0).getD 0) (13 : Int32) x1 (0 : Int32) (0 : Int32) (0 : Int32)).2.1 ≤ lc) ∧ (S.2.1 ≤ (f_Y0_enact S ((grC S x0 0).getD 0) (13 : Int32) x1 (0 : Int32) (0 : Int32) (0 : Int32)).2.2.1 ∧ (f_Y0_enact S ((grC S x0 0).getD 0) (13 : Int32) x1 (0 : Int32) (0 : Int32) (0 : Int32)).2.2.1 ≤ ls)) ∧ (p_Y0_enact S ((grC S x0 0).getD 0) (f_Y0_enact S ((grC S x0 0).getD 0) (13 : Int32) x1 (0 : Int32) (0 : Int32) (0 : Int32)).2.1 (f_Y0_enact S ((grC S x0 0).getD 0) (13 : Int32) x1 (0 : Int32) (0 : Int32) (0 : Int32)).2.2.1 (13 : Int32) x1 (0 : Int32) (0 : Int32) (0 : Int32)) ∧ (q_Y10_lay_13a ((f_Y0_enact S ((grC S x0 0).getD 0) (13 : Int32) x1 (0 : Int32) (0 : Int32) (0 : Int32)).2) x0 lc ls x1 ((f_Y0_enact S ((grC S x0 0).getD 0) (13 : Int32) x1 (0 : Int32) (0 : Int32) (0 : Int32)).1))
def e_Y10_lay : List Cond := [.fieldLink RX10 10 "MotionFloor" "now" "LMotionFloor$Assembly;", .methodLink RX10 32 yX0_enact, .instanceMethod yX0_enact, .selects RX0 yX0_enact yX0_enact, .initialized RX0]
def v_Y10_lay : List Cond := .code yX10_lay cX10_lay 2 (some .int) :: (e_Y10_lay ++ (wsX100 ++ (v_Y0_enact ++ [])))
theorem te_Y10_lay : GoodIn lw_tbl e_Y10_lay := wGc zc496 (wGc zc693 (wGc zc692 (wGc zc691 (wGc zc39 (wG0)))))
theorem t_Y10_lay : GoodIn lw_tbl v_Y10_lay := wGc zc706 (wGa te_Y10_lay (wGa zcX10 (wGa t_Y0_enact (wG0))))
set_option maxHeartbeats 4000000 in
set_option maxRecDepth 100000 in
theorem c_Y10_lay (l : Launch) (G : va_G) (K : Nat → ClassId) (ad0 : Nat → Nat) (S0 : Cst) (x0 : Nat) (lc : Nat) (ls : Nat) (a1 : Int32) (sz : Nat) : Met l yX10_lay v_Y10_lay ({ frames := 8, cells := lc - S0.1, slots := ls - S0.2.1, locals := 226 }) (va_Pc [.ref (ad0 x0), .int a1] (cSt G K ad0 sz S0 ((S0.1 ≤ lc ∧ S0.2.1 ≤ ls) ∧ iK S0 x0 7 ∧ p_Y10_lay S0 x0 lc ls a1))) (va_Qi (fun (r : Int32) (u : Cst × (Nat → Nat)) => (r, u.1) = f_Y10_lay S0 x0 a1 ∧ eN S0 u.1 ∧ (∀ q, q < S0.1 → u.2 q = ad0 q)) (fun u t => cBt G K u.2 (va_A (wsC K ad0 S0) sz) u.1 t) (va_A (wsC K ad0 S0) sz)) (lc - S0.1) (ls - S0.2.1) (va_A (wsC K ad0 S0) sz) := by
  refine Met.ofW (cc := cX10_lay) (maxL := 2) (ret := (some .int)) (by decide) rfl ?_
  intro p e s m args below meth c s₁ B hml hv
  obtain ⟨rfl, ⟨hsz, hP, hK, hD0, hTE⟩, hp⟩ := hv
  obtain ⟨k_l, hp⟩ := hp
  obtain ⟨k_x0, hp⟩ := hp
  have hx := B.exec
  have hb := B.bytes
  have hr := B.returns
  have hts := atoms_spec (ws := v_Y10_lay) B.pre
  have t_ := t_Y10_lay
  have mw : ∀ w ∈ e_Y10_lay, w ∈ v_Y10_lay := fun w h => List.mem_cons_of_mem _ (List.mem_append_left _ h)
  have hw := fun w (h : w ∈ e_Y10_lay) => hts w (mw w h)
  have iX10 : ∀ w ∈ wsX100, w ∈ v_Y10_lay := fun w h => List.mem_cons_of_mem _ (List.mem_append_right _ (List.mem_append_left _ h))
  have j_Y0_enact : ∀ w ∈ v_Y0_enact, w ∈ v_Y10_lay := fun w h => List.mem_cons_of_mem _ (List.mem_append_right _ (List.mem_append_right _ (List.mem_append_left _ h)))
  have hown : s.vm.findClass RX10 = some m.cls := findClass_of_methodNamed B.named
  have hlocks := B.notSynchronized
  subst hsz
  have hD := hD0.self (sz := s.heap.size)
  generalize hAe : va_A (wsC K ad0 S0) s.heap.size = A at hD ⊢
  have hA : ∀ q : Nat, s.heap.size ≤ q → A q := fun q h => by rw [← hAe]; exact Or.inr h
  have hS : va_S A s.heap s.heap [] := va_S.rf
  have hl : lv_has (lg_sl ([.ref (ad0 x0), .int a1]) ++ List.replicate (2 - (lg_sl ([.ref (ad0 x0), .int a1])).length) Slot.unset).toArray 2 [(0, .ref (ad0 x0)), (1, .int a1)] := by
    exact lv_entry ([.ref (ad0 x0), .int a1]) (n := 2) (Nat.le_of_ble_eq_true rfl)
  rw [lg_entry_eq]
  generalize (lg_sl ([.ref (ad0 x0), .int a1]) ++ List.replicate (2 - (lg_sl ([.ref (ad0 x0), .int a1])).length) Slot.unset).toArray = ls_ at hl ⊢
  refine wGen (fun Q hQ => ?_)
  obtain ⟨X, hX⟩ : ∃ X, f_Y10_lay S0 x0 a1 = X := ⟨_, rfl⟩
  have B_Y10_lay_13a : ∀ (S : Cst) (ad : Nat → Nat) (x1 : Int32) (y0 : Int32) (H : Heap) (locs : List Loc) (ls_ : Array Slot), b_Y10_lay_13a S x0 x1 y0 = X → q_Y10_lay_13a S x0 lc ls x1 y0 → nH S0 ad0 lc ls S ad → va_P G vwCl (wsC K ad S) H → va_D A (wsC K ad S) → va_S A s.heap H locs → lv_has ls_ 2 [(0, .ref (ad x0)), (1, .int x1)] → W p l e ({ frames := 8, cells := lc - S0.1, slots := ls - S0.2.1, locals := 226 } : Room) s m #[Value.ref (ad0 x0), Value.int a1] below meth c H locs (S.1 - S0.1) (S.2.1 - S0.2.1) Q (F0 m 13 ls_ [.int y0]) := by
    intro S ad x1 y0 H locs ls_ hE hp hZ hP hD hS hl
    unfold b_Y10_lay_13a at hE
    unfold q_Y10_lay_13a at hp
    refine W.widen (k := lc - S0.1) (n := ls - S0.2.1) (show S.1 - S0.1 ≤ lc - S0.1 from Nat.sub_le_sub_right hZ.2.2.1 _) (show S.2.1 - S0.2.1 ≤ ls - S0.2.1 from Nat.sub_le_sub_right hZ.2.2.2 _) ?_
    subst hQ
    exact W.iret (v := y0) hx hb hr (fun t ht hW => ⟨⟨y0, (S, ad), rfl, ⟨hE.trans hX.symm, hZ.1, hZ.2.1⟩, by rw [ht]; exact hP, hD⟩, hS.F ht⟩) hS.2.2 dX10_lay_13
  have B_M : ∀ (S : Cst) (ad : Nat → Nat) (x1 : Int32) (H : Heap) (locs : List Loc) (ls_ : Array Slot), f_Y10_lay S x0 x1 = X → p_Y10_lay S x0 lc ls x1 → nH S0 ad0 lc ls S ad → va_P G vwCl (wsC K ad S) H → va_D A (wsC K ad S) → va_S A s.heap H locs → lv_has ls_ 2 [(0, .ref (ad x0)), (1, .int x1)] → W p l e ({ frames := 8, cells := lc - S0.1, slots := ls - S0.2.1, locals := 226 } : Room) s m #[Value.ref (ad0 x0), Value.int a1] below meth c H locs (S.1 - S0.1) (S.2.1 - S0.2.1) Q (F0 m 0 ls_ []) := by
    intro S ad x1 H locs ls_ hE hp hZ hP hD hS hl
    unfold f_Y10_lay at hE
    unfold p_Y10_lay at hp
    refine lv_aload_n hx hb dX10_lay_0 rfl (lv_at hl 0 rfl) ?_
    refine va_get (D := G) (ci := 7) (v := va_re ad (grC S x0 0)) (C := RX10) (T := TX10) (N := 5) hx hb hts iX10 hown hK hP x0 (at_7 (k_x0.n hZ.1)) rfl 0 (by decide) (hw (.fieldLink RX10 10 "MotionFloor" "now" "LMotionFloor$Assembly;") (List.mem_of_getElem? (i := 0) rfl)) (fun _ h9 => h9) rfl dX10_lay_1 ?_
    refine lv_bipush (v := 13) hx hb dX10_lay_4 (by decide) ?_
    refine lv_iload_n hx hb dX10_lay_6 rfl (lv_at hl 1 rfl) ?_
    refine lv_iconst (v := 0) hx hb dX10_lay_7 (by decide) ?_
    refine lv_iconst (v := 0) hx hb dX10_lay_8 (by decide) ?_
    refine lv_iconst (v := 0) hx hb dX10_lay_9 (by decide) ?_
    obtain ⟨hy1, hp⟩ := hp
    refine cTop6 (r := (grC S x0 0)) hy1.1 ?_
    obtain ⟨hy2, hp⟩ := hp
    obtain ⟨hy3, hp⟩ := hp
    refine cNoi (va_runV (As := [.int 13, .int x1, .int 0, .int 0, .int 0]) (rest := []) ⟨hx, hb, hml, hown, hts⟩ (c_Y0_enact l G K ad S ((grC S x0 0).getD 0) (f_Y0_enact S ((grC S x0 0).getD 0) (13 : Int32) x1 (0 : Int32) (0 : Int32) (0 : Int32)).2.1 (f_Y0_enact S ((grC S x0 0).getD 0) (13 : Int32) x1 (0 : Int32) (0 : Int32) (0 : Int32)).2.2.1 (13 : Int32) x1 (0 : Int32) (0 : Int32) (0 : Int32) _) (cwV 5 hts (wGV t_ (mw (.methodLink RX10 32 yX0_enact) (List.mem_of_getElem? (i := 1) rfl)) (mw (.instanceMethod yX0_enact) (List.mem_of_getElem? (i := 2) rfl)) (mw (.selects RX0 yX0_enact yX0_enact) (List.mem_of_getElem? (i := 3) rfl)) (mw (.initialized RX0) (List.mem_of_getElem? (i := 4) rfl)) j_Y0_enact) rfl rfl rfl (by decide +kernel) ⟨Nat.le_of_ble_eq_true rfl, Nat.le_of_ble_eq_true rfl⟩) (cPV hK hTE hP hD 0 rfl (at_0 hy1.2) ⟨⟨hy2.1.1, hy2.2.1⟩, hy1.2, hy3⟩) rfl rfl hl.1 rfl (lv_room (Nat.le_of_ble_eq_true rfl)) dX10_lay_10 ⟨by show _ ≤ lc - S0.1; have := hZ.1.1.1; have := hy2.1; omega, by show _ ≤ ls - S0.2.1; have := hZ.1.1.2; have := hy2.2; omega⟩) hP hD hS hA (fun r5 u4 H locs hv hP hD hS => ?_)
    obtain ⟨hv, hz, ha⟩ := hv
    have e1 : (f_Y0_enact S ((grC S x0 0).getD 0) (13 : Int32) x1 (0 : Int32) (0 : Int32) (0 : Int32)).2.1 = u4.1.1 := by rw [← hv]
    have e2 : (f_Y0_enact S ((grC S x0 0).getD 0) (13 : Int32) x1 (0 : Int32) (0 : Int32) (0 : Int32)).2.2.1 = u4.1.2.1 := by rw [← hv]
    refine cCells (cells' := u4.1.1 - S0.1) (slots' := u4.1.2.1 - S0.2.1) (by have := hZ.1.1.1; have := hy2.1; omega) (by have := hZ.1.1.2; have := hy2.2; omega) ?_
    rw [← ha x0 (k_x0.n hZ.1).1] at hl
    have hZ := hZ.n hz ha (by rw [← e1]; exact hy2.1.2) (by rw [← e2]; exact hy2.2.2)
    rw [← hv] at hE hp
    dsimp only at hE hp
    exact B_Y10_lay_13a u4.1 u4.2 x1 r5 _ _ _ hE hp hZ hP hD hS (lv_sub hl [0, 1] rfl)
  exact cCells (Nat.sub_self _).symm (Nat.sub_self _).symm (B_M S0 ad0 a1 _ _ _ hX hp (nH.rf S0 ad0 k_l) hP hD hS hl)
theorem gdX10_take_0 : ckS (List.drop 0 cX10_take.data.toList) 0 [(0, .aload_n 0, 1), (1, .getfield 10, 3), (4, .bipush 14, 2), (6, .iload_n 1, 1), (7, .iconst 0, 1), (8, .iconst 0, 1), (9, .iconst 0, 1), (10, .invokevirtual 32, 3), (13, .ireturn, 1)] = true := by decide +kernel
theorem dX10_take_0 : decode cX10_take 0 = .ok (.aload_n 0, 1) := ckS_g gdX10_take_0 0 rfl
theorem dX10_take_1 : decode cX10_take 1 = .ok (.getfield 10, 3) := ckS_g gdX10_take_0 1 rfl
theorem dX10_take_4 : decode cX10_take 4 = .ok (.bipush 14, 2) := ckS_g gdX10_take_0 2 rfl
theorem dX10_take_6 : decode cX10_take 6 = .ok (.iload_n 1, 1) := ckS_g gdX10_take_0 3 rfl
theorem dX10_take_7 : decode cX10_take 7 = .ok (.iconst 0, 1) := ckS_g gdX10_take_0 4 rfl
theorem dX10_take_8 : decode cX10_take 8 = .ok (.iconst 0, 1) := ckS_g gdX10_take_0 5 rfl
theorem dX10_take_9 : decode cX10_take 9 = .ok (.iconst 0, 1) := ckS_g gdX10_take_0 6 rfl
theorem dX10_take_10 : decode cX10_take 10 = .ok (.invokevirtual 32, 3) := ckS_g gdX10_take_0 7 rfl
theorem dX10_take_13 : decode cX10_take 13 = .ok (.ireturn, 1) := ckS_g gdX10_take_0 8 rfl
set_option maxRecDepth 100000 in
theorem zc707 : wZ (.code yX10_take cX10_take 2 (some .int)) := ⟨wT4 (List.mem_of_getElem? (i := 79) rfl), Or.inl rfl⟩
def b_Y10_take_13a (S : Cst) (x0 : Nat) (x1 : Int32) (y0 : Int32) : Int32 × Cst := (y0, S)
def q_Y10_take_13a (S : Cst) (x0 : Nat) (lc : Nat) (ls : Nat) (x1 : Int32) (y0 : Int32) : Prop := True
def f_Y10_take (S : Cst) (x0 : Nat) (x1 : Int32) : Int32 × Cst := (b_Y10_take_13a ((f_Y0_enact S ((grC S x0 0).getD 0) (14 : Int32) x1 (0 : Int32) (0 : Int32) (0 : Int32)).2) x0 x1 ((f_Y0_enact S ((grC S x0 0).getD 0) (14 : Int32) x1 (0 : Int32) (0 : Int32) (0 : Int32)).1))
def p_Y10_take (S : Cst) (x0 : Nat) (lc : Nat) (ls : Nat) (x1 : Int32) : Prop := (iR S (grC S x0 0) 0) ∧ ((S.1 ≤ (f_Y0_enact S ((grC S x0 0).getD 0) (14 : Int32) x1 (0 : Int32) (0 : Int32) (0 : Int32)).2.1 ∧ (f_Y0_enact S ((grC S x0 0).getD 0) (14 : Int32) x1 (0 : Int32) (0 : Int32) (0 : Int32)).2.1 ≤ lc) ∧ (S.2.1 ≤ (f_Y0_enact S ((grC S x0 0).getD 0) (14 : Int32) x1 (0 : Int32) (0 : Int32) (0 : Int32)).2.2.1 ∧ (f_Y0_enact S ((grC S x0 0).getD 0) (14 : Int32) x1 (0 : Int32) (0 : Int32) (0 : Int32)).2.2.1 ≤ ls)) ∧ (p_Y0_enact S ((grC S x0 0).getD 0) (f_Y0_enact S ((grC S x0 0).getD 0) (14 : Int32) x1 (0 : Int32) (0 : Int32) (0 : Int32)).2.1 (f_Y0_enact S ((grC S x0 0).getD 0) (14 : Int32) x1 (0 : Int32) (0 : Int32) (0 : Int32)).2.2.1 (14 : Int32) x1 (0 : Int32) (0 : Int32) (0 : Int32)) ∧ (q_Y10_take_13a ((f_Y0_enact S ((grC S x0 0).getD 0) (14 : Int32) x1 (0 : Int32) (0 : Int32) (0 : Int32)).2) x0 lc ls x1 ((f_Y0_enact S ((grC S x0 0).getD 0) (14 : Int32) x1 (0 : Int32) (0 : Int32) (0 : Int32)).1))
def e_Y10_take : List Cond := [.fieldLink RX10 10 "MotionFloor" "now" "LMotionFloor$Assembly;", .methodLink RX10 32 yX0_enact, .instanceMethod yX0_enact, .selects RX0 yX0_enact yX0_enact, .initialized RX0]
def v_Y10_take : List Cond := .code yX10_take cX10_take 2 (some .int) :: (e_Y10_take ++ (wsX100 ++ (v_Y0_enact ++ [])))
theorem te_Y10_take : GoodIn lw_tbl e_Y10_take := wGc zc496 (wGc zc693 (wGc zc692 (wGc zc691 (wGc zc39 (wG0)))))
theorem t_Y10_take : GoodIn lw_tbl v_Y10_take := wGc zc707 (wGa te_Y10_take (wGa zcX10 (wGa t_Y0_enact (wG0))))
set_option maxHeartbeats 4000000 in
set_option maxRecDepth 100000 in
theorem c_Y10_take (l : Launch) (G : va_G) (K : Nat → ClassId) (ad0 : Nat → Nat) (S0 : Cst) (x0 : Nat) (lc : Nat) (ls : Nat) (a1 : Int32) (sz : Nat) : Met l yX10_take v_Y10_take ({ frames := 8, cells := lc - S0.1, slots := ls - S0.2.1, locals := 226 }) (va_Pc [.ref (ad0 x0), .int a1] (cSt G K ad0 sz S0 ((S0.1 ≤ lc ∧ S0.2.1 ≤ ls) ∧ iK S0 x0 7 ∧ p_Y10_take S0 x0 lc ls a1))) (va_Qi (fun (r : Int32) (u : Cst × (Nat → Nat)) => (r, u.1) = f_Y10_take S0 x0 a1 ∧ eN S0 u.1 ∧ (∀ q, q < S0.1 → u.2 q = ad0 q)) (fun u t => cBt G K u.2 (va_A (wsC K ad0 S0) sz) u.1 t) (va_A (wsC K ad0 S0) sz)) (lc - S0.1) (ls - S0.2.1) (va_A (wsC K ad0 S0) sz) := by
  refine Met.ofW (cc := cX10_take) (maxL := 2) (ret := (some .int)) (by decide) rfl ?_
  intro p e s m args below meth c s₁ B hml hv
  obtain ⟨rfl, ⟨hsz, hP, hK, hD0, hTE⟩, hp⟩ := hv
  obtain ⟨k_l, hp⟩ := hp
  obtain ⟨k_x0, hp⟩ := hp
  have hx := B.exec
  have hb := B.bytes
  have hr := B.returns
  have hts := atoms_spec (ws := v_Y10_take) B.pre
  have t_ := t_Y10_take
  have mw : ∀ w ∈ e_Y10_take, w ∈ v_Y10_take := fun w h => List.mem_cons_of_mem _ (List.mem_append_left _ h)
  have hw := fun w (h : w ∈ e_Y10_take) => hts w (mw w h)
  have iX10 : ∀ w ∈ wsX100, w ∈ v_Y10_take := fun w h => List.mem_cons_of_mem _ (List.mem_append_right _ (List.mem_append_left _ h))
  have j_Y0_enact : ∀ w ∈ v_Y0_enact, w ∈ v_Y10_take := fun w h => List.mem_cons_of_mem _ (List.mem_append_right _ (List.mem_append_right _ (List.mem_append_left _ h)))
  have hown : s.vm.findClass RX10 = some m.cls := findClass_of_methodNamed B.named
  have hlocks := B.notSynchronized
  subst hsz
  have hD := hD0.self (sz := s.heap.size)
  generalize hAe : va_A (wsC K ad0 S0) s.heap.size = A at hD ⊢
  have hA : ∀ q : Nat, s.heap.size ≤ q → A q := fun q h => by rw [← hAe]; exact Or.inr h
  have hS : va_S A s.heap s.heap [] := va_S.rf
  have hl : lv_has (lg_sl ([.ref (ad0 x0), .int a1]) ++ List.replicate (2 - (lg_sl ([.ref (ad0 x0), .int a1])).length) Slot.unset).toArray 2 [(0, .ref (ad0 x0)), (1, .int a1)] := by
    exact lv_entry ([.ref (ad0 x0), .int a1]) (n := 2) (Nat.le_of_ble_eq_true rfl)
  rw [lg_entry_eq]
  generalize (lg_sl ([.ref (ad0 x0), .int a1]) ++ List.replicate (2 - (lg_sl ([.ref (ad0 x0), .int a1])).length) Slot.unset).toArray = ls_ at hl ⊢
  refine wGen (fun Q hQ => ?_)
  obtain ⟨X, hX⟩ : ∃ X, f_Y10_take S0 x0 a1 = X := ⟨_, rfl⟩
  have B_Y10_take_13a : ∀ (S : Cst) (ad : Nat → Nat) (x1 : Int32) (y0 : Int32) (H : Heap) (locs : List Loc) (ls_ : Array Slot), b_Y10_take_13a S x0 x1 y0 = X → q_Y10_take_13a S x0 lc ls x1 y0 → nH S0 ad0 lc ls S ad → va_P G vwCl (wsC K ad S) H → va_D A (wsC K ad S) → va_S A s.heap H locs → lv_has ls_ 2 [(0, .ref (ad x0)), (1, .int x1)] → W p l e ({ frames := 8, cells := lc - S0.1, slots := ls - S0.2.1, locals := 226 } : Room) s m #[Value.ref (ad0 x0), Value.int a1] below meth c H locs (S.1 - S0.1) (S.2.1 - S0.2.1) Q (F0 m 13 ls_ [.int y0]) := by
    intro S ad x1 y0 H locs ls_ hE hp hZ hP hD hS hl
    unfold b_Y10_take_13a at hE
    unfold q_Y10_take_13a at hp
    refine W.widen (k := lc - S0.1) (n := ls - S0.2.1) (show S.1 - S0.1 ≤ lc - S0.1 from Nat.sub_le_sub_right hZ.2.2.1 _) (show S.2.1 - S0.2.1 ≤ ls - S0.2.1 from Nat.sub_le_sub_right hZ.2.2.2 _) ?_
    subst hQ
    exact W.iret (v := y0) hx hb hr (fun t ht hW => ⟨⟨y0, (S, ad), rfl, ⟨hE.trans hX.symm, hZ.1, hZ.2.1⟩, by rw [ht]; exact hP, hD⟩, hS.F ht⟩) hS.2.2 dX10_take_13
  have B_M : ∀ (S : Cst) (ad : Nat → Nat) (x1 : Int32) (H : Heap) (locs : List Loc) (ls_ : Array Slot), f_Y10_take S x0 x1 = X → p_Y10_take S x0 lc ls x1 → nH S0 ad0 lc ls S ad → va_P G vwCl (wsC K ad S) H → va_D A (wsC K ad S) → va_S A s.heap H locs → lv_has ls_ 2 [(0, .ref (ad x0)), (1, .int x1)] → W p l e ({ frames := 8, cells := lc - S0.1, slots := ls - S0.2.1, locals := 226 } : Room) s m #[Value.ref (ad0 x0), Value.int a1] below meth c H locs (S.1 - S0.1) (S.2.1 - S0.2.1) Q (F0 m 0 ls_ []) := by
    intro S ad x1 H locs ls_ hE hp hZ hP hD hS hl
    unfold f_Y10_take at hE
    unfold p_Y10_take at hp
    refine lv_aload_n hx hb dX10_take_0 rfl (lv_at hl 0 rfl) ?_
    refine va_get (D := G) (ci := 7) (v := va_re ad (grC S x0 0)) (C := RX10) (T := TX10) (N := 5) hx hb hts iX10 hown hK hP x0 (at_7 (k_x0.n hZ.1)) rfl 0 (by decide) (hw (.fieldLink RX10 10 "MotionFloor" "now" "LMotionFloor$Assembly;") (List.mem_of_getElem? (i := 0) rfl)) (fun _ h9 => h9) rfl dX10_take_1 ?_
    refine lv_bipush (v := 14) hx hb dX10_take_4 (by decide) ?_
    refine lv_iload_n hx hb dX10_take_6 rfl (lv_at hl 1 rfl) ?_
    refine lv_iconst (v := 0) hx hb dX10_take_7 (by decide) ?_
    refine lv_iconst (v := 0) hx hb dX10_take_8 (by decide) ?_
    refine lv_iconst (v := 0) hx hb dX10_take_9 (by decide) ?_
    obtain ⟨hy1, hp⟩ := hp
    refine cTop6 (r := (grC S x0 0)) hy1.1 ?_
    obtain ⟨hy2, hp⟩ := hp
    obtain ⟨hy3, hp⟩ := hp
    refine cNoi (va_runV (As := [.int 14, .int x1, .int 0, .int 0, .int 0]) (rest := []) ⟨hx, hb, hml, hown, hts⟩ (c_Y0_enact l G K ad S ((grC S x0 0).getD 0) (f_Y0_enact S ((grC S x0 0).getD 0) (14 : Int32) x1 (0 : Int32) (0 : Int32) (0 : Int32)).2.1 (f_Y0_enact S ((grC S x0 0).getD 0) (14 : Int32) x1 (0 : Int32) (0 : Int32) (0 : Int32)).2.2.1 (14 : Int32) x1 (0 : Int32) (0 : Int32) (0 : Int32) _) (cwV 5 hts (wGV t_ (mw (.methodLink RX10 32 yX0_enact) (List.mem_of_getElem? (i := 1) rfl)) (mw (.instanceMethod yX0_enact) (List.mem_of_getElem? (i := 2) rfl)) (mw (.selects RX0 yX0_enact yX0_enact) (List.mem_of_getElem? (i := 3) rfl)) (mw (.initialized RX0) (List.mem_of_getElem? (i := 4) rfl)) j_Y0_enact) rfl rfl rfl (by decide +kernel) ⟨Nat.le_of_ble_eq_true rfl, Nat.le_of_ble_eq_true rfl⟩) (cPV hK hTE hP hD 0 rfl (at_0 hy1.2) ⟨⟨hy2.1.1, hy2.2.1⟩, hy1.2, hy3⟩) rfl rfl hl.1 rfl (lv_room (Nat.le_of_ble_eq_true rfl)) dX10_take_10 ⟨by show _ ≤ lc - S0.1; have := hZ.1.1.1; have := hy2.1; omega, by show _ ≤ ls - S0.2.1; have := hZ.1.1.2; have := hy2.2; omega⟩) hP hD hS hA (fun r5 u4 H locs hv hP hD hS => ?_)
    obtain ⟨hv, hz, ha⟩ := hv
    have e1 : (f_Y0_enact S ((grC S x0 0).getD 0) (14 : Int32) x1 (0 : Int32) (0 : Int32) (0 : Int32)).2.1 = u4.1.1 := by rw [← hv]
    have e2 : (f_Y0_enact S ((grC S x0 0).getD 0) (14 : Int32) x1 (0 : Int32) (0 : Int32) (0 : Int32)).2.2.1 = u4.1.2.1 := by rw [← hv]
    refine cCells (cells' := u4.1.1 - S0.1) (slots' := u4.1.2.1 - S0.2.1) (by have := hZ.1.1.1; have := hy2.1; omega) (by have := hZ.1.1.2; have := hy2.2; omega) ?_
    rw [← ha x0 (k_x0.n hZ.1).1] at hl
    have hZ := hZ.n hz ha (by rw [← e1]; exact hy2.1.2) (by rw [← e2]; exact hy2.2.2)
    rw [← hv] at hE hp
    dsimp only at hE hp
    exact B_Y10_take_13a u4.1 u4.2 x1 r5 _ _ _ hE hp hZ hP hD hS (lv_sub hl [0, 1] rfl)
  exact cCells (Nat.sub_self _).symm (Nat.sub_self _).symm (B_M S0 ad0 a1 _ _ _ hX hp (nH.rf S0 ad0 k_l) hP hD hS hl)
