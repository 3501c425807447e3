def b_X12_in_15 (x0 x1 x2 y0 : Int32) : Int32 := y0
def q_X12_in_15 (x0 x1 x2 y0 : Int32) : Prop := (narrow .boolean (.int y0) = .int y0) ∧ True
def b_X12_in_14 (x0 x1 x2 : Int32) : Int32 := (b_X12_in_15 x0 x1 x2 0)
def q_X12_in_14 (x0 x1 x2 : Int32) : Prop := (q_X12_in_15 x0 x1 x2 0)
def f_X12_in (x0 x1 x2 : Int32) : Int32 := if x0 < x1 then (b_X12_in_14 x0 x1 x2) else if x2 < x0 then (b_X12_in_14 x0 x1 x2) else (b_X12_in_15 x0 x1 x2 1)
def p_X12_in (x0 x1 x2 : Int32) : Prop := (if x0 < x1 then (q_X12_in_14 x0 x1 x2) else (if x2 < x0 then (q_X12_in_14 x0 x1 x2) else (q_X12_in_15 x0 x1 x2 1)))
def e_X12_in : List Cond := []
def v_X12_in : List Cond := .code yX12_in cX12_in 3 (some .boolean) :: (e_X12_in ++ [])
theorem te_X12_in : GoodIn lw_tbl e_X12_in := wG0
theorem t_X12_in : GoodIn lw_tbl v_X12_in := wGc z0 (wGa te_X12_in (wG0))
set_option maxHeartbeats 4000000 in
set_option maxRecDepth 100000 in
theorem c_X12_in (l : Launch) (G : va_G) (K : Nat → ClassId) (a0 a1 a2 : Int32) (sz : Nat) : Met l yX12_in v_X12_in ({ frames := 0, cells := 0, slots := 0, locals := 0 }) (va_Pc [.int a0, .int a1, .int a2] (nS G K sz (p_X12_in a0 a1 a2))) (va_Qi (fun (r : Int32) (_ : Unit) => r = f_X12_in a0 a1 a2) (fun _ _ => True) (va_A [] sz)) 0 0 (va_A [] sz) := by
  refine Met.ofW (cc := cX12_in) (maxL := 3) (ret := (some .boolean)) (by decide) rfl ?_
  intro p e s m args below meth c s₁ B hml hv
  obtain ⟨rfl, ⟨hsz, hP, hK, hD0, hTE⟩, hp⟩ := hv
  have hx := B.exec
  have hb := B.bytes
  have hr := B.returns
  have hts := atoms_spec (ws := v_X12_in) B.pre
  have t_ := t_X12_in
  have mw : ∀ w ∈ e_X12_in, w ∈ v_X12_in := fun w h => List.mem_cons_of_mem _ (List.mem_append_left _ h)
  have hw := fun w (h : w ∈ e_X12_in) => hts w (mw w h)
  have hown : s.vm.findClass RX12 = some m.cls := findClass_of_methodNamed B.named
  have hlocks := B.notSynchronized
  subst hsz
  generalize hAe : va_A [] s.heap.size = A at ⊢
  have hA : ∀ q : Nat, s.heap.size ≤ q → A q := fun q h => by rw [← hAe]; exact Or.inr h
  have hS : va_S A s.heap s.heap [] := va_S.rf
  have hl := lv_entry ([.int a0, .int a1, .int a2]) (n := 3) (Nat.le_of_ble_eq_true rfl)
  rw [lg_entry_eq]
  generalize (lg_sl ([.int a0, .int a1, .int a2]) ++ List.replicate (3 - (lg_sl ([.int a0, .int a1, .int a2])).length) Slot.unset).toArray = ls at hl ⊢
  have hl : lv_has ls 3 [(0, .int a0), (1, .int a1), (2, .int a2)] := hl
  refine wGen (fun Q hQ => ?_)
  obtain ⟨X, hX⟩ : ∃ X, f_X12_in a0 a1 a2 = X := ⟨_, rfl⟩
  have B_15 : ∀ (x0 x1 x2 y0 : Int32) (H : Heap) (locs : List Loc) (ls : Array Slot), b_X12_in_15 x0 x1 x2 y0 = X → q_X12_in_15 x0 x1 x2 y0 → va_S A s.heap H locs → lv_has ls 3 [(0, .int x0), (1, .int x1), (2, .int x2)] → W p l e ({ frames := 0, cells := 0, slots := 0, locals := 0 } : Room) s m #[Value.int a0, Value.int a1, Value.int a2] below meth c H locs 0 0 Q (F0 m 15 ls [.int y0]) := by
    intro x0 x1 x2 y0 H locs ls hE hp hS hl
    unfold b_X12_in_15 at hE
    unfold q_X12_in_15 at hp
    obtain ⟨h2, hp⟩ := hp
    subst hQ
    exact W.zret (v := y0) (ty := .boolean) hx hb hr h2 (fun t ht hW => ⟨⟨y0, (), rfl, hE.trans hX.symm, trivial⟩, hS.F ht⟩) hS.2.2 dX12_in_15
  have B_14 : ∀ (x0 x1 x2 : Int32) (H : Heap) (locs : List Loc) (ls : Array Slot), b_X12_in_14 x0 x1 x2 = X → q_X12_in_14 x0 x1 x2 → va_S A s.heap H locs → lv_has ls 3 [(0, .int x0), (1, .int x1), (2, .int x2)] → W p l e ({ frames := 0, cells := 0, slots := 0, locals := 0 } : Room) s m #[Value.int a0, Value.int a1, Value.int a2] below meth c H locs 0 0 Q (F0 m 14 ls []) := by
    intro x0 x1 x2 H locs ls hE hp hS hl
    unfold b_X12_in_14 at hE
    unfold q_X12_in_14 at hp
    refine lv_iconst (v := 0) hx hb dX12_in_14 (by decide) ?_
    exact B_15 x0 x1 x2 0 _ _ _ hE hp hS (lv_sub hl [0, 1, 2] rfl)
  have B_M : ∀ (x0 x1 x2 : Int32) (H : Heap) (locs : List Loc) (ls : Array Slot), f_X12_in x0 x1 x2 = X → p_X12_in x0 x1 x2 → va_S A s.heap H locs → lv_has ls 3 [(0, .int x0), (1, .int x1), (2, .int x2)] → W p l e ({ frames := 0, cells := 0, slots := 0, locals := 0 } : Room) s m #[Value.int a0, Value.int a1, Value.int a2] below meth c H locs 0 0 Q (F0 m 0 ls []) := by
    intro x0 x1 x2 H locs ls hE hp hS hl
    unfold f_X12_in at hE
    unfold p_X12_in at hp
    refine lv_iload_n hx hb dX12_in_0 rfl (lv_at hl 0 rfl) ?_
    refine lv_iload_n hx hb dX12_in_1 rfl (lv_at hl 1 rfl) ?_
    refine lv_icmp_lt (tgt := 14) hx hb dX12_in_2 (by decide) (fun c1 => ?_) (fun c1 => ?_)
    · rw [if_pos c1] at hE hp
      exact B_14 x0 x1 x2 _ _ _ hE hp hS (lv_sub hl [0, 1, 2] rfl)
    · rw [if_neg c1] at hE hp
      refine lv_iload_n hx hb dX12_in_5 rfl (lv_at hl 0 rfl) ?_
      refine lv_iload_n hx hb dX12_in_6 rfl (lv_at hl 2 rfl) ?_
      refine lv_icmp_gt (tgt := 14) hx hb dX12_in_7 (by decide) (fun c3 => ?_) (fun c3 => ?_)
      · rw [if_pos c3] at hE hp
        exact B_14 x0 x1 x2 _ _ _ hE hp hS (lv_sub hl [0, 1, 2] rfl)
      · rw [if_neg c3] at hE hp
        refine lv_iconst (v := 1) hx hb dX12_in_10 (by decide) ?_
        refine lv_goto (tgt := 15) hx hb dX12_in_11 (by decide) ?_
        exact B_15 x0 x1 x2 1 _ _ _ hE hp hS (lv_sub hl [0, 1, 2] rfl)
  exact B_M a0 a1 a2 _ _ _ hX hp hS hl
def f_X11_isSeat (S : HS) (x1 : Int32) : Int32 × HS := ((f_X12_in x1 0 ((S.1 0) - 1)), S)
def p_X11_isSeat (S : HS) (x1 : Int32) : Prop := (p_X12_in x1 0 ((S.1 0) - 1)) ∧ (narrow .boolean (.int (f_X12_in x1 0 ((S.1 0) - 1))) = .int (f_X12_in x1 0 ((S.1 0) - 1))) ∧ True
def e_X11_isSeat : List Cond := [.fieldLink RX11 96 "MotionFloorModel$Hall" "seats" "I", .initialized RX12, .static yX12_in]
def v_X11_isSeat : List Cond := .code yX11_isSeat cX11_isSeat 2 (some .boolean) :: (e_X11_isSeat ++ (wsX110 ++ (v_X12_in ++ [])))
theorem te_X11_isSeat : GoodIn lw_tbl e_X11_isSeat := wGc z45 (wGc z44 (wGc z43 (wG0)))
theorem t_X11_isSeat : GoodIn lw_tbl v_X11_isSeat := wGc z46 (wGa te_X11_isSeat (wGa zcX11 (wGa t_X12_in (wG0))))
set_option maxHeartbeats 4000000 in
set_option maxRecDepth 100000 in
theorem c_X11_isSeat (l : Launch) (G : va_G) (K : Nat → ClassId) (h : Nat) (g : Nat → Nat) (S0 : HS) (a1 : Int32) (sz : Nat) : Met l yX11_isSeat v_X11_isSeat ({ frames := 1, cells := 0, slots := 0, locals := 22 }) (va_Pc [.ref h, .int a1] (hS G K h g sz S0 (p_X11_isSeat S0 a1))) (va_Qi (fun (r : Int32) (u : HS) => (r, u) = f_X11_isSeat S0 a1) (hB G K h g (va_A (hW K h g S0) sz)) (va_A (hW K h g S0) sz)) 0 0 (va_A (hW K h g S0) sz) := by
  refine Met.ofW (cc := cX11_isSeat) (maxL := 2) (ret := (some .boolean)) (by decide) rfl ?_
  intro p e s m args below meth c s₁ B hml hv
  obtain ⟨rfl, ⟨hsz, hP, hK, hD0, hTE⟩, hp⟩ := hv
  have hx := B.exec
  have hb := B.bytes
  have hr := B.returns
  have hts := atoms_spec (ws := v_X11_isSeat) B.pre
  have t_ := t_X11_isSeat
  have mw : ∀ w ∈ e_X11_isSeat, w ∈ v_X11_isSeat := fun w h => List.mem_cons_of_mem _ (List.mem_append_left _ h)
  have hw := fun w (h : w ∈ e_X11_isSeat) => hts w (mw w h)
  have iX11 : ∀ w ∈ wsX110, w ∈ v_X11_isSeat := fun w h => List.mem_cons_of_mem _ (List.mem_append_right _ (List.mem_append_left _ h))
  have j_X12_in : ∀ w ∈ v_X12_in, w ∈ v_X11_isSeat := fun w h => List.mem_cons_of_mem _ (List.mem_append_right _ (List.mem_append_right _ (List.mem_append_left _ h)))
  have hown : s.vm.findClass RX11 = some m.cls := findClass_of_methodNamed B.named
  have hlocks := B.notSynchronized
  subst hsz
  have hD := hD0.self (sz := s.heap.size)
  generalize hAe : va_A (hW K h g S0) s.heap.size = A at hD ⊢
  have hA : ∀ q : Nat, s.heap.size ≤ q → A q := fun q h => by rw [← hAe]; exact Or.inr h
  have hS : va_S A s.heap s.heap [] := va_S.rf
  have hl := lv_entry ([.ref h, .int a1]) (n := 2) (Nat.le_of_ble_eq_true rfl)
  rw [lg_entry_eq]
  generalize (lg_sl ([.ref h, .int a1]) ++ List.replicate (2 - (lg_sl ([.ref h, .int a1])).length) Slot.unset).toArray = ls at hl ⊢
  have hl : lv_has ls 2 [(0, .ref h), (1, .int a1)] := hl
  refine wGen (fun Q hQ => ?_)
  obtain ⟨X, hX⟩ : ∃ X, f_X11_isSeat S0 a1 = X := ⟨_, rfl⟩
  have B_M : ∀ (S : HS) (x1 : Int32) (H : Heap) (locs : List Loc) (ls : Array Slot), f_X11_isSeat S x1 = X → p_X11_isSeat S x1 → va_P G vwCl (hW K h g S) H → va_D A (hW K h g S) → va_S A s.heap H locs → lv_has ls 2 [(0, .ref h), (1, .int x1)] → W p l e ({ frames := 1, cells := 0, slots := 0, locals := 22 } : Room) s m #[Value.ref h, Value.int a1] below meth c H locs 0 0 Q (F0 m 0 ls []) := by
    intro S x1 H locs ls hE hp hP hD hS hl
    unfold f_X11_isSeat at hE
    unfold p_X11_isSeat at hp
    refine lv_iload_n hx hb dX11_isSeat_0 rfl (lv_at hl 1 rfl) ?_
    refine lv_iconst (v := 0) hx hb dX11_isSeat_1 (by decide) ?_
    refine lv_aload_n hx hb dX11_isSeat_2 rfl (lv_at hl 0 rfl) ?_
    refine va_get (D := G) (ci := 8) (v := .int (S.1 0)) (C := RX11) (T := TX11) (N := 42) hx hb hts iX11 hown hK hP 0 rfl rfl 0 (by decide) (hw (.fieldLink RX11 96 "MotionFloorModel$Hall" "seats" "I") (List.mem_of_getElem? (i := 0) rfl)) (fun _ h9 => h9) rfl dX11_isSeat_3 ?_
    refine lv_iconst (v := 1) hx hb dX11_isSeat_6 (by decide) ?_
    refine lv_isub hx hb dX11_isSeat_7 ?_
    obtain ⟨h1, hp⟩ := hp
    refine nGoi (va_runSN (As := [.int x1, .int 0, .int ((S.1 0) - 1)]) (rest := []) ⟨hx, hb, hml, hown, hts⟩ (c_X12_in l G K x1 0 ((S.1 0) - 1) _) ⟨va_cnB (host := "MotionFloorModel") 3 hts (wGP t_ j_X12_in) rfl rfl rfl hTE.2.2.2.2.2.2.2.2.2.1 (hw (.initialized RX12) (List.mem_of_getElem? (i := 1) rfl)) (by decide +kernel) ⟨Nat.le_of_ble_eq_true rfl, Nat.le_of_ble_eq_true rfl⟩, (hw (.static yX12_in) (List.mem_of_getElem? (i := 2) rfl)), trivial⟩ (nPS hK hTE h1) rfl rfl hl.1 rfl (lv_room (Nat.le_of_ble_eq_true rfl)) dX11_isSeat_8 ⟨Nat.le_of_ble_eq_true rfl, Nat.le_of_ble_eq_true rfl⟩) hP hS hA (fun r H locs hv hP hS => ?_)
    subst hv
    obtain ⟨h2, hp⟩ := hp
    subst hQ
    exact W.zret (v := (f_X12_in x1 0 ((S.1 0) - 1))) (ty := .boolean) hx hb hr h2 (fun t ht hW => ⟨⟨(f_X12_in x1 0 ((S.1 0) - 1)), S, rfl, hE.trans hX.symm, by rw [ht]; exact hP, hD⟩, hS.F ht⟩) hS.2.2 dX11_isSeat_11
  exact B_M S0 a1 _ _ _ hX hp hP hD hS hl
def f_X11_top (S : HS)  : Int32 × HS := ((S.2 31 ((S.1 6) - 1).toNatClampNeg), S)
def p_X11_top (S : HS)  : Prop := (vp_in ((S.1 6) - 1) 9) ∧ True
def e_X11_top : List Cond := [.fieldLink RX11 72 "MotionFloorModel$Hall" "row" "[I", .fieldLink RX11 115 "MotionFloorModel$Hall" "pending" "I"]
def v_X11_top : List Cond := .code yX11_top cX11_top 1 (some .int) :: (e_X11_top ++ (wsX110 ++ []))
theorem te_X11_top : GoodIn lw_tbl e_X11_top := wGc z48 (wGc z47 (wG0))
theorem t_X11_top : GoodIn lw_tbl v_X11_top := wGc z49 (wGa te_X11_top (wGa zcX11 (wG0)))
set_option maxHeartbeats 4000000 in
set_option maxRecDepth 100000 in
theorem c_X11_top (l : Launch) (G : va_G) (K : Nat → ClassId) (h : Nat) (g : Nat → Nat) (S0 : HS)  (sz : Nat) : Met l yX11_top v_X11_top ({ frames := 0, cells := 0, slots := 0, locals := 0 }) (va_Pc [.ref h] (hS G K h g sz S0 (p_X11_top S0))) (va_Qi (fun (r : Int32) (u : HS) => (r, u) = f_X11_top S0) (hB G K h g (va_A (hW K h g S0) sz)) (va_A (hW K h g S0) sz)) 0 0 (va_A (hW K h g S0) sz) := by
  refine Met.ofW (cc := cX11_top) (maxL := 1) (ret := (some .int)) (by decide) rfl ?_
  intro p e s m args below meth c s₁ B hml hv
  obtain ⟨rfl, ⟨hsz, hP, hK, hD0, hTE⟩, hp⟩ := hv
  have hx := B.exec
  have hb := B.bytes
  have hr := B.returns
  have hts := atoms_spec (ws := v_X11_top) B.pre
  have t_ := t_X11_top
  have mw : ∀ w ∈ e_X11_top, w ∈ v_X11_top := fun w h => List.mem_cons_of_mem _ (List.mem_append_left _ h)
  have hw := fun w (h : w ∈ e_X11_top) => hts w (mw w h)
  have iX11 : ∀ w ∈ wsX110, w ∈ v_X11_top := fun w h => List.mem_cons_of_mem _ (List.mem_append_right _ (List.mem_append_left _ h))
  have hown : s.vm.findClass RX11 = some m.cls := findClass_of_methodNamed B.named
  have hlocks := B.notSynchronized
  subst hsz
  have hD := hD0.self (sz := s.heap.size)
  generalize hAe : va_A (hW K h g S0) s.heap.size = A at hD ⊢
  have hA : ∀ q : Nat, s.heap.size ≤ q → A q := fun q h => by rw [← hAe]; exact Or.inr h
  have hS : va_S A s.heap s.heap [] := va_S.rf
  have hl := lv_entry ([.ref h]) (n := 1) (Nat.le_of_ble_eq_true rfl)
  rw [lg_entry_eq]
  generalize (lg_sl ([.ref h]) ++ List.replicate (1 - (lg_sl ([.ref h])).length) Slot.unset).toArray = ls at hl ⊢
  have hl : lv_has ls 1 [(0, .ref h)] := hl
  refine wGen (fun Q hQ => ?_)
  obtain ⟨X, hX⟩ : ∃ X, f_X11_top S0 = X := ⟨_, rfl⟩
  have B_M : ∀ (S : HS) (H : Heap) (locs : List Loc) (ls : Array Slot), f_X11_top S = X → p_X11_top S → va_P G vwCl (hW K h g S) H → va_D A (hW K h g S) → va_S A s.heap H locs → lv_has ls 1 [(0, .ref h)] → W p l e ({ frames := 0, cells := 0, slots := 0, locals := 0 } : Room) s m #[Value.ref h] below meth c H locs 0 0 Q (F0 m 0 ls []) := by
    intro S H locs ls hE hp hP hD hS hl
    unfold f_X11_top at hE
    unfold p_X11_top at hp
    refine lv_aload_n hx hb dX11_top_0 rfl (lv_at hl 0 rfl) ?_
    refine va_get (D := G) (ci := 8) (v := .ref (g 31)) (C := RX11) (T := TX11) (N := 42) hx hb hts iX11 hown hK hP 0 rfl rfl 31 (by decide) (hw (.fieldLink RX11 72 "MotionFloorModel$Hall" "row" "[I") (List.mem_of_getElem? (i := 0) rfl)) (fun _ h9 => h9) rfl dX11_top_1 ?_
    refine lv_aload_n hx hb dX11_top_4 rfl (lv_at hl 0 rfl) ?_
    refine va_get (D := G) (ci := 8) (v := .int (S.1 6)) (C := RX11) (T := TX11) (N := 42) hx hb hts iX11 hown hK hP 0 rfl rfl 6 (by decide) (hw (.fieldLink RX11 115 "MotionFloorModel$Hall" "pending" "I") (List.mem_of_getElem? (i := 1) rfl)) (fun _ h9 => h9) rfl dX11_top_5 ?_
    refine lv_iconst (v := 1) hx hb dX11_top_8 (by decide) ?_
    refine lv_isub hx hb dX11_top_9 ?_
    obtain ⟨h1, hp⟩ := hp
    refine va_iald hx hb hK hP 20 0 rfl rfl h1 dX11_top_10 ?_
    subst hQ
    exact W.iret (v := (S.2 31 ((S.1 6) - 1).toNatClampNeg)) hx hb hr (fun t ht hW => ⟨⟨(S.2 31 ((S.1 6) - 1).toNatClampNeg), S, rfl, hE.trans hX.symm, by rw [ht]; exact hP, hD⟩, hS.F ht⟩) hS.2.2 dX11_top_11
  exact B_M S0 _ _ _ hX hp hP hD hS hl
def b_X11_isHere_22 (S : HS) (x1 y0 : Int32) : Int32 × HS := (y0, S)
def q_X11_isHere_22 (S : HS) (x1 y0 : Int32) : Prop := (narrow .boolean (.int y0) = .int y0) ∧ True
def b_X11_isHere_21 (S : HS) (x1 : Int32) : Int32 × HS := (b_X11_isHere_22 S x1 0)
def q_X11_isHere_21 (S : HS) (x1 : Int32) : Prop := (q_X11_isHere_22 S x1 0)
def b_X11_isHere_a5 (S : HS) (x1 y0 : Int32) : Int32 × HS := if y0 = 0 then (b_X11_isHere_21 S x1) else if (S.2 11 x1.toNatClampNeg) = 0 then (b_X11_isHere_21 S x1) else (b_X11_isHere_22 S x1 1)
def q_X11_isHere_a5 (S : HS) (x1 y0 : Int32) : Prop := (if y0 = 0 then (q_X11_isHere_21 S x1) else (vp_in x1 200) ∧ (if (S.2 11 x1.toNatClampNeg) = 0 then (q_X11_isHere_21 S x1) else (q_X11_isHere_22 S x1 1)))
def f_X11_isHere (S : HS) (x1 : Int32) : Int32 × HS := (b_X11_isHere_a5 (f_X11_isSeat S x1).2 x1 (f_X11_isSeat S x1).1)
def p_X11_isHere (S : HS) (x1 : Int32) : Prop := (p_X11_isSeat S x1) ∧ (q_X11_isHere_a5 (f_X11_isSeat S x1).2 x1 (f_X11_isSeat S x1).1)
def e_X11_isHere : List Cond := [.methodLink RX11 140 yX11_isSeat, .instanceMethod yX11_isSeat, .selects RX11 yX11_isSeat yX11_isSeat, .initialized RX11, .fieldLink RX11 9 "MotionFloorModel$Hall" "isThere" "[Z"]
def v_X11_isHere : List Cond := .code yX11_isHere cX11_isHere 2 (some .boolean) :: (e_X11_isHere ++ (wsX110 ++ (v_X11_isSeat ++ [])))
theorem te_X11_isHere : GoodIn lw_tbl e_X11_isHere := wGc z54 (wGc z53 (wGc z52 (wGc z51 (wGc z50 (wG0)))))
theorem t_X11_isHere : GoodIn lw_tbl v_X11_isHere := wGc z55 (wGa te_X11_isHere (wGa zcX11 (wGa t_X11_isSeat (wG0))))
set_option maxHeartbeats 4000000 in
set_option maxRecDepth 100000 in
theorem c_X11_isHere (l : Launch) (G : va_G) (K : Nat → ClassId) (h : Nat) (g : Nat → Nat) (S0 : HS) (a1 : Int32) (sz : Nat) : Met l yX11_isHere v_X11_isHere ({ frames := 2, cells := 0, slots := 0, locals := 43 }) (va_Pc [.ref h, .int a1] (hS G K h g sz S0 (p_X11_isHere S0 a1))) (va_Qi (fun (r : Int32) (u : HS) => (r, u) = f_X11_isHere S0 a1) (hB G K h g (va_A (hW K h g S0) sz)) (va_A (hW K h g S0) sz)) 0 0 (va_A (hW K h g S0) sz) := by
  refine Met.ofW (cc := cX11_isHere) (maxL := 2) (ret := (some .boolean)) (by decide) rfl ?_
  intro p e s m args below meth c s₁ B hml hv
  obtain ⟨rfl, ⟨hsz, hP, hK, hD0, hTE⟩, hp⟩ := hv
  have hx := B.exec
  have hb := B.bytes
  have hr := B.returns
  have hts := atoms_spec (ws := v_X11_isHere) B.pre
  have t_ := t_X11_isHere
  have mw : ∀ w ∈ e_X11_isHere, w ∈ v_X11_isHere := fun w h => List.mem_cons_of_mem _ (List.mem_append_left _ h)
  have hw := fun w (h : w ∈ e_X11_isHere) => hts w (mw w h)
  have iX11 : ∀ w ∈ wsX110, w ∈ v_X11_isHere := fun w h => List.mem_cons_of_mem _ (List.mem_append_right _ (List.mem_append_left _ h))
  have j_X11_isSeat : ∀ w ∈ v_X11_isSeat, w ∈ v_X11_isHere := fun w h => List.mem_cons_of_mem _ (List.mem_append_right _ (List.mem_append_right _ (List.mem_append_left _ h)))
  have hown : s.vm.findClass RX11 = some m.cls := findClass_of_methodNamed B.named
  have hlocks := B.notSynchronized
  subst hsz
  have hD := hD0.self (sz := s.heap.size)
  generalize hAe : va_A (hW K h g S0) s.heap.size = A at hD ⊢
  have hA : ∀ q : Nat, s.heap.size ≤ q → A q := fun q h => by rw [← hAe]; exact Or.inr h
  have hS : va_S A s.heap s.heap [] := va_S.rf
  have hl := lv_entry ([.ref h, .int a1]) (n := 2) (Nat.le_of_ble_eq_true rfl)
  rw [lg_entry_eq]
  generalize (lg_sl ([.ref h, .int a1]) ++ List.replicate (2 - (lg_sl ([.ref h, .int a1])).length) Slot.unset).toArray = ls at hl ⊢
  have hl : lv_has ls 2 [(0, .ref h), (1, .int a1)] := hl
  refine wGen (fun Q hQ => ?_)
  obtain ⟨X, hX⟩ : ∃ X, f_X11_isHere S0 a1 = X := ⟨_, rfl⟩
  have B_22 : ∀ (S : HS) (x1 y0 : Int32) (H : Heap) (locs : List Loc) (ls : Array Slot), b_X11_isHere_22 S x1 y0 = X → q_X11_isHere_22 S x1 y0 → va_P G vwCl (hW K h g S) H → va_D A (hW K h g S) → va_S A s.heap H locs → lv_has ls 2 [(0, .ref h), (1, .int x1)] → W p l e ({ frames := 2, cells := 0, slots := 0, locals := 43 } : Room) s m #[Value.ref h, Value.int a1] below meth c H locs 0 0 Q (F0 m 22 ls [.int y0]) := by
    intro S x1 y0 H locs ls hE hp hP hD hS hl
    unfold b_X11_isHere_22 at hE
    unfold q_X11_isHere_22 at hp
    obtain ⟨h5, hp⟩ := hp
    subst hQ
    exact W.zret (v := y0) (ty := .boolean) hx hb hr h5 (fun t ht hW => ⟨⟨y0, S, rfl, hE.trans hX.symm, by rw [ht]; exact hP, hD⟩, hS.F ht⟩) hS.2.2 dX11_isHere_22
  have B_21 : ∀ (S : HS) (x1 : Int32) (H : Heap) (locs : List Loc) (ls : Array Slot), b_X11_isHere_21 S x1 = X → q_X11_isHere_21 S x1 → va_P G vwCl (hW K h g S) H → va_D A (hW K h g S) → va_S A s.heap H locs → lv_has ls 2 [(0, .ref h), (1, .int x1)] → W p l e ({ frames := 2, cells := 0, slots := 0, locals := 43 } : Room) s m #[Value.ref h, Value.int a1] below meth c H locs 0 0 Q (F0 m 21 ls []) := by
    intro S x1 H locs ls hE hp hP hD hS hl
    unfold b_X11_isHere_21 at hE
    unfold q_X11_isHere_21 at hp
    refine lv_iconst (v := 0) hx hb dX11_isHere_21 (by decide) ?_
    exact B_22 S x1 0 _ _ _ hE hp hP hD hS (lv_sub hl [0, 1] rfl)
  have B_M : ∀ (S : HS) (x1 : Int32) (H : Heap) (locs : List Loc) (ls : Array Slot), f_X11_isHere S x1 = X → p_X11_isHere S x1 → va_P G vwCl (hW K h g S) H → va_D A (hW K h g S) → va_S A s.heap H locs → lv_has ls 2 [(0, .ref h), (1, .int x1)] → W p l e ({ frames := 2, cells := 0, slots := 0, locals := 43 } : Room) s m #[Value.ref h, Value.int a1] below meth c H locs 0 0 Q (F0 m 0 ls []) := by
    intro S x1 H locs ls hE hp hP hD hS hl
    unfold f_X11_isHere at hE
    unfold p_X11_isHere at hp
    refine lv_aload_n hx hb dX11_isHere_0 rfl (lv_at hl 0 rfl) ?_
    refine lv_iload_n hx hb dX11_isHere_1 rfl (lv_at hl 1 rfl) ?_
    obtain ⟨h1, hp⟩ := hp
    refine hGoi (va_runV (As := [.int x1]) (rest := []) ⟨hx, hb, hml, hown, hts⟩ (c_X11_isSeat l G K h g S x1 _) (cwV 1 hts (wGV t_ (mw (.methodLink RX11 140 yX11_isSeat) (List.mem_of_getElem? (i := 0) rfl)) (mw (.instanceMethod yX11_isSeat) (List.mem_of_getElem? (i := 1) rfl)) (mw (.selects RX11 yX11_isSeat yX11_isSeat) (List.mem_of_getElem? (i := 2) rfl)) (mw (.initialized RX11) (List.mem_of_getElem? (i := 3) rfl)) j_X11_isSeat) rfl rfl rfl (by decide +kernel) ⟨Nat.le_of_ble_eq_true rfl, Nat.le_of_ble_eq_true rfl⟩) (hPV hK hTE hP hD h1) rfl rfl hl.1 rfl (lv_room (Nat.le_of_ble_eq_true rfl)) dX11_isHere_2 ⟨Nat.le_of_ble_eq_true rfl, Nat.le_of_ble_eq_true rfl⟩) hP hD hS hA (fun r3 u2 H locs hv hP hD hS => ?_)
    rw [← hv] at hE hp
    dsimp only at hE hp
    unfold b_X11_isHere_a5 at hE
    unfold q_X11_isHere_a5 at hp
    refine lv_if_eq (tgt := 21) hx hb dX11_isHere_5 (by decide) (fun c4 => ?_) (fun c4 => ?_)
    · rw [if_pos c4] at hE hp
      exact B_21 u2 x1 _ _ _ hE hp hP hD hS (lv_sub hl [0, 1] rfl)
    · rw [if_neg c4] at hE hp
      refine lv_aload_n hx hb dX11_isHere_8 rfl (lv_at hl 0 rfl) ?_
      refine va_get (D := G) (ci := 8) (v := .ref (g 11)) (C := RX11) (T := TX11) (N := 42) hx hb hts iX11 hown hK hP 0 rfl rfl 11 (by decide) (hw (.fieldLink RX11 9 "MotionFloorModel$Hall" "isThere" "[Z") (List.mem_of_getElem? (i := 4) rfl)) (fun _ h9 => h9) rfl dX11_isHere_9 ?_
      refine lv_iload_n hx hb dX11_isHere_12 rfl (lv_at hl 1 rfl) ?_
      obtain ⟨h6, hp⟩ := hp
      refine va_zald hx hb hK hP 1 1 rfl rfl h6 dX11_isHere_13 ?_
      refine lv_if_eq (tgt := 21) hx hb dX11_isHere_14 (by decide) (fun c7 => ?_) (fun c7 => ?_)
      · rw [if_pos c7] at hE hp
        exact B_21 u2 x1 _ _ _ hE hp hP hD hS (lv_sub hl [0, 1] rfl)
      · rw [if_neg c7] at hE hp
        refine lv_iconst (v := 1) hx hb dX11_isHere_17 (by decide) ?_
        refine lv_goto (tgt := 22) hx hb dX11_isHere_18 (by decide) ?_
        exact B_22 u2 x1 1 _ _ _ hE hp hP hD hS (lv_sub hl [0, 1] rfl)
  exact B_M S0 a1 _ _ _ hX hp hP hD hS hl
def b_X11_hasDraft_38 (S : HS) (x1 x2 y0 : Int32) : Int32 × HS := (y0, S)
def q_X11_hasDraft_38 (S : HS) (x1 x2 y0 : Int32) : Prop := (narrow .boolean (.int y0) = .int y0) ∧ True
def b_X11_hasDraft_37 (S : HS) (x1 x2 : Int32) : Int32 × HS := (b_X11_hasDraft_38 S x1 x2 0)
def q_X11_hasDraft_37 (S : HS) (x1 x2 : Int32) : Prop := (q_X11_hasDraft_38 S x1 x2 0)
def f_X11_hasDraft (S : HS) (x1 x2 : Int32) : Int32 × HS := if (S.1 35) ≤ 0 then (b_X11_hasDraft_37 S x1 x2) else if (S.1 36) = 0 then if (f_X12_in (S.2 14 (S.2 32 (0 : Int32).toNatClampNeg).toNatClampNeg) x1 x2) = 0 then (b_X11_hasDraft_37 S x1 x2) else (b_X11_hasDraft_38 S x1 x2 1) else (b_X11_hasDraft_37 S x1 x2)
def p_X11_hasDraft (S : HS) (x1 x2 : Int32) : Prop := (if (S.1 35) ≤ 0 then (q_X11_hasDraft_37 S x1 x2) else (if (S.1 36) = 0 then (vp_in 0 9) ∧ (vp_in (S.2 32 (0 : Int32).toNatClampNeg) 90) ∧ (p_X12_in (S.2 14 (S.2 32 (0 : Int32).toNatClampNeg).toNatClampNeg) x1 x2) ∧ (if (f_X12_in (S.2 14 (S.2 32 (0 : Int32).toNatClampNeg).toNatClampNeg) x1 x2) = 0 then (q_X11_hasDraft_37 S x1 x2) else (q_X11_hasDraft_38 S x1 x2 1)) else (q_X11_hasDraft_37 S x1 x2)))
def e_X11_hasDraft : List Cond := [.fieldLink RX11 130 "MotionFloorModel$Hall" "drafted" "I", .fieldLink RX11 151 "MotionFloorModel$Hall" "draftTabled" "Z", .fieldLink RX11 22 "MotionFloorModel$Hall" "kind" "[I", .fieldLink RX11 75 "MotionFloorModel$Hall" "draft" "[I", .initialized RX12, .static yX12_in]
def v_X11_hasDraft : List Cond := .code yX11_hasDraft cX11_hasDraft 3 (some .boolean) :: (e_X11_hasDraft ++ (wsX110 ++ (v_X12_in ++ [])))
theorem te_X11_hasDraft : GoodIn lw_tbl e_X11_hasDraft := wGc z59 (wGc z58 (wGc z57 (wGc z56 (wGc z44 (wGc z43 (wG0))))))
theorem t_X11_hasDraft : GoodIn lw_tbl v_X11_hasDraft := wGc z60 (wGa te_X11_hasDraft (wGa zcX11 (wGa t_X12_in (wG0))))
set_option maxHeartbeats 4000000 in
set_option maxRecDepth 100000 in
theorem c_X11_hasDraft (l : Launch) (G : va_G) (K : Nat → ClassId) (h : Nat) (g : Nat → Nat) (S0 : HS) (a1 a2 : Int32) (sz : Nat) : Met l yX11_hasDraft v_X11_hasDraft ({ frames := 1, cells := 0, slots := 0, locals := 22 }) (va_Pc [.ref h, .int a1, .int a2] (hS G K h g sz S0 (p_X11_hasDraft S0 a1 a2))) (va_Qi (fun (r : Int32) (u : HS) => (r, u) = f_X11_hasDraft S0 a1 a2) (hB G K h g (va_A (hW K h g S0) sz)) (va_A (hW K h g S0) sz)) 0 0 (va_A (hW K h g S0) sz) := by
  refine Met.ofW (cc := cX11_hasDraft) (maxL := 3) (ret := (some .boolean)) (by decide) rfl ?_
  intro p e s m args below meth c s₁ B hml hv
  obtain ⟨rfl, ⟨hsz, hP, hK, hD0, hTE⟩, hp⟩ := hv
  have hx := B.exec
  have hb := B.bytes
  have hr := B.returns
  have hts := atoms_spec (ws := v_X11_hasDraft) B.pre
  have t_ := t_X11_hasDraft
  have mw : ∀ w ∈ e_X11_hasDraft, w ∈ v_X11_hasDraft := fun w h => List.mem_cons_of_mem _ (List.mem_append_left _ h)
  have hw := fun w (h : w ∈ e_X11_hasDraft) => hts w (mw w h)
  have iX11 : ∀ w ∈ wsX110, w ∈ v_X11_hasDraft := fun w h => List.mem_cons_of_mem _ (List.mem_append_right _ (List.mem_append_left _ h))
  have j_X12_in : ∀ w ∈ v_X12_in, w ∈ v_X11_hasDraft := fun w h => List.mem_cons_of_mem _ (List.mem_append_right _ (List.mem_append_right _ (List.mem_append_left _ h)))
  have hown : s.vm.findClass RX11 = some m.cls := findClass_of_methodNamed B.named
  have hlocks := B.notSynchronized
  subst hsz
  have hD := hD0.self (sz := s.heap.size)
  generalize hAe : va_A (hW K h g S0) s.heap.size = A at hD ⊢
  have hA : ∀ q : Nat, s.heap.size ≤ q → A q := fun q h => by rw [← hAe]; exact Or.inr h
  have hS : va_S A s.heap s.heap [] := va_S.rf
  have hl := lv_entry ([.ref h, .int a1, .int a2]) (n := 3) (Nat.le_of_ble_eq_true rfl)
  rw [lg_entry_eq]
  generalize (lg_sl ([.ref h, .int a1, .int a2]) ++ List.replicate (3 - (lg_sl ([.ref h, .int a1, .int a2])).length) Slot.unset).toArray = ls at hl ⊢
  have hl : lv_has ls 3 [(0, .ref h), (1, .int a1), (2, .int a2)] := hl
  refine wGen (fun Q hQ => ?_)
  obtain ⟨X, hX⟩ : ∃ X, f_X11_hasDraft S0 a1 a2 = X := ⟨_, rfl⟩
  have B_38 : ∀ (S : HS) (x1 x2 y0 : Int32) (H : Heap) (locs : List Loc) (ls : Array Slot), b_X11_hasDraft_38 S x1 x2 y0 = X → q_X11_hasDraft_38 S x1 x2 y0 → va_P G vwCl (hW K h g S) H → va_D A (hW K h g S) → va_S A s.heap H locs → lv_has ls 3 [(0, .ref h), (1, .int x1), (2, .int x2)] → W p l e ({ frames := 1, cells := 0, slots := 0, locals := 22 } : Room) s m #[Value.ref h, Value.int a1, Value.int a2] below meth c H locs 0 0 Q (F0 m 38 ls [.int y0]) := by
    intro S x1 x2 y0 H locs ls hE hp hP hD hS hl
    unfold b_X11_hasDraft_38 at hE
    unfold q_X11_hasDraft_38 at hp
    obtain ⟨h2, hp⟩ := hp
    subst hQ
    exact W.zret (v := y0) (ty := .boolean) hx hb hr h2 (fun t ht hW => ⟨⟨y0, S, rfl, hE.trans hX.symm, by rw [ht]; exact hP, hD⟩, hS.F ht⟩) hS.2.2 dX11_hasDraft_38
  have B_37 : ∀ (S : HS) (x1 x2 : Int32) (H : Heap) (locs : List Loc) (ls : Array Slot), b_X11_hasDraft_37 S x1 x2 = X → q_X11_hasDraft_37 S x1 x2 → va_P G vwCl (hW K h g S) H → va_D A (hW K h g S) → va_S A s.heap H locs → lv_has ls 3 [(0, .ref h), (1, .int x1), (2, .int x2)] → W p l e ({ frames := 1, cells := 0, slots := 0, locals := 22 } : Room) s m #[Value.ref h, Value.int a1, Value.int a2] below meth c H locs 0 0 Q (F0 m 37 ls []) := by
    intro S x1 x2 H locs ls hE hp hP hD hS hl
    unfold b_X11_hasDraft_37 at hE
    unfold q_X11_hasDraft_37 at hp
    refine lv_iconst (v := 0) hx hb dX11_hasDraft_37 (by decide) ?_
    exact B_38 S x1 x2 0 _ _ _ hE hp hP hD hS (lv_sub hl [0, 1, 2] rfl)
  have B_M : ∀ (S : HS) (x1 x2 : Int32) (H : Heap) (locs : List Loc) (ls : Array Slot), f_X11_hasDraft S x1 x2 = X → p_X11_hasDraft S x1 x2 → va_P G vwCl (hW K h g S) H → va_D A (hW K h g S) → va_S A s.heap H locs → lv_has ls 3 [(0, .ref h), (1, .int x1), (2, .int x2)] → W p l e ({ frames := 1, cells := 0, slots := 0, locals := 22 } : Room) s m #[Value.ref h, Value.int a1, Value.int a2] below meth c H locs 0 0 Q (F0 m 0 ls []) := by
    intro S x1 x2 H locs ls hE hp hP hD hS hl
    unfold f_X11_hasDraft at hE
    unfold p_X11_hasDraft at hp
    refine lv_aload_n hx hb dX11_hasDraft_0 rfl (lv_at hl 0 rfl) ?_
    refine va_get (D := G) (ci := 8) (v := .int (S.1 35)) (C := RX11) (T := TX11) (N := 42) hx hb hts iX11 hown hK hP 0 rfl rfl 35 (by decide) (hw (.fieldLink RX11 130 "MotionFloorModel$Hall" "drafted" "I") (List.mem_of_getElem? (i := 0) rfl)) (fun _ h9 => h9) rfl dX11_hasDraft_1 ?_
    refine lv_if_le (tgt := 37) hx hb dX11_hasDraft_4 (by decide) (fun c1 => ?_) (fun c1 => ?_)
    · rw [if_pos c1] at hE hp
      exact B_37 S x1 x2 _ _ _ hE hp hP hD hS (lv_sub hl [0, 1, 2] rfl)
    · rw [if_neg c1] at hE hp
      refine lv_aload_n hx hb dX11_hasDraft_7 rfl (lv_at hl 0 rfl) ?_
      refine va_get (D := G) (ci := 8) (v := .int (S.1 36)) (C := RX11) (T := TX11) (N := 42) hx hb hts iX11 hown hK hP 0 rfl rfl 36 (by decide) (hw (.fieldLink RX11 151 "MotionFloorModel$Hall" "draftTabled" "Z") (List.mem_of_getElem? (i := 1) rfl)) (fun _ h9 => h9) rfl dX11_hasDraft_8 ?_
      refine lv_if_ne (tgt := 37) hx hb dX11_hasDraft_11 (by decide) (fun c3 => ?_) (fun c3 => ?_)
      · rw [if_neg c3] at hE hp
        exact B_37 S x1 x2 _ _ _ hE hp hP hD hS (lv_sub hl [0, 1, 2] rfl)
      · rw [if_pos c3] at hE hp
        refine lv_aload_n hx hb dX11_hasDraft_14 rfl (lv_at hl 0 rfl) ?_
        refine va_get (D := G) (ci := 8) (v := .ref (g 14)) (C := RX11) (T := TX11) (N := 42) hx hb hts iX11 hown hK hP 0 rfl rfl 14 (by decide) (hw (.fieldLink RX11 22 "MotionFloorModel$Hall" "kind" "[I") (List.mem_of_getElem? (i := 2) rfl)) (fun _ h9 => h9) rfl dX11_hasDraft_15 ?_
        refine lv_aload_n hx hb dX11_hasDraft_18 rfl (lv_at hl 0 rfl) ?_
        refine va_get (D := G) (ci := 8) (v := .ref (g 32)) (C := RX11) (T := TX11) (N := 42) hx hb hts iX11 hown hK hP 0 rfl rfl 32 (by decide) (hw (.fieldLink RX11 75 "MotionFloorModel$Hall" "draft" "[I") (List.mem_of_getElem? (i := 3) rfl)) (fun _ h9 => h9) rfl dX11_hasDraft_19 ?_
        refine lv_iconst (v := 0) hx hb dX11_hasDraft_22 (by decide) ?_
        obtain ⟨h4, hp⟩ := hp
        refine va_iald hx hb hK hP 21 0 rfl rfl h4 dX11_hasDraft_23 ?_
        obtain ⟨h5, hp⟩ := hp
        refine va_iald hx hb hK hP 4 0 rfl rfl h5 dX11_hasDraft_24 ?_
        refine lv_iload_n hx hb dX11_hasDraft_25 rfl (lv_at hl 1 rfl) ?_
        refine lv_iload_n hx hb dX11_hasDraft_26 rfl (lv_at hl 2 rfl) ?_
        obtain ⟨h6, hp⟩ := hp
        refine nGoi (va_runSN (As := [.int (S.2 14 (S.2 32 (0 : Int32).toNatClampNeg).toNatClampNeg), .int x1, .int x2]) (rest := []) ⟨hx, hb, hml, hown, hts⟩ (c_X12_in l G K (S.2 14 (S.2 32 (0 : Int32).toNatClampNeg).toNatClampNeg) x1 x2 _) ⟨va_cnB (host := "MotionFloorModel") 3 hts (wGP t_ j_X12_in) rfl rfl rfl hTE.2.2.2.2.2.2.2.2.2.1 (hw (.initialized RX12) (List.mem_of_getElem? (i := 4) rfl)) (by decide +kernel) ⟨Nat.le_of_ble_eq_true rfl, Nat.le_of_ble_eq_true rfl⟩, (hw (.static yX12_in) (List.mem_of_getElem? (i := 5) rfl)), trivial⟩ (nPS hK hTE h6) rfl rfl hl.1 rfl (lv_room (Nat.le_of_ble_eq_true rfl)) dX11_hasDraft_27 ⟨Nat.le_of_ble_eq_true rfl, Nat.le_of_ble_eq_true rfl⟩) hP hS hA (fun r H locs hv hP hS => ?_)
        subst hv
        refine lv_if_eq (tgt := 37) hx hb dX11_hasDraft_30 (by decide) (fun c7 => ?_) (fun c7 => ?_)
        · rw [if_pos c7] at hE hp
          exact B_37 S x1 x2 _ _ _ hE hp hP hD hS (lv_sub hl [0, 1, 2] rfl)
        · rw [if_neg c7] at hE hp
          refine lv_iconst (v := 1) hx hb dX11_hasDraft_33 (by decide) ?_
          refine lv_goto (tgt := 38) hx hb dX11_hasDraft_34 (by decide) ?_
          exact B_38 S x1 x2 1 _ _ _ hE hp hP hD hS (lv_sub hl [0, 1, 2] rfl)
  exact B_M S0 a1 a2 _ _ _ hX hp hP hD hS hl
def b_X11_isAbout_57 (S : HS) (x1 x2 y0 : Int32) : Int32 × HS := (y0, S)
def q_X11_isAbout_57 (S : HS) (x1 x2 y0 : Int32) : Prop := (narrow .boolean (.int y0) = .int y0) ∧ True
def b_X11_isAbout_39 (S : HS) (x1 x2 : Int32) : Int32 × HS := (b_X11_isAbout_57 S x1 x2 1)
def q_X11_isAbout_39 (S : HS) (x1 x2 : Int32) : Prop := (q_X11_isAbout_57 S x1 x2 1)
def b_X11_isAbout_a17 (S : HS) (x1 y0 : Int32) : Int32 × HS := if x1 = 2 then if (S.2 14 y0.toNatClampNeg) = 1 then (b_X11_isAbout_39 S x1 (S.2 14 y0.toNatClampNeg)) else if (S.2 14 y0.toNatClampNeg) = 4 then (b_X11_isAbout_39 S x1 (S.2 14 y0.toNatClampNeg)) else if (S.2 14 y0.toNatClampNeg) = 5 then (b_X11_isAbout_39 S x1 (S.2 14 y0.toNatClampNeg)) else (b_X11_isAbout_57 S x1 (S.2 14 y0.toNatClampNeg) 0) else if (S.2 14 y0.toNatClampNeg) = 2 then (b_X11_isAbout_57 S x1 (S.2 14 y0.toNatClampNeg) 1) else (b_X11_isAbout_57 S x1 (S.2 14 y0.toNatClampNeg) 0)
def q_X11_isAbout_a17 (S : HS) (x1 y0 : Int32) : Prop := (vp_in y0 90) ∧ (if x1 = 2 then (if (S.2 14 y0.toNatClampNeg) = 1 then (q_X11_isAbout_39 S x1 (S.2 14 y0.toNatClampNeg)) else (if (S.2 14 y0.toNatClampNeg) = 4 then (q_X11_isAbout_39 S x1 (S.2 14 y0.toNatClampNeg)) else (if (S.2 14 y0.toNatClampNeg) = 5 then (q_X11_isAbout_39 S x1 (S.2 14 y0.toNatClampNeg)) else (q_X11_isAbout_57 S x1 (S.2 14 y0.toNatClampNeg) 0)))) else (if (S.2 14 y0.toNatClampNeg) = 2 then (q_X11_isAbout_57 S x1 (S.2 14 y0.toNatClampNeg) 1) else (q_X11_isAbout_57 S x1 (S.2 14 y0.toNatClampNeg) 0)))
def f_X11_isAbout (S : HS) (x1 : Int32) : Int32 × HS := if (S.1 6) = 0 then (0, S) else (b_X11_isAbout_a17 (f_X11_top S ).2 x1 (f_X11_top S ).1)
def p_X11_isAbout (S : HS) (x1 : Int32) : Prop := (if (S.1 6) = 0 then True else (p_X11_top S ) ∧ (q_X11_isAbout_a17 (f_X11_top S ).2 x1 (f_X11_top S ).1))
def e_X11_isAbout : List Cond := [.fieldLink RX11 115 "MotionFloorModel$Hall" "pending" "I", .fieldLink RX11 22 "MotionFloorModel$Hall" "kind" "[I", .methodLink RX11 155 yX11_top, .instanceMethod yX11_top, .selects RX11 yX11_top yX11_top, .initialized RX11]
def v_X11_isAbout : List Cond := .code yX11_isAbout cX11_isAbout 3 (some .boolean) :: (e_X11_isAbout ++ (wsX110 ++ (v_X11_top ++ [])))
theorem te_X11_isAbout : GoodIn lw_tbl e_X11_isAbout := wGc z47 (wGc z57 (wGc z63 (wGc z62 (wGc z61 (wGc z51 (wG0))))))
theorem t_X11_isAbout : GoodIn lw_tbl v_X11_isAbout := wGc z64 (wGa te_X11_isAbout (wGa zcX11 (wGa t_X11_top (wG0))))
set_option maxHeartbeats 4000000 in
set_option maxRecDepth 100000 in
theorem c_X11_isAbout (l : Launch) (G : va_G) (K : Nat → ClassId) (h : Nat) (g : Nat → Nat) (S0 : HS) (a1 : Int32) (sz : Nat) : Met l yX11_isAbout v_X11_isAbout ({ frames := 1, cells := 0, slots := 0, locals := 20 }) (va_Pc [.ref h, .int a1] (hS G K h g sz S0 (p_X11_isAbout S0 a1))) (va_Qi (fun (r : Int32) (u : HS) => (r, u) = f_X11_isAbout S0 a1) (hB G K h g (va_A (hW K h g S0) sz)) (va_A (hW K h g S0) sz)) 0 0 (va_A (hW K h g S0) sz) := by
  refine Met.ofW (cc := cX11_isAbout) (maxL := 3) (ret := (some .boolean)) (by decide) rfl ?_
  intro p e s m args below meth c s₁ B hml hv
  obtain ⟨rfl, ⟨hsz, hP, hK, hD0, hTE⟩, hp⟩ := hv
  have hx := B.exec
  have hb := B.bytes
  have hr := B.returns
  have hts := atoms_spec (ws := v_X11_isAbout) B.pre
  have t_ := t_X11_isAbout
  have mw : ∀ w ∈ e_X11_isAbout, w ∈ v_X11_isAbout := fun w h => List.mem_cons_of_mem _ (List.mem_append_left _ h)
  have hw := fun w (h : w ∈ e_X11_isAbout) => hts w (mw w h)
  have iX11 : ∀ w ∈ wsX110, w ∈ v_X11_isAbout := fun w h => List.mem_cons_of_mem _ (List.mem_append_right _ (List.mem_append_left _ h))
  have j_X11_top : ∀ w ∈ v_X11_top, w ∈ v_X11_isAbout := fun w h => List.mem_cons_of_mem _ (List.mem_append_right _ (List.mem_append_right _ (List.mem_append_left _ h)))
  have hown : s.vm.findClass RX11 = some m.cls := findClass_of_methodNamed B.named
  have hlocks := B.notSynchronized
  subst hsz
  have hD := hD0.self (sz := s.heap.size)
  generalize hAe : va_A (hW K h g S0) s.heap.size = A at hD ⊢
  have hA : ∀ q : Nat, s.heap.size ≤ q → A q := fun q h => by rw [← hAe]; exact Or.inr h
  have hS : va_S A s.heap s.heap [] := va_S.rf
  have hl := lv_entry ([.ref h, .int a1]) (n := 3) (Nat.le_of_ble_eq_true rfl)
  rw [lg_entry_eq]
  generalize (lg_sl ([.ref h, .int a1]) ++ List.replicate (3 - (lg_sl ([.ref h, .int a1])).length) Slot.unset).toArray = ls at hl ⊢
  have hl : lv_has ls 3 [(0, .ref h), (1, .int a1)] := hl
  refine wGen (fun Q hQ => ?_)
  obtain ⟨X, hX⟩ : ∃ X, f_X11_isAbout S0 a1 = X := ⟨_, rfl⟩
  have B_57 : ∀ (S : HS) (x1 x2 y0 : Int32) (H : Heap) (locs : List Loc) (ls : Array Slot), b_X11_isAbout_57 S x1 x2 y0 = X → q_X11_isAbout_57 S x1 x2 y0 → va_P G vwCl (hW K h g S) H → va_D A (hW K h g S) → va_S A s.heap H locs → lv_has ls 3 [(0, .ref h), (1, .int x1), (2, .int x2)] → W p l e ({ frames := 1, cells := 0, slots := 0, locals := 20 } : Room) s m #[Value.ref h, Value.int a1] below meth c H locs 0 0 Q (F0 m 57 ls [.int y0]) := by
    intro S x1 x2 y0 H locs ls hE hp hP hD hS hl
    unfold b_X11_isAbout_57 at hE
    unfold q_X11_isAbout_57 at hp
    obtain ⟨h8, hp⟩ := hp
    subst hQ
    exact W.zret (v := y0) (ty := .boolean) hx hb hr h8 (fun t ht hW => ⟨⟨y0, S, rfl, hE.trans hX.symm, by rw [ht]; exact hP, hD⟩, hS.F ht⟩) hS.2.2 dX11_isAbout_57
  have B_39 : ∀ (S : HS) (x1 x2 : Int32) (H : Heap) (locs : List Loc) (ls : Array Slot), b_X11_isAbout_39 S x1 x2 = X → q_X11_isAbout_39 S x1 x2 → va_P G vwCl (hW K h g S) H → va_D A (hW K h g S) → va_S A s.heap H locs → lv_has ls 3 [(0, .ref h), (1, .int x1), (2, .int x2)] → W p l e ({ frames := 1, cells := 0, slots := 0, locals := 20 } : Room) s m #[Value.ref h, Value.int a1] below meth c H locs 0 0 Q (F0 m 39 ls []) := by
    intro S x1 x2 H locs ls hE hp hP hD hS hl
    unfold b_X11_isAbout_39 at hE
    unfold q_X11_isAbout_39 at hp
    refine lv_iconst (v := 1) hx hb dX11_isAbout_39 (by decide) ?_
    refine lv_goto (tgt := 57) hx hb dX11_isAbout_40 (by decide) ?_
    exact B_57 S x1 x2 1 _ _ _ hE hp hP hD hS (lv_sub hl [0, 1, 2] rfl)
  have B_M : ∀ (S : HS) (x1 : Int32) (H : Heap) (locs : List Loc) (ls : Array Slot), f_X11_isAbout S x1 = X → p_X11_isAbout S x1 → va_P G vwCl (hW K h g S) H → va_D A (hW K h g S) → va_S A s.heap H locs → lv_has ls 3 [(0, .ref h), (1, .int x1)] → W p l e ({ frames := 1, cells := 0, slots := 0, locals := 20 } : Room) s m #[Value.ref h, Value.int a1] below meth c H locs 0 0 Q (F0 m 0 ls []) := by
    intro S x1 H locs ls hE hp hP hD hS hl
    unfold f_X11_isAbout at hE
    unfold p_X11_isAbout at hp
    refine lv_aload_n hx hb dX11_isAbout_0 rfl (lv_at hl 0 rfl) ?_
    refine va_get (D := G) (ci := 8) (v := .int (S.1 6)) (C := RX11) (T := TX11) (N := 42) hx hb hts iX11 hown hK hP 0 rfl rfl 6 (by decide) (hw (.fieldLink RX11 115 "MotionFloorModel$Hall" "pending" "I") (List.mem_of_getElem? (i := 0) rfl)) (fun _ h9 => h9) rfl dX11_isAbout_1 ?_
    refine lv_if_ne (tgt := 9) hx hb dX11_isAbout_4 (by decide) (fun c1 => ?_) (fun c1 => ?_)
    · rw [if_neg c1] at hE hp
      refine lv_aload_n hx hb dX11_isAbout_9 rfl (lv_at hl 0 rfl) ?_
      refine va_get (D := G) (ci := 8) (v := .ref (g 14)) (C := RX11) (T := TX11) (N := 42) hx hb hts iX11 hown hK hP 0 rfl rfl 14 (by decide) (hw (.fieldLink RX11 22 "MotionFloorModel$Hall" "kind" "[I") (List.mem_of_getElem? (i := 1) rfl)) (fun _ h9 => h9) rfl dX11_isAbout_10 ?_
      refine lv_aload_n hx hb dX11_isAbout_13 rfl (lv_at hl 0 rfl) ?_
      obtain ⟨h2, hp⟩ := hp
      refine hGoi (va_runV (As := []) (rest := [.ref (g 14)]) ⟨hx, hb, hml, hown, hts⟩ (c_X11_top l G K h g S _) (cwV 0 hts (wGV t_ (mw (.methodLink RX11 155 yX11_top) (List.mem_of_getElem? (i := 2) rfl)) (mw (.instanceMethod yX11_top) (List.mem_of_getElem? (i := 3) rfl)) (mw (.selects RX11 yX11_top yX11_top) (List.mem_of_getElem? (i := 4) rfl)) (mw (.initialized RX11) (List.mem_of_getElem? (i := 5) rfl)) j_X11_top) rfl rfl rfl (by decide +kernel) ⟨Nat.le_of_ble_eq_true rfl, Nat.le_of_ble_eq_true rfl⟩) (hPV hK hTE hP hD h2) rfl rfl hl.1 rfl (lv_room (Nat.le_of_ble_eq_true rfl)) dX11_isAbout_14 ⟨Nat.le_of_ble_eq_true rfl, Nat.le_of_ble_eq_true rfl⟩) hP hD hS hA (fun r4 u3 H locs hv hP hD hS => ?_)
      rw [← hv] at hE hp
      dsimp only at hE hp
      unfold b_X11_isAbout_a17 at hE
      unfold q_X11_isAbout_a17 at hp
      obtain ⟨h5, hp⟩ := hp
      refine va_iald hx hb hK hP 4 0 rfl rfl h5 dX11_isAbout_17 ?_
      refine lv_istore_n (lv' := [(2, .int (u3.2 14 r4.toNatClampNeg)), (0, .ref h), (1, .int x1)]) hx hb dX11_isAbout_18 rfl hl (by decide) rfl (fun ls hl => ?_)
      refine lv_iload_n hx hb dX11_isAbout_19 rfl (lv_at hl 2 rfl) ?_
      refine lv_iconst (v := 2) hx hb dX11_isAbout_20 (by decide) ?_
      refine lv_icmp_ne (tgt := 47) hx hb dX11_isAbout_21 (by decide) (fun c6 => ?_) (fun c6 => ?_)
      · rw [if_neg c6] at hE hp
        refine lv_iload_n hx hb dX11_isAbout_47 rfl (lv_at hl 0 rfl) ?_
        refine lv_iconst (v := 2) hx hb dX11_isAbout_48 (by decide) ?_
        refine lv_icmp_ne (tgt := 56) hx hb dX11_isAbout_49 (by decide) (fun c7 => ?_) (fun c7 => ?_)
        · rw [if_neg c7] at hE hp
          refine lv_iconst (v := 0) hx hb dX11_isAbout_56 (by decide) ?_
          exact B_57 u3 x1 (u3.2 14 r4.toNatClampNeg) 0 _ _ _ hE hp hP hD hS (lv_sub hl [1, 2, 0] rfl)
        · rw [if_pos c7] at hE hp
          refine lv_iconst (v := 1) hx hb dX11_isAbout_52 (by decide) ?_
          refine lv_goto (tgt := 57) hx hb dX11_isAbout_53 (by decide) ?_
          exact B_57 u3 x1 (u3.2 14 r4.toNatClampNeg) 1 _ _ _ hE hp hP hD hS (lv_sub hl [1, 2, 0] rfl)
      · rw [if_pos c6] at hE hp
        refine lv_iload_n hx hb dX11_isAbout_24 rfl (lv_at hl 0 rfl) ?_
        refine lv_iconst (v := 1) hx hb dX11_isAbout_25 (by decide) ?_
        refine lv_icmp_eq (tgt := 39) hx hb dX11_isAbout_26 (by decide) (fun c9 => ?_) (fun c9 => ?_)
        · rw [if_pos c9] at hE hp
          exact B_39 u3 x1 (u3.2 14 r4.toNatClampNeg) _ _ _ hE hp hP hD hS (lv_sub hl [1, 2, 0] rfl)
        · rw [if_neg c9] at hE hp
          refine lv_iload_n hx hb dX11_isAbout_29 rfl (lv_at hl 0 rfl) ?_
          refine lv_iconst (v := 4) hx hb dX11_isAbout_30 (by decide) ?_
          refine lv_icmp_eq (tgt := 39) hx hb dX11_isAbout_31 (by decide) (fun c10 => ?_) (fun c10 => ?_)
          · rw [if_pos c10] at hE hp
            exact B_39 u3 x1 (u3.2 14 r4.toNatClampNeg) _ _ _ hE hp hP hD hS (lv_sub hl [1, 2, 0] rfl)
          · rw [if_neg c10] at hE hp
            refine lv_iload_n hx hb dX11_isAbout_34 rfl (lv_at hl 0 rfl) ?_
            refine lv_iconst (v := 5) hx hb dX11_isAbout_35 (by decide) ?_
            refine lv_icmp_ne (tgt := 43) hx hb dX11_isAbout_36 (by decide) (fun c11 => ?_) (fun c11 => ?_)
            · rw [if_neg c11] at hE hp
              refine lv_iconst (v := 0) hx hb dX11_isAbout_43 (by decide) ?_
              refine lv_goto (tgt := 57) hx hb dX11_isAbout_44 (by decide) ?_
              exact B_57 u3 x1 (u3.2 14 r4.toNatClampNeg) 0 _ _ _ hE hp hP hD hS (lv_sub hl [1, 2, 0] rfl)
            · rw [if_pos c11] at hE hp
              exact B_39 u3 x1 (u3.2 14 r4.toNatClampNeg) _ _ _ hE hp hP hD hS (lv_sub hl [1, 2, 0] rfl)
    · rw [if_pos c1] at hE hp
      refine lv_iconst (v := 0) hx hb dX11_isAbout_7 (by decide) ?_
      subst hQ
      exact W.zret (v := 0) (ty := .boolean) hx hb hr rfl (fun t ht hW => ⟨⟨0, S, rfl, hE.trans hX.symm, by rw [ht]; exact hP, hD⟩, hS.F ht⟩) hS.2.2 dX11_isAbout_8
  exact B_M S0 a1 _ _ _ hX hp hP hD hS hl
def b_X11_hasSeconder_18 (S : HS) (y0 : Int32) : Int32 × HS := (y0, S)
def q_X11_hasSeconder_18 (S : HS) (y0 : Int32) : Prop := (narrow .boolean (.int y0) = .int y0) ∧ True
def b_X11_hasSeconder_a8 (S : HS) (y0 : Int32) : Int32 × HS := if (S.2 16 y0.toNatClampNeg) = (-1) then (b_X11_hasSeconder_18 S 0) else (b_X11_hasSeconder_18 S 1)
def q_X11_hasSeconder_a8 (S : HS) (y0 : Int32) : Prop := (vp_in y0 90) ∧ (if (S.2 16 y0.toNatClampNeg) = (-1) then (q_X11_hasSeconder_18 S 0) else (q_X11_hasSeconder_18 S 1))
def f_X11_hasSeconder (S : HS)  : Int32 × HS := (b_X11_hasSeconder_a8 (f_X11_top S ).2 (f_X11_top S ).1)
def p_X11_hasSeconder (S : HS)  : Prop := (p_X11_top S ) ∧ (q_X11_hasSeconder_a8 (f_X11_top S ).2 (f_X11_top S ).1)
def e_X11_hasSeconder : List Cond := [.fieldLink RX11 28 "MotionFloorModel$Hall" "seconder" "[I", .methodLink RX11 155 yX11_top, .instanceMethod yX11_top, .selects RX11 yX11_top yX11_top, .initialized RX11]
def v_X11_hasSeconder : List Cond := .code yX11_hasSeconder cX11_hasSeconder 1 (some .boolean) :: (e_X11_hasSeconder ++ (wsX110 ++ (v_X11_top ++ [])))
theorem te_X11_hasSeconder : GoodIn lw_tbl e_X11_hasSeconder := wGc z65 (wGc z63 (wGc z62 (wGc z61 (wGc z51 (wG0)))))
theorem t_X11_hasSeconder : GoodIn lw_tbl v_X11_hasSeconder := wGc z66 (wGa te_X11_hasSeconder (wGa zcX11 (wGa t_X11_top (wG0))))
set_option maxHeartbeats 4000000 in
set_option maxRecDepth 100000 in
theorem c_X11_hasSeconder (l : Launch) (G : va_G) (K : Nat → ClassId) (h : Nat) (g : Nat → Nat) (S0 : HS)  (sz : Nat) : Met l yX11_hasSeconder v_X11_hasSeconder ({ frames := 1, cells := 0, slots := 0, locals := 20 }) (va_Pc [.ref h] (hS G K h g sz S0 (p_X11_hasSeconder S0))) (va_Qi (fun (r : Int32) (u : HS) => (r, u) = f_X11_hasSeconder S0) (hB G K h g (va_A (hW K h g S0) sz)) (va_A (hW K h g S0) sz)) 0 0 (va_A (hW K h g S0) sz) := by
  refine Met.ofW (cc := cX11_hasSeconder) (maxL := 1) (ret := (some .boolean)) (by decide) rfl ?_
  intro p e s m args below meth c s₁ B hml hv
  obtain ⟨rfl, ⟨hsz, hP, hK, hD0, hTE⟩, hp⟩ := hv
  have hx := B.exec
  have hb := B.bytes
  have hr := B.returns
  have hts := atoms_spec (ws := v_X11_hasSeconder) B.pre
  have t_ := t_X11_hasSeconder
  have mw : ∀ w ∈ e_X11_hasSeconder, w ∈ v_X11_hasSeconder := fun w h => List.mem_cons_of_mem _ (List.mem_append_left _ h)
  have hw := fun w (h : w ∈ e_X11_hasSeconder) => hts w (mw w h)
  have iX11 : ∀ w ∈ wsX110, w ∈ v_X11_hasSeconder := fun w h => List.mem_cons_of_mem _ (List.mem_append_right _ (List.mem_append_left _ h))
  have j_X11_top : ∀ w ∈ v_X11_top, w ∈ v_X11_hasSeconder := fun w h => List.mem_cons_of_mem _ (List.mem_append_right _ (List.mem_append_right _ (List.mem_append_left _ h)))
  have hown : s.vm.findClass RX11 = some m.cls := findClass_of_methodNamed B.named
  have hlocks := B.notSynchronized
  subst hsz
  have hD := hD0.self (sz := s.heap.size)
  generalize hAe : va_A (hW K h g S0) s.heap.size = A at hD ⊢
  have hA : ∀ q : Nat, s.heap.size ≤ q → A q := fun q h => by rw [← hAe]; exact Or.inr h
  have hS : va_S A s.heap s.heap [] := va_S.rf
  have hl := lv_entry ([.ref h]) (n := 1) (Nat.le_of_ble_eq_true rfl)
  rw [lg_entry_eq]
  generalize (lg_sl ([.ref h]) ++ List.replicate (1 - (lg_sl ([.ref h])).length) Slot.unset).toArray = ls at hl ⊢
  have hl : lv_has ls 1 [(0, .ref h)] := hl
  refine wGen (fun Q hQ => ?_)
  obtain ⟨X, hX⟩ : ∃ X, f_X11_hasSeconder S0 = X := ⟨_, rfl⟩
  have B_18 : ∀ (S : HS) (y0 : Int32) (H : Heap) (locs : List Loc) (ls : Array Slot), b_X11_hasSeconder_18 S y0 = X → q_X11_hasSeconder_18 S y0 → va_P G vwCl (hW K h g S) H → va_D A (hW K h g S) → va_S A s.heap H locs → lv_has ls 1 [(0, .ref h)] → W p l e ({ frames := 1, cells := 0, slots := 0, locals := 20 } : Room) s m #[Value.ref h] below meth c H locs 0 0 Q (F0 m 18 ls [.int y0]) := by
    intro S y0 H locs ls hE hp hP hD hS hl
    unfold b_X11_hasSeconder_18 at hE
    unfold q_X11_hasSeconder_18 at hp
    obtain ⟨h6, hp⟩ := hp
    subst hQ
    exact W.zret (v := y0) (ty := .boolean) hx hb hr h6 (fun t ht hW => ⟨⟨y0, S, rfl, hE.trans hX.symm, by rw [ht]; exact hP, hD⟩, hS.F ht⟩) hS.2.2 dX11_hasSeconder_18
  have B_M : ∀ (S : HS) (H : Heap) (locs : List Loc) (ls : Array Slot), f_X11_hasSeconder S = X → p_X11_hasSeconder S → va_P G vwCl (hW K h g S) H → va_D A (hW K h g S) → va_S A s.heap H locs → lv_has ls 1 [(0, .ref h)] → W p l e ({ frames := 1, cells := 0, slots := 0, locals := 20 } : Room) s m #[Value.ref h] below meth c H locs 0 0 Q (F0 m 0 ls []) := by
    intro S H locs ls hE hp hP hD hS hl
    unfold f_X11_hasSeconder at hE
    unfold p_X11_hasSeconder at hp
    refine lv_aload_n hx hb dX11_hasSeconder_0 rfl (lv_at hl 0 rfl) ?_
    refine va_get (D := G) (ci := 8) (v := .ref (g 16)) (C := RX11) (T := TX11) (N := 42) hx hb hts iX11 hown hK hP 0 rfl rfl 16 (by decide) (hw (.fieldLink RX11 28 "MotionFloorModel$Hall" "seconder" "[I") (List.mem_of_getElem? (i := 0) rfl)) (fun _ h9 => h9) rfl dX11_hasSeconder_1 ?_
    refine lv_aload_n hx hb dX11_hasSeconder_4 rfl (lv_at hl 0 rfl) ?_
    obtain ⟨h1, hp⟩ := hp
    refine hGoi (va_runV (As := []) (rest := [.ref (g 16)]) ⟨hx, hb, hml, hown, hts⟩ (c_X11_top l G K h g S _) (cwV 0 hts (wGV t_ (mw (.methodLink RX11 155 yX11_top) (List.mem_of_getElem? (i := 1) rfl)) (mw (.instanceMethod yX11_top) (List.mem_of_getElem? (i := 2) rfl)) (mw (.selects RX11 yX11_top yX11_top) (List.mem_of_getElem? (i := 3) rfl)) (mw (.initialized RX11) (List.mem_of_getElem? (i := 4) rfl)) j_X11_top) rfl rfl rfl (by decide +kernel) ⟨Nat.le_of_ble_eq_true rfl, Nat.le_of_ble_eq_true rfl⟩) (hPV hK hTE hP hD h1) rfl rfl hl.1 rfl (lv_room (Nat.le_of_ble_eq_true rfl)) dX11_hasSeconder_5 ⟨Nat.le_of_ble_eq_true rfl, Nat.le_of_ble_eq_true rfl⟩) hP hD hS hA (fun r3 u2 H locs hv hP hD hS => ?_)
    rw [← hv] at hE hp
    dsimp only at hE hp
    unfold b_X11_hasSeconder_a8 at hE
    unfold q_X11_hasSeconder_a8 at hp
    obtain ⟨h4, hp⟩ := hp
    refine va_iald hx hb hK hP 6 0 rfl rfl h4 dX11_hasSeconder_8 ?_
    refine lv_iconst (v := (-1)) hx hb dX11_hasSeconder_9 (by decide) ?_
    refine lv_icmp_eq (tgt := 17) hx hb dX11_hasSeconder_10 (by decide) (fun c5 => ?_) (fun c5 => ?_)
    · rw [if_pos c5] at hE hp
      refine lv_iconst (v := 0) hx hb dX11_hasSeconder_17 (by decide) ?_
      exact B_18 u2 0 _ _ _ hE hp hP hD hS (lv_sub hl [0] rfl)
    · rw [if_neg c5] at hE hp
      refine lv_iconst (v := 1) hx hb dX11_hasSeconder_13 (by decide) ?_
      refine lv_goto (tgt := 18) hx hb dX11_hasSeconder_14 (by decide) ?_
      exact B_18 u2 1 _ _ _ hE hp hP hD hS (lv_sub hl [0] rfl)
  exact B_M S0 _ _ _ hX hp hP hD hS hl
def f_X11_isWord (x0 : Int32) : Int32 := (f_X12_in x0 1 30000)
def p_X11_isWord (x0 : Int32) : Prop := (p_X12_in x0 1 30000) ∧ (narrow .boolean (.int (f_X12_in x0 1 30000)) = .int (f_X12_in x0 1 30000)) ∧ True
def e_X11_isWord : List Cond := [.initialized RX12, .static yX12_in]
def v_X11_isWord : List Cond := .code yX11_isWord cX11_isWord 1 (some .boolean) :: (e_X11_isWord ++ (v_X12_in ++ []))
theorem te_X11_isWord : GoodIn lw_tbl e_X11_isWord := wGc z44 (wGc z43 (wG0))
theorem t_X11_isWord : GoodIn lw_tbl v_X11_isWord := wGc z67 (wGa te_X11_isWord (wGa t_X12_in (wG0)))
set_option maxHeartbeats 4000000 in
set_option maxRecDepth 100000 in
theorem c_X11_isWord (l : Launch) (G : va_G) (K : Nat → ClassId) (a0 : Int32) (sz : Nat) : Met l yX11_isWord v_X11_isWord ({ frames := 1, cells := 0, slots := 0, locals := 22 }) (va_Pc [.int a0] (nS G K sz (p_X11_isWord a0))) (va_Qi (fun (r : Int32) (_ : Unit) => r = f_X11_isWord a0) (fun _ _ => True) (va_A [] sz)) 0 0 (va_A [] sz) := by
  refine Met.ofW (cc := cX11_isWord) (maxL := 1) (ret := (some .boolean)) (by decide) rfl ?_
  intro p e s m args below meth c s₁ B hml hv
  obtain ⟨rfl, ⟨hsz, hP, hK, hD0, hTE⟩, hp⟩ := hv
  have hx := B.exec
  have hb := B.bytes
  have hr := B.returns
  have hts := atoms_spec (ws := v_X11_isWord) B.pre
  have t_ := t_X11_isWord
  have mw : ∀ w ∈ e_X11_isWord, w ∈ v_X11_isWord := fun w h => List.mem_cons_of_mem _ (List.mem_append_left _ h)
  have hw := fun w (h : w ∈ e_X11_isWord) => hts w (mw w h)
  have j_X12_in : ∀ w ∈ v_X12_in, w ∈ v_X11_isWord := fun w h => List.mem_cons_of_mem _ (List.mem_append_right _ (List.mem_append_left _ h))
  have hown : s.vm.findClass RX11 = some m.cls := findClass_of_methodNamed B.named
  have hlocks := B.notSynchronized
  subst hsz
  generalize hAe : va_A [] s.heap.size = A at ⊢
  have hA : ∀ q : Nat, s.heap.size ≤ q → A q := fun q h => by rw [← hAe]; exact Or.inr h
  have hS : va_S A s.heap s.heap [] := va_S.rf
  have hl := lv_entry ([.int a0]) (n := 1) (Nat.le_of_ble_eq_true rfl)
  rw [lg_entry_eq]
  generalize (lg_sl ([.int a0]) ++ List.replicate (1 - (lg_sl ([.int a0])).length) Slot.unset).toArray = ls at hl ⊢
  have hl : lv_has ls 1 [(0, .int a0)] := hl
  refine wGen (fun Q hQ => ?_)
  obtain ⟨X, hX⟩ : ∃ X, f_X11_isWord a0 = X := ⟨_, rfl⟩
  have B_M : ∀ (x0 : Int32) (H : Heap) (locs : List Loc) (ls : Array Slot), f_X11_isWord x0 = X → p_X11_isWord x0 → va_S A s.heap H locs → lv_has ls 1 [(0, .int x0)] → W p l e ({ frames := 1, cells := 0, slots := 0, locals := 22 } : Room) s m #[Value.int a0] below meth c H locs 0 0 Q (F0 m 0 ls []) := by
    intro x0 H locs ls hE hp hS hl
    unfold f_X11_isWord at hE
    unfold p_X11_isWord at hp
    refine lv_iload_n hx hb dX11_isWord_0 rfl (lv_at hl 0 rfl) ?_
    refine lv_iconst (v := 1) hx hb dX11_isWord_1 (by decide) ?_
    refine lv_sipush (v := 30000) hx hb dX11_isWord_2 (by decide) ?_
    obtain ⟨h1, hp⟩ := hp
    refine nGoi (ws := []) (G := G) (va_runSN (As := [.int x0, .int 1, .int 30000]) (rest := []) ⟨hx, hb, hml, hown, hts⟩ (c_X12_in l G K x0 1 30000 _) ⟨va_cnB (host := "MotionFloorModel") 3 hts (wGP t_ j_X12_in) rfl rfl rfl hTE.2.2.2.2.2.2.2.2.2.1 (hw (.initialized RX12) (List.mem_of_getElem? (i := 0) rfl)) (by decide +kernel) ⟨Nat.le_of_ble_eq_true rfl, Nat.le_of_ble_eq_true rfl⟩, (hw (.static yX12_in) (List.mem_of_getElem? (i := 1) rfl)), trivial⟩ (nPS hK hTE h1) rfl rfl hl.1 rfl (lv_room (Nat.le_of_ble_eq_true rfl)) dX11_isWord_5 ⟨Nat.le_of_ble_eq_true rfl, Nat.le_of_ble_eq_true rfl⟩) (fun k q h => by simp at h) hS hA (fun r H locs hv _ hS => ?_)
    subst hv
    obtain ⟨h2, hp⟩ := hp
    subst hQ
    exact W.zret (v := (f_X12_in x0 1 30000)) (ty := .boolean) hx hb hr h2 (fun t ht hW => ⟨⟨(f_X12_in x0 1 30000), (), rfl, hE.trans hX.symm, trivial⟩, hS.F ht⟩) hS.2.2 dX11_isWord_8
  exact B_M a0 _ _ _ hX hp hS hl
def b_X11_reasonOfWord_23 (S : HS) (x1 x2 x3 x4 : Int32) : Int32 × HS := (11, S)
def q_X11_reasonOfWord_23 (S : HS) (x1 x2 x3 x4 : Int32) : Prop := True
def b_X11_reasonOfWord_68 (S : HS) (x1 x2 x3 x4 : Int32) : Int32 × HS := (9, S)
def q_X11_reasonOfWord_68 (S : HS) (x1 x2 x3 x4 : Int32) : Prop := True
def b_X11_reasonOfWord_131 (S : HS) (x1 x2 x3 x4 x5 y0 : Int32) : Int32 × HS := (y0, S)
def q_X11_reasonOfWord_131 (S : HS) (x1 x2 x3 x4 x5 y0 : Int32) : Prop := True
def b_X11_reasonOfWord_102 (S : HS) (x1 x2 x3 x4 y0 y1 : Int32) : Int32 × HS := if ((S.2 19 (S.2 32 (0 : Int32).toNatClampNeg).toNatClampNeg) + (y1 + y0)) ≤ 400 then (b_X11_reasonOfWord_131 S x1 x2 x3 x4 (y1 + y0) 0) else (b_X11_reasonOfWord_131 S x1 x2 x3 x4 (y1 + y0) 10)
def q_X11_reasonOfWord_102 (S : HS) (x1 x2 x3 x4 y0 y1 : Int32) : Prop := (vp_in 0 9) ∧ (vp_in (S.2 32 (0 : Int32).toNatClampNeg) 90) ∧ (if ((S.2 19 (S.2 32 (0 : Int32).toNatClampNeg).toNatClampNeg) + (y1 + y0)) ≤ 400 then (q_X11_reasonOfWord_131 S x1 x2 x3 x4 (y1 + y0) 0) else (q_X11_reasonOfWord_131 S x1 x2 x3 x4 (y1 + y0) 10))
def b_X11_reasonOfWord_91 (S : HS) (x1 x2 x3 x4 y0 y1 : Int32) : Int32 × HS := if x4 = 0 then (b_X11_reasonOfWord_102 S x1 x2 x3 x4 0 (y1 + y0)) else (b_X11_reasonOfWord_102 S x1 x2 x3 x4 1 (y1 + y0))
def q_X11_reasonOfWord_91 (S : HS) (x1 x2 x3 x4 y0 y1 : Int32) : Prop := (if x4 = 0 then (q_X11_reasonOfWord_102 S x1 x2 x3 x4 0 (y1 + y0)) else (q_X11_reasonOfWord_102 S x1 x2 x3 x4 1 (y1 + y0)))
def b_X11_reasonOfWord_81 (S : HS) (x1 x2 x3 x4 y0 y1 : Int32) : Int32 × HS := if x3 = 0 then (b_X11_reasonOfWord_91 S x1 x2 x3 x4 0 (y1 + y0)) else (b_X11_reasonOfWord_91 S x1 x2 x3 x4 1 (y1 + y0))
def q_X11_reasonOfWord_81 (S : HS) (x1 x2 x3 x4 y0 y1 : Int32) : Prop := (if x3 = 0 then (q_X11_reasonOfWord_91 S x1 x2 x3 x4 0 (y1 + y0)) else (q_X11_reasonOfWord_91 S x1 x2 x3 x4 1 (y1 + y0)))
def b_X11_reasonOfWord_71 (S : HS) (x1 x2 x3 x4 : Int32) : Int32 × HS := if x2 = 0 then (b_X11_reasonOfWord_81 S x1 x2 x3 x4 0 1) else (b_X11_reasonOfWord_81 S x1 x2 x3 x4 1 1)
def q_X11_reasonOfWord_71 (S : HS) (x1 x2 x3 x4 : Int32) : Prop := (if x2 = 0 then (q_X11_reasonOfWord_81 S x1 x2 x3 x4 0 1) else (q_X11_reasonOfWord_81 S x1 x2 x3 x4 1 1))
def b_X11_reasonOfWord_55 (S : HS) (x1 x2 x3 x4 : Int32) : Int32 × HS := if x4 = 0 then (b_X11_reasonOfWord_71 S x1 x2 x3 x4) else if (f_X11_isWord x4) = 0 then (b_X11_reasonOfWord_68 S x1 x2 x3 x4) else (b_X11_reasonOfWord_71 S x1 x2 x3 x4)
def q_X11_reasonOfWord_55 (S : HS) (x1 x2 x3 x4 : Int32) : Prop := (if x4 = 0 then (q_X11_reasonOfWord_71 S x1 x2 x3 x4) else (p_X11_isWord x4) ∧ (if (f_X11_isWord x4) = 0 then (q_X11_reasonOfWord_68 S x1 x2 x3 x4) else (q_X11_reasonOfWord_71 S x1 x2 x3 x4)))
def b_X11_reasonOfWord_44 (S : HS) (x1 x2 x3 x4 : Int32) : Int32 × HS := if x3 = 0 then (b_X11_reasonOfWord_55 S x1 x2 x3 x4) else if (f_X11_isWord x3) = 0 then (b_X11_reasonOfWord_68 S x1 x2 x3 x4) else (b_X11_reasonOfWord_55 S x1 x2 x3 x4)
def q_X11_reasonOfWord_44 (S : HS) (x1 x2 x3 x4 : Int32) : Prop := (if x3 = 0 then (q_X11_reasonOfWord_55 S x1 x2 x3 x4) else (p_X11_isWord x3) ∧ (if (f_X11_isWord x3) = 0 then (q_X11_reasonOfWord_68 S x1 x2 x3 x4) else (q_X11_reasonOfWord_55 S x1 x2 x3 x4)))
def b_X11_reasonOfWord_a6 (S : HS) (x1 x2 x3 x4 y0 : Int32) : Int32 × HS := if y0 = 0 then (b_X11_reasonOfWord_23 S x1 x2 x3 x4) else if (S.2 25 (S.2 32 (0 : Int32).toNatClampNeg).toNatClampNeg) = 0 then if (f_X11_isWord x1) = 0 then (b_X11_reasonOfWord_68 S x1 x2 x3 x4) else if x2 = 0 then (b_X11_reasonOfWord_44 S x1 x2 x3 x4) else if (f_X11_isWord x2) = 0 then (b_X11_reasonOfWord_68 S x1 x2 x3 x4) else (b_X11_reasonOfWord_44 S x1 x2 x3 x4) else (b_X11_reasonOfWord_23 S x1 x2 x3 x4)
def q_X11_reasonOfWord_a6 (S : HS) (x1 x2 x3 x4 y0 : Int32) : Prop := (if y0 = 0 then (q_X11_reasonOfWord_23 S x1 x2 x3 x4) else (vp_in 0 9) ∧ (vp_in (S.2 32 (0 : Int32).toNatClampNeg) 90) ∧ (if (S.2 25 (S.2 32 (0 : Int32).toNatClampNeg).toNatClampNeg) = 0 then (p_X11_isWord x1) ∧ (if (f_X11_isWord x1) = 0 then (q_X11_reasonOfWord_68 S x1 x2 x3 x4) else (if x2 = 0 then (q_X11_reasonOfWord_44 S x1 x2 x3 x4) else (p_X11_isWord x2) ∧ (if (f_X11_isWord x2) = 0 then (q_X11_reasonOfWord_68 S x1 x2 x3 x4) else (q_X11_reasonOfWord_44 S x1 x2 x3 x4)))) else (q_X11_reasonOfWord_23 S x1 x2 x3 x4)))
def f_X11_reasonOfWord (S : HS) (x1 x2 x3 x4 : Int32) : Int32 × HS := (b_X11_reasonOfWord_a6 (f_X11_hasDraft S 1 5).2 x1 x2 x3 x4 (f_X11_hasDraft S 1 5).1)
def p_X11_reasonOfWord (S : HS) (x1 x2 x3 x4 : Int32) : Prop := (p_X11_hasDraft S 1 5) ∧ (q_X11_reasonOfWord_a6 (f_X11_hasDraft S 1 5).2 x1 x2 x3 x4 (f_X11_hasDraft S 1 5).1)
def e_X11_reasonOfWord : List Cond := [.methodLink RX11 163 yX11_hasDraft, .instanceMethod yX11_hasDraft, .selects RX11 yX11_hasDraft yX11_hasDraft, .initialized RX11, .fieldLink RX11 55 "MotionFloorModel$Hall" "laid" "[Z", .fieldLink RX11 75 "MotionFloorModel$Hall" "draft" "[I", .methodLink RX11 181 yX11_isWord, .static yX11_isWord, .fieldLink RX11 37 "MotionFloorModel$Hall" "words" "[I"]
def v_X11_reasonOfWord : List Cond := .code yX11_reasonOfWord cX11_reasonOfWord 6 (some .int) :: (e_X11_reasonOfWord ++ (wsX110 ++ (v_X11_hasDraft ++ (v_X11_isWord ++ []))))
theorem te_X11_reasonOfWord : GoodIn lw_tbl e_X11_reasonOfWord := wGc z74 (wGc z73 (wGc z72 (wGc z51 (wGc z71 (wGc z56 (wGc z70 (wGc z69 (wGc z68 (wG0)))))))))
theorem t_X11_reasonOfWord : GoodIn lw_tbl v_X11_reasonOfWord := wGc z75 (wGa te_X11_reasonOfWord (wGa zcX11 (wGa t_X11_hasDraft (wGa t_X11_isWord (wG0)))))
set_option maxHeartbeats 4000000 in
set_option maxRecDepth 100000 in
theorem c_X11_reasonOfWord (l : Launch) (G : va_G) (K : Nat → ClassId) (h : Nat) (g : Nat → Nat) (S0 : HS) (a1 a2 a3 a4 : Int32) (sz : Nat) : Met l yX11_reasonOfWord v_X11_reasonOfWord ({ frames := 2, cells := 0, slots := 0, locals := 44 }) (va_Pc [.ref h, .int a1, .int a2, .int a3, .int a4] (hS G K h g sz S0 (p_X11_reasonOfWord S0 a1 a2 a3 a4))) (va_Qi (fun (r : Int32) (u : HS) => (r, u) = f_X11_reasonOfWord S0 a1 a2 a3 a4) (hB G K h g (va_A (hW K h g S0) sz)) (va_A (hW K h g S0) sz)) 0 0 (va_A (hW K h g S0) sz) := by
  refine Met.ofW (cc := cX11_reasonOfWord) (maxL := 6) (ret := (some .int)) (by decide) rfl ?_
  intro p e s m args below meth c s₁ B hml hv
  obtain ⟨rfl, ⟨hsz, hP, hK, hD0, hTE⟩, hp⟩ := hv
  have hx := B.exec
  have hb := B.bytes
  have hr := B.returns
  have hts := atoms_spec (ws := v_X11_reasonOfWord) B.pre
  have t_ := t_X11_reasonOfWord
  have mw : ∀ w ∈ e_X11_reasonOfWord, w ∈ v_X11_reasonOfWord := fun w h => List.mem_cons_of_mem _ (List.mem_append_left _ h)
  have hw := fun w (h : w ∈ e_X11_reasonOfWord) => hts w (mw w h)
  have iX11 : ∀ w ∈ wsX110, w ∈ v_X11_reasonOfWord := fun w h => List.mem_cons_of_mem _ (List.mem_append_right _ (List.mem_append_left _ h))
  have j_X11_hasDraft : ∀ w ∈ v_X11_hasDraft, w ∈ v_X11_reasonOfWord := fun w h => List.mem_cons_of_mem _ (List.mem_append_right _ (List.mem_append_right _ (List.mem_append_left _ h)))
  have j_X11_isWord : ∀ w ∈ v_X11_isWord, w ∈ v_X11_reasonOfWord := fun w h => List.mem_cons_of_mem _ (List.mem_append_right _ (List.mem_append_right _ (List.mem_append_right _ (List.mem_append_left _ h))))
  have hown : s.vm.findClass RX11 = some m.cls := findClass_of_methodNamed B.named
  have hlocks := B.notSynchronized
  subst hsz
  have hD := hD0.self (sz := s.heap.size)
  generalize hAe : va_A (hW K h g S0) s.heap.size = A at hD ⊢
  have hA : ∀ q : Nat, s.heap.size ≤ q → A q := fun q h => by rw [← hAe]; exact Or.inr h
  have hS : va_S A s.heap s.heap [] := va_S.rf
  have hl := lv_entry ([.ref h, .int a1, .int a2, .int a3, .int a4]) (n := 6) (Nat.le_of_ble_eq_true rfl)
  rw [lg_entry_eq]
  generalize (lg_sl ([.ref h, .int a1, .int a2, .int a3, .int a4]) ++ List.replicate (6 - (lg_sl ([.ref h, .int a1, .int a2, .int a3, .int a4])).length) Slot.unset).toArray = ls at hl ⊢
  have hl : lv_has ls 6 [(0, .ref h), (1, .int a1), (2, .int a2), (3, .int a3), (4, .int a4)] := hl
  refine wGen (fun Q hQ => ?_)
  obtain ⟨X, hX⟩ : ∃ X, f_X11_reasonOfWord S0 a1 a2 a3 a4 = X := ⟨_, rfl⟩
  have B_23 : ∀ (S : HS) (x1 x2 x3 x4 : Int32) (H : Heap) (locs : List Loc) (ls : Array Slot), b_X11_reasonOfWord_23 S x1 x2 x3 x4 = X → q_X11_reasonOfWord_23 S x1 x2 x3 x4 → va_P G vwCl (hW K h g S) H → va_D A (hW K h g S) → va_S A s.heap H locs → lv_has ls 6 [(0, .ref h), (1, .int x1), (2, .int x2), (3, .int x3), (4, .int x4)] → W p l e ({ frames := 2, cells := 0, slots := 0, locals := 44 } : Room) s m #[Value.ref h, Value.int a1, Value.int a2, Value.int a3, Value.int a4] below meth c H locs 0 0 Q (F0 m 23 ls []) := by
    intro S x1 x2 x3 x4 H locs ls hE hp hP hD hS hl
    unfold b_X11_reasonOfWord_23 at hE
    unfold q_X11_reasonOfWord_23 at hp
    refine lv_bipush (v := 11) hx hb dX11_reasonOfWord_23 (by decide) ?_
    subst hQ
    exact W.iret (v := 11) hx hb hr (fun t ht hW => ⟨⟨11, S, rfl, hE.trans hX.symm, by rw [ht]; exact hP, hD⟩, hS.F ht⟩) hS.2.2 dX11_reasonOfWord_25
  have B_68 : ∀ (S : HS) (x1 x2 x3 x4 : Int32) (H : Heap) (locs : List Loc) (ls : Array Slot), b_X11_reasonOfWord_68 S x1 x2 x3 x4 = X → q_X11_reasonOfWord_68 S x1 x2 x3 x4 → va_P G vwCl (hW K h g S) H → va_D A (hW K h g S) → va_S A s.heap H locs → lv_has ls 6 [(0, .ref h), (1, .int x1), (2, .int x2), (3, .int x3), (4, .int x4)] → W p l e ({ frames := 2, cells := 0, slots := 0, locals := 44 } : Room) s m #[Value.ref h, Value.int a1, Value.int a2, Value.int a3, Value.int a4] below meth c H locs 0 0 Q (F0 m 68 ls []) := by
    intro S x1 x2 x3 x4 H locs ls hE hp hP hD hS hl
    unfold b_X11_reasonOfWord_68 at hE
    unfold q_X11_reasonOfWord_68 at hp
    refine lv_bipush (v := 9) hx hb dX11_reasonOfWord_68 (by decide) ?_
    subst hQ
    exact W.iret (v := 9) hx hb hr (fun t ht hW => ⟨⟨9, S, rfl, hE.trans hX.symm, by rw [ht]; exact hP, hD⟩, hS.F ht⟩) hS.2.2 dX11_reasonOfWord_70
  have B_131 : ∀ (S : HS) (x1 x2 x3 x4 x5 y0 : Int32) (H : Heap) (locs : List Loc) (ls : Array Slot), b_X11_reasonOfWord_131 S x1 x2 x3 x4 x5 y0 = X → q_X11_reasonOfWord_131 S x1 x2 x3 x4 x5 y0 → va_P G vwCl (hW K h g S) H → va_D A (hW K h g S) → va_S A s.heap H locs → lv_has ls 6 [(0, .ref h), (1, .int x1), (2, .int x2), (3, .int x3), (4, .int x4), (5, .int x5)] → W p l e ({ frames := 2, cells := 0, slots := 0, locals := 44 } : Room) s m #[Value.ref h, Value.int a1, Value.int a2, Value.int a3, Value.int a4] below meth c H locs 0 0 Q (F0 m 131 ls [.int y0]) := by
    intro S x1 x2 x3 x4 x5 y0 H locs ls hE hp hP hD hS hl
    unfold b_X11_reasonOfWord_131 at hE
    unfold q_X11_reasonOfWord_131 at hp
    subst hQ
    exact W.iret (v := y0) hx hb hr (fun t ht hW => ⟨⟨y0, S, rfl, hE.trans hX.symm, by rw [ht]; exact hP, hD⟩, hS.F ht⟩) hS.2.2 dX11_reasonOfWord_131
  have B_102 : ∀ (S : HS) (x1 x2 x3 x4 y0 y1 : Int32) (H : Heap) (locs : List Loc) (ls : Array Slot), b_X11_reasonOfWord_102 S x1 x2 x3 x4 y0 y1 = X → q_X11_reasonOfWord_102 S x1 x2 x3 x4 y0 y1 → va_P G vwCl (hW K h g S) H → va_D A (hW K h g S) → va_S A s.heap H locs → lv_has ls 6 [(0, .ref h), (1, .int x1), (2, .int x2), (3, .int x3), (4, .int x4)] → W p l e ({ frames := 2, cells := 0, slots := 0, locals := 44 } : Room) s m #[Value.ref h, Value.int a1, Value.int a2, Value.int a3, Value.int a4] below meth c H locs 0 0 Q (F0 m 102 ls [.int y0, .int y1]) := by
    intro S x1 x2 x3 x4 y0 y1 H locs ls hE hp hP hD hS hl
    unfold b_X11_reasonOfWord_102 at hE
    unfold q_X11_reasonOfWord_102 at hp
    refine lv_iadd hx hb dX11_reasonOfWord_102 ?_
    refine lv_istore (lv' := [(5, .int (y1 + y0)), (0, .ref h), (1, .int x1), (2, .int x2), (3, .int x3), (4, .int x4)]) hx hb dX11_reasonOfWord_103 hl (by decide) rfl (fun ls hl => ?_)
    refine lv_aload_n hx hb dX11_reasonOfWord_105 rfl (lv_at hl 1 rfl) ?_
    refine va_get (D := G) (ci := 8) (v := .ref (g 19)) (C := RX11) (T := TX11) (N := 42) hx hb hts iX11 hown hK hP 0 rfl rfl 19 (by decide) (hw (.fieldLink RX11 37 "MotionFloorModel$Hall" "words" "[I") (List.mem_of_getElem? (i := 8) rfl)) (fun _ h9 => h9) rfl dX11_reasonOfWord_106 ?_
    refine lv_aload_n hx hb dX11_reasonOfWord_109 rfl (lv_at hl 1 rfl) ?_
    refine va_get (D := G) (ci := 8) (v := .ref (g 32)) (C := RX11) (T := TX11) (N := 42) hx hb hts iX11 hown hK hP 0 rfl rfl 32 (by decide) (hw (.fieldLink RX11 75 "MotionFloorModel$Hall" "draft" "[I") (List.mem_of_getElem? (i := 5) rfl)) (fun _ h9 => h9) rfl dX11_reasonOfWord_110 ?_
    refine lv_iconst (v := 0) hx hb dX11_reasonOfWord_113 (by decide) ?_
    obtain ⟨h16, hp⟩ := hp
    refine va_iald hx hb hK hP 21 0 rfl rfl h16 dX11_reasonOfWord_114 ?_
    obtain ⟨h17, hp⟩ := hp
    refine va_iald hx hb hK hP 9 0 rfl rfl h17 dX11_reasonOfWord_115 ?_
    refine lv_iload hx hb dX11_reasonOfWord_116 (lv_at hl 0 rfl) ?_
    refine lv_iadd hx hb dX11_reasonOfWord_118 ?_
    refine lv_sipush (v := 400) hx hb dX11_reasonOfWord_119 (by decide) ?_
    refine lv_icmp_le (tgt := 130) hx hb dX11_reasonOfWord_122 (by decide) (fun c18 => ?_) (fun c18 => ?_)
    · rw [if_pos c18] at hE hp
      refine lv_iconst (v := 0) hx hb dX11_reasonOfWord_130 (by decide) ?_
      exact B_131 S x1 x2 x3 x4 (y1 + y0) 0 _ _ _ hE hp hP hD hS (lv_sub hl [1, 2, 3, 4, 5, 0] rfl)
    · rw [if_neg c18] at hE hp
      refine lv_bipush (v := 10) hx hb dX11_reasonOfWord_125 (by decide) ?_
      refine lv_goto (tgt := 131) hx hb dX11_reasonOfWord_127 (by decide) ?_
      exact B_131 S x1 x2 x3 x4 (y1 + y0) 10 _ _ _ hE hp hP hD hS (lv_sub hl [1, 2, 3, 4, 5, 0] rfl)
  have B_91 : ∀ (S : HS) (x1 x2 x3 x4 y0 y1 : Int32) (H : Heap) (locs : List Loc) (ls : Array Slot), b_X11_reasonOfWord_91 S x1 x2 x3 x4 y0 y1 = X → q_X11_reasonOfWord_91 S x1 x2 x3 x4 y0 y1 → va_P G vwCl (hW K h g S) H → va_D A (hW K h g S) → va_S A s.heap H locs → lv_has ls 6 [(0, .ref h), (1, .int x1), (2, .int x2), (3, .int x3), (4, .int x4)] → W p l e ({ frames := 2, cells := 0, slots := 0, locals := 44 } : Room) s m #[Value.ref h, Value.int a1, Value.int a2, Value.int a3, Value.int a4] below meth c H locs 0 0 Q (F0 m 91 ls [.int y0, .int y1]) := by
    intro S x1 x2 x3 x4 y0 y1 H locs ls hE hp hP hD hS hl
    unfold b_X11_reasonOfWord_91 at hE
    unfold q_X11_reasonOfWord_91 at hp
    refine lv_iadd hx hb dX11_reasonOfWord_91 ?_
    refine lv_iload hx hb dX11_reasonOfWord_92 (lv_at hl 4 rfl) ?_
    refine lv_if_eq (tgt := 101) hx hb dX11_reasonOfWord_94 (by decide) (fun c15 => ?_) (fun c15 => ?_)
    · rw [if_pos c15] at hE hp
      refine lv_iconst (v := 0) hx hb dX11_reasonOfWord_101 (by decide) ?_
      exact B_102 S x1 x2 x3 x4 0 (y1 + y0) _ _ _ hE hp hP hD hS (lv_sub hl [0, 1, 2, 3, 4] rfl)
    · rw [if_neg c15] at hE hp
      refine lv_iconst (v := 1) hx hb dX11_reasonOfWord_97 (by decide) ?_
      refine lv_goto (tgt := 102) hx hb dX11_reasonOfWord_98 (by decide) ?_
      exact B_102 S x1 x2 x3 x4 1 (y1 + y0) _ _ _ hE hp hP hD hS (lv_sub hl [0, 1, 2, 3, 4] rfl)
  have B_81 : ∀ (S : HS) (x1 x2 x3 x4 y0 y1 : Int32) (H : Heap) (locs : List Loc) (ls : Array Slot), b_X11_reasonOfWord_81 S x1 x2 x3 x4 y0 y1 = X → q_X11_reasonOfWord_81 S x1 x2 x3 x4 y0 y1 → va_P G vwCl (hW K h g S) H → va_D A (hW K h g S) → va_S A s.heap H locs → lv_has ls 6 [(0, .ref h), (1, .int x1), (2, .int x2), (3, .int x3), (4, .int x4)] → W p l e ({ frames := 2, cells := 0, slots := 0, locals := 44 } : Room) s m #[Value.ref h, Value.int a1, Value.int a2, Value.int a3, Value.int a4] below meth c H locs 0 0 Q (F0 m 81 ls [.int y0, .int y1]) := by
    intro S x1 x2 x3 x4 y0 y1 H locs ls hE hp hP hD hS hl
    unfold b_X11_reasonOfWord_81 at hE
    unfold q_X11_reasonOfWord_81 at hp
    refine lv_iadd hx hb dX11_reasonOfWord_81 ?_
    refine lv_iload_n hx hb dX11_reasonOfWord_82 rfl (lv_at hl 3 rfl) ?_
    refine lv_if_eq (tgt := 90) hx hb dX11_reasonOfWord_83 (by decide) (fun c14 => ?_) (fun c14 => ?_)
    · rw [if_pos c14] at hE hp
      refine lv_iconst (v := 0) hx hb dX11_reasonOfWord_90 (by decide) ?_
      exact B_91 S x1 x2 x3 x4 0 (y1 + y0) _ _ _ hE hp hP hD hS (lv_sub hl [0, 1, 2, 3, 4] rfl)
    · rw [if_neg c14] at hE hp
      refine lv_iconst (v := 1) hx hb dX11_reasonOfWord_86 (by decide) ?_
      refine lv_goto (tgt := 91) hx hb dX11_reasonOfWord_87 (by decide) ?_
      exact B_91 S x1 x2 x3 x4 1 (y1 + y0) _ _ _ hE hp hP hD hS (lv_sub hl [0, 1, 2, 3, 4] rfl)
  have B_71 : ∀ (S : HS) (x1 x2 x3 x4 : Int32) (H : Heap) (locs : List Loc) (ls : Array Slot), b_X11_reasonOfWord_71 S x1 x2 x3 x4 = X → q_X11_reasonOfWord_71 S x1 x2 x3 x4 → va_P G vwCl (hW K h g S) H → va_D A (hW K h g S) → va_S A s.heap H locs → lv_has ls 6 [(0, .ref h), (1, .int x1), (2, .int x2), (3, .int x3), (4, .int x4)] → W p l e ({ frames := 2, cells := 0, slots := 0, locals := 44 } : Room) s m #[Value.ref h, Value.int a1, Value.int a2, Value.int a3, Value.int a4] below meth c H locs 0 0 Q (F0 m 71 ls []) := by
    intro S x1 x2 x3 x4 H locs ls hE hp hP hD hS hl
    unfold b_X11_reasonOfWord_71 at hE
    unfold q_X11_reasonOfWord_71 at hp
    refine lv_iconst (v := 1) hx hb dX11_reasonOfWord_71 (by decide) ?_
    refine lv_iload_n hx hb dX11_reasonOfWord_72 rfl (lv_at hl 2 rfl) ?_
    refine lv_if_eq (tgt := 80) hx hb dX11_reasonOfWord_73 (by decide) (fun c13 => ?_) (fun c13 => ?_)
    · rw [if_pos c13] at hE hp
      refine lv_iconst (v := 0) hx hb dX11_reasonOfWord_80 (by decide) ?_
      exact B_81 S x1 x2 x3 x4 0 1 _ _ _ hE hp hP hD hS (lv_sub hl [0, 1, 2, 3, 4] rfl)
    · rw [if_neg c13] at hE hp
      refine lv_iconst (v := 1) hx hb dX11_reasonOfWord_76 (by decide) ?_
      refine lv_goto (tgt := 81) hx hb dX11_reasonOfWord_77 (by decide) ?_
      exact B_81 S x1 x2 x3 x4 1 1 _ _ _ hE hp hP hD hS (lv_sub hl [0, 1, 2, 3, 4] rfl)
  have B_55 : ∀ (S : HS) (x1 x2 x3 x4 : Int32) (H : Heap) (locs : List Loc) (ls : Array Slot), b_X11_reasonOfWord_55 S x1 x2 x3 x4 = X → q_X11_reasonOfWord_55 S x1 x2 x3 x4 → va_P G vwCl (hW K h g S) H → va_D A (hW K h g S) → va_S A s.heap H locs → lv_has ls 6 [(0, .ref h), (1, .int x1), (2, .int x2), (3, .int x3), (4, .int x4)] → W p l e ({ frames := 2, cells := 0, slots := 0, locals := 44 } : Room) s m #[Value.ref h, Value.int a1, Value.int a2, Value.int a3, Value.int a4] below meth c H locs 0 0 Q (F0 m 55 ls []) := by
    intro S x1 x2 x3 x4 H locs ls hE hp hP hD hS hl
    unfold b_X11_reasonOfWord_55 at hE
    unfold q_X11_reasonOfWord_55 at hp
    refine lv_iload hx hb dX11_reasonOfWord_55 (lv_at hl 4 rfl) ?_
    refine lv_if_eq (tgt := 71) hx hb dX11_reasonOfWord_57 (by decide) (fun c12 => ?_) (fun c12 => ?_)
    · rw [if_pos c12] at hE hp
      exact B_71 S x1 x2 x3 x4 _ _ _ hE hp hP hD hS (lv_sub hl [0, 1, 2, 3, 4] rfl)
    · rw [if_neg c12] at hE hp
      refine lv_iload hx hb dX11_reasonOfWord_60 (lv_at hl 4 rfl) ?_
      obtain ⟨h19, hp⟩ := hp
      refine nGoi (va_runS (As := [.int x4]) (rest := []) ⟨hx, hb, hml, hown, hts⟩ (c_X11_isWord l G K x4 _) (va_cwS 1 hts (wGS t_ (mw (.methodLink RX11 181 yX11_isWord) (List.mem_of_getElem? (i := 6) rfl)) (mw (.static yX11_isWord) (List.mem_of_getElem? (i := 7) rfl)) (mw (.initialized RX11) (List.mem_of_getElem? (i := 3) rfl)) j_X11_isWord) rfl rfl rfl (by decide +kernel) ⟨Nat.le_of_ble_eq_true rfl, Nat.le_of_ble_eq_true rfl⟩) (nPS hK hTE h19) rfl rfl hl.1 rfl (lv_room (Nat.le_of_ble_eq_true rfl)) dX11_reasonOfWord_62 ⟨Nat.le_of_ble_eq_true rfl, Nat.le_of_ble_eq_true rfl⟩) hP hS hA (fun r H locs hv hP hS => ?_)
      subst hv
      refine lv_if_ne (tgt := 71) hx hb dX11_reasonOfWord_65 (by decide) (fun c20 => ?_) (fun c20 => ?_)
      · rw [if_neg c20] at hE hp
        exact B_71 S x1 x2 x3 x4 _ _ _ hE hp hP hD hS (lv_sub hl [0, 1, 2, 3, 4] rfl)
      · rw [if_pos c20] at hE hp
        exact B_68 S x1 x2 x3 x4 _ _ _ hE hp hP hD hS (lv_sub hl [0, 1, 2, 3, 4] rfl)
  have B_44 : ∀ (S : HS) (x1 x2 x3 x4 : Int32) (H : Heap) (locs : List Loc) (ls : Array Slot), b_X11_reasonOfWord_44 S x1 x2 x3 x4 = X → q_X11_reasonOfWord_44 S x1 x2 x3 x4 → va_P G vwCl (hW K h g S) H → va_D A (hW K h g S) → va_S A s.heap H locs → lv_has ls 6 [(0, .ref h), (1, .int x1), (2, .int x2), (3, .int x3), (4, .int x4)] → W p l e ({ frames := 2, cells := 0, slots := 0, locals := 44 } : Room) s m #[Value.ref h, Value.int a1, Value.int a2, Value.int a3, Value.int a4] below meth c H locs 0 0 Q (F0 m 44 ls []) := by
    intro S x1 x2 x3 x4 H locs ls hE hp hP hD hS hl
    unfold b_X11_reasonOfWord_44 at hE
    unfold q_X11_reasonOfWord_44 at hp
    refine lv_iload_n hx hb dX11_reasonOfWord_44 rfl (lv_at hl 3 rfl) ?_
    refine lv_if_eq (tgt := 55) hx hb dX11_reasonOfWord_45 (by decide) (fun c11 => ?_) (fun c11 => ?_)
    · rw [if_pos c11] at hE hp
      exact B_55 S x1 x2 x3 x4 _ _ _ hE hp hP hD hS (lv_sub hl [0, 1, 2, 3, 4] rfl)
    · rw [if_neg c11] at hE hp
      refine lv_iload_n hx hb dX11_reasonOfWord_48 rfl (lv_at hl 3 rfl) ?_
      obtain ⟨h21, hp⟩ := hp
      refine nGoi (va_runS (As := [.int x3]) (rest := []) ⟨hx, hb, hml, hown, hts⟩ (c_X11_isWord l G K x3 _) (va_cwS 1 hts (wGS t_ (mw (.methodLink RX11 181 yX11_isWord) (List.mem_of_getElem? (i := 6) rfl)) (mw (.static yX11_isWord) (List.mem_of_getElem? (i := 7) rfl)) (mw (.initialized RX11) (List.mem_of_getElem? (i := 3) rfl)) j_X11_isWord) rfl rfl rfl (by decide +kernel) ⟨Nat.le_of_ble_eq_true rfl, Nat.le_of_ble_eq_true rfl⟩) (nPS hK hTE h21) rfl rfl hl.1 rfl (lv_room (Nat.le_of_ble_eq_true rfl)) dX11_reasonOfWord_49 ⟨Nat.le_of_ble_eq_true rfl, Nat.le_of_ble_eq_true rfl⟩) hP hS hA (fun r H locs hv hP hS => ?_)
      subst hv
      refine lv_if_eq (tgt := 68) hx hb dX11_reasonOfWord_52 (by decide) (fun c22 => ?_) (fun c22 => ?_)
      · rw [if_pos c22] at hE hp
        exact B_68 S x1 x2 x3 x4 _ _ _ hE hp hP hD hS (lv_sub hl [0, 1, 2, 3, 4] rfl)
      · rw [if_neg c22] at hE hp
        exact B_55 S x1 x2 x3 x4 _ _ _ hE hp hP hD hS (lv_sub hl [0, 1, 2, 3, 4] rfl)
  have B_M : ∀ (S : HS) (x1 x2 x3 x4 : Int32) (H : Heap) (locs : List Loc) (ls : Array Slot), f_X11_reasonOfWord S x1 x2 x3 x4 = X → p_X11_reasonOfWord S x1 x2 x3 x4 → va_P G vwCl (hW K h g S) H → va_D A (hW K h g S) → va_S A s.heap H locs → lv_has ls 6 [(0, .ref h), (1, .int x1), (2, .int x2), (3, .int x3), (4, .int x4)] → W p l e ({ frames := 2, cells := 0, slots := 0, locals := 44 } : Room) s m #[Value.ref h, Value.int a1, Value.int a2, Value.int a3, Value.int a4] below meth c H locs 0 0 Q (F0 m 0 ls []) := by
    intro S x1 x2 x3 x4 H locs ls hE hp hP hD hS hl
    unfold f_X11_reasonOfWord at hE
    unfold p_X11_reasonOfWord at hp
    refine lv_aload_n hx hb dX11_reasonOfWord_0 rfl (lv_at hl 0 rfl) ?_
    refine lv_iconst (v := 1) hx hb dX11_reasonOfWord_1 (by decide) ?_
    refine lv_iconst (v := 5) hx hb dX11_reasonOfWord_2 (by decide) ?_
    obtain ⟨h1, hp⟩ := hp
    refine hGoi (va_runV (As := [.int 1, .int 5]) (rest := []) ⟨hx, hb, hml, hown, hts⟩ (c_X11_hasDraft l G K h g S 1 5 _) (cwV 2 hts (wGV t_ (mw (.methodLink RX11 163 yX11_hasDraft) (List.mem_of_getElem? (i := 0) rfl)) (mw (.instanceMethod yX11_hasDraft) (List.mem_of_getElem? (i := 1) rfl)) (mw (.selects RX11 yX11_hasDraft yX11_hasDraft) (List.mem_of_getElem? (i := 2) rfl)) (mw (.initialized RX11) (List.mem_of_getElem? (i := 3) rfl)) j_X11_hasDraft) rfl rfl rfl (by decide +kernel) ⟨Nat.le_of_ble_eq_true rfl, Nat.le_of_ble_eq_true rfl⟩) (hPV hK hTE hP hD h1) rfl rfl hl.1 rfl (lv_room (Nat.le_of_ble_eq_true rfl)) dX11_reasonOfWord_3 ⟨Nat.le_of_ble_eq_true rfl, Nat.le_of_ble_eq_true rfl⟩) hP hD hS hA (fun r3 u2 H locs hv hP hD hS => ?_)
    rw [← hv] at hE hp
    dsimp only at hE hp
    unfold b_X11_reasonOfWord_a6 at hE
    unfold q_X11_reasonOfWord_a6 at hp
    refine lv_if_eq (tgt := 23) hx hb dX11_reasonOfWord_6 (by decide) (fun c4 => ?_) (fun c4 => ?_)
    · rw [if_pos c4] at hE hp
      exact B_23 u2 x1 x2 x3 x4 _ _ _ hE hp hP hD hS (lv_sub hl [0, 1, 2, 3, 4] rfl)
    · rw [if_neg c4] at hE hp
      refine lv_aload_n hx hb dX11_reasonOfWord_9 rfl (lv_at hl 0 rfl) ?_
      refine va_get (D := G) (ci := 8) (v := .ref (g 25)) (C := RX11) (T := TX11) (N := 42) hx hb hts iX11 hown hK hP 0 rfl rfl 25 (by decide) (hw (.fieldLink RX11 55 "MotionFloorModel$Hall" "laid" "[Z") (List.mem_of_getElem? (i := 4) rfl)) (fun _ h9 => h9) rfl dX11_reasonOfWord_10 ?_
      refine lv_aload_n hx hb dX11_reasonOfWord_13 rfl (lv_at hl 0 rfl) ?_
      refine va_get (D := G) (ci := 8) (v := .ref (g 32)) (C := RX11) (T := TX11) (N := 42) hx hb hts iX11 hown hK hP 0 rfl rfl 32 (by decide) (hw (.fieldLink RX11 75 "MotionFloorModel$Hall" "draft" "[I") (List.mem_of_getElem? (i := 5) rfl)) (fun _ h9 => h9) rfl dX11_reasonOfWord_14 ?_
      refine lv_iconst (v := 0) hx hb dX11_reasonOfWord_17 (by decide) ?_
      obtain ⟨h5, hp⟩ := hp
      refine va_iald hx hb hK hP 21 0 rfl rfl h5 dX11_reasonOfWord_18 ?_
      obtain ⟨h6, hp⟩ := hp
      refine va_zald hx hb hK hP 15 1 rfl rfl h6 dX11_reasonOfWord_19 ?_
      refine lv_if_eq (tgt := 26) hx hb dX11_reasonOfWord_20 (by decide) (fun c7 => ?_) (fun c7 => ?_)
      · rw [if_pos c7] at hE hp
        refine lv_iload_n hx hb dX11_reasonOfWord_26 rfl (lv_at hl 1 rfl) ?_
        obtain ⟨h8, hp⟩ := hp
        refine nGoi (va_runS (As := [.int x1]) (rest := []) ⟨hx, hb, hml, hown, hts⟩ (c_X11_isWord l G K x1 _) (va_cwS 1 hts (wGS t_ (mw (.methodLink RX11 181 yX11_isWord) (List.mem_of_getElem? (i := 6) rfl)) (mw (.static yX11_isWord) (List.mem_of_getElem? (i := 7) rfl)) (mw (.initialized RX11) (List.mem_of_getElem? (i := 3) rfl)) j_X11_isWord) rfl rfl rfl (by decide +kernel) ⟨Nat.le_of_ble_eq_true rfl, Nat.le_of_ble_eq_true rfl⟩) (nPS hK hTE h8) rfl rfl hl.1 rfl (lv_room (Nat.le_of_ble_eq_true rfl)) dX11_reasonOfWord_27 ⟨Nat.le_of_ble_eq_true rfl, Nat.le_of_ble_eq_true rfl⟩) hP hS hA (fun r H locs hv hP hS => ?_)
        subst hv
        refine lv_if_eq (tgt := 68) hx hb dX11_reasonOfWord_30 (by decide) (fun c9 => ?_) (fun c9 => ?_)
        · rw [if_pos c9] at hE hp
          exact B_68 u2 x1 x2 x3 x4 _ _ _ hE hp hP hD hS (lv_sub hl [0, 1, 2, 3, 4] rfl)
        · rw [if_neg c9] at hE hp
          refine lv_iload_n hx hb dX11_reasonOfWord_33 rfl (lv_at hl 2 rfl) ?_
          refine lv_if_eq (tgt := 44) hx hb dX11_reasonOfWord_34 (by decide) (fun c10 => ?_) (fun c10 => ?_)
          · rw [if_pos c10] at hE hp
            exact B_44 u2 x1 x2 x3 x4 _ _ _ hE hp hP hD hS (lv_sub hl [0, 1, 2, 3, 4] rfl)
          · rw [if_neg c10] at hE hp
            refine lv_iload_n hx hb dX11_reasonOfWord_37 rfl (lv_at hl 2 rfl) ?_
            obtain ⟨h23, hp⟩ := hp
            refine nGoi (va_runS (As := [.int x2]) (rest := []) ⟨hx, hb, hml, hown, hts⟩ (c_X11_isWord l G K x2 _) (va_cwS 1 hts (wGS t_ (mw (.methodLink RX11 181 yX11_isWord) (List.mem_of_getElem? (i := 6) rfl)) (mw (.static yX11_isWord) (List.mem_of_getElem? (i := 7) rfl)) (mw (.initialized RX11) (List.mem_of_getElem? (i := 3) rfl)) j_X11_isWord) rfl rfl rfl (by decide +kernel) ⟨Nat.le_of_ble_eq_true rfl, Nat.le_of_ble_eq_true rfl⟩) (nPS hK hTE h23) rfl rfl hl.1 rfl (lv_room (Nat.le_of_ble_eq_true rfl)) dX11_reasonOfWord_38 ⟨Nat.le_of_ble_eq_true rfl, Nat.le_of_ble_eq_true rfl⟩) hP hS hA (fun r H locs hv hP hS => ?_)
            subst hv
            refine lv_if_eq (tgt := 68) hx hb dX11_reasonOfWord_41 (by decide) (fun c24 => ?_) (fun c24 => ?_)
            · rw [if_pos c24] at hE hp
              exact B_68 u2 x1 x2 x3 x4 _ _ _ hE hp hP hD hS (lv_sub hl [0, 1, 2, 3, 4] rfl)
            · rw [if_neg c24] at hE hp
              exact B_44 u2 x1 x2 x3 x4 _ _ _ hE hp hP hD hS (lv_sub hl [0, 1, 2, 3, 4] rfl)
      · rw [if_neg c7] at hE hp
        exact B_23 u2 x1 x2 x3 x4 _ _ _ hE hp hP hD hS (lv_sub hl [0, 1, 2, 3, 4] rfl)
  exact B_M S0 a1 a2 a3 a4 _ _ _ hX hp hP hD hS hl
def b_X11_voters_34 (S : HS) (x1 x2 x3 y0 y1 : Int32) : (Int32 × HS) ⊕ (HS × Int32 × Int32 × Int32) := Sum.inr (S, x1, (y1 + y0), (x3 + 1))
def q_X11_voters_34 (S : HS) (x1 x2 x3 y0 y1 : Int32) : Prop := True
def st_X11_voters_4 (S : HS) (x1 x2 x3 : Int32) : (Int32 × HS) ⊕ (HS × Int32 × Int32 × Int32) := if (S.1 0) ≤ x3 then Sum.inl ((x2, S)) else if 2 ≤ (S.2 29 ((200 * x1) + x3).toNatClampNeg) then (b_X11_voters_34 S x1 x2 x3 0 x2) else (b_X11_voters_34 S x1 x2 x3 1 x2)
def ps_X11_voters_4 (S : HS) (x1 x2 x3 : Int32) : Prop := (if (S.1 0) ≤ x3 then True else (vp_in ((200 * x1) + x3) 18000) ∧ (if 2 ≤ (S.2 29 ((200 * x1) + x3).toNatClampNeg) then (q_X11_voters_34 S x1 x2 x3 0 x2) else (q_X11_voters_34 S x1 x2 x3 1 x2)))
def lp_X11_voters_4 : Nat → HS → Int32 → Int32 → Int32 → Int32 × HS
  | 0, S, _, _, _ => (0, S)
  | n + 1, S, x1, x2, x3 => match st_X11_voters_4 S x1 x2 x3 with
    | Sum.inl r => r
    | Sum.inr q => lp_X11_voters_4 n q.1 q.2.1 q.2.2.1 q.2.2.2
def lq_X11_voters_4 : Nat → HS → Int32 → Int32 → Int32 → Prop
  | 0, _, _, _, _ => False
  | n + 1, S, x1, x2, x3 => ps_X11_voters_4 S x1 x2 x3 ∧ (match st_X11_voters_4 S x1 x2 x3 with
    | Sum.inl _ => True
    | Sum.inr q => lq_X11_voters_4 n q.1 q.2.1 q.2.2.1 q.2.2.2)
def f_X11_voters (S : HS) (x1 : Int32) : Int32 × HS := (lp_X11_voters_4 100000 S x1 0 0)
def p_X11_voters (S : HS) (x1 : Int32) : Prop := (lq_X11_voters_4 100000 S x1 0 0)
def e_X11_voters : List Cond := [.fieldLink RX11 96 "MotionFloorModel$Hall" "seats" "I", .fieldLink RX11 68 "MotionFloorModel$Hall" "ballot" "[B"]
def v_X11_voters : List Cond := .code yX11_voters cX11_voters 4 (some .int) :: (e_X11_voters ++ (wsX110 ++ []))
theorem te_X11_voters : GoodIn lw_tbl e_X11_voters := wGc z45 (wGc z76 (wG0))
theorem t_X11_voters : GoodIn lw_tbl v_X11_voters := wGc z77 (wGa te_X11_voters (wGa zcX11 (wG0)))
set_option maxHeartbeats 4000000 in
set_option maxRecDepth 100000 in
theorem c_X11_voters (l : Launch) (G : va_G) (K : Nat → ClassId) (h : Nat) (g : Nat → Nat) (S0 : HS) (a1 : Int32) (sz : Nat) : Met l yX11_voters v_X11_voters ({ frames := 0, cells := 0, slots := 0, locals := 0 }) (va_Pc [.ref h, .int a1] (hS G K h g sz S0 (p_X11_voters S0 a1))) (va_Qi (fun (r : Int32) (u : HS) => (r, u) = f_X11_voters S0 a1) (hB G K h g (va_A (hW K h g S0) sz)) (va_A (hW K h g S0) sz)) 0 0 (va_A (hW K h g S0) sz) := by
  refine Met.ofW (cc := cX11_voters) (maxL := 4) (ret := (some .int)) (by decide) rfl ?_
  intro p e s m args below meth c s₁ B hml hv
  obtain ⟨rfl, ⟨hsz, hP, hK, hD0, hTE⟩, hp⟩ := hv
  have hx := B.exec
  have hb := B.bytes
  have hr := B.returns
  have hts := atoms_spec (ws := v_X11_voters) B.pre
  have t_ := t_X11_voters
  have mw : ∀ w ∈ e_X11_voters, w ∈ v_X11_voters := fun w h => List.mem_cons_of_mem _ (List.mem_append_left _ h)
  have hw := fun w (h : w ∈ e_X11_voters) => hts w (mw w h)
  have iX11 : ∀ w ∈ wsX110, w ∈ v_X11_voters := fun w h => List.mem_cons_of_mem _ (List.mem_append_right _ (List.mem_append_left _ h))
  have hown : s.vm.findClass RX11 = some m.cls := findClass_of_methodNamed B.named
  have hlocks := B.notSynchronized
  subst hsz
  have hD := hD0.self (sz := s.heap.size)
  generalize hAe : va_A (hW K h g S0) s.heap.size = A at hD ⊢
  have hA : ∀ q : Nat, s.heap.size ≤ q → A q := fun q h => by rw [← hAe]; exact Or.inr h
  have hS : va_S A s.heap s.heap [] := va_S.rf
  have hl := lv_entry ([.ref h, .int a1]) (n := 4) (Nat.le_of_ble_eq_true rfl)
  rw [lg_entry_eq]
  generalize (lg_sl ([.ref h, .int a1]) ++ List.replicate (4 - (lg_sl ([.ref h, .int a1])).length) Slot.unset).toArray = ls at hl ⊢
  have hl : lv_has ls 4 [(0, .ref h), (1, .int a1)] := hl
  refine wGen (fun Q hQ => ?_)
  obtain ⟨X, hX⟩ : ∃ X, f_X11_voters S0 a1 = X := ⟨_, rfl⟩
  have L_4 : ∀ (n : Nat) (S : HS) (x1 x2 x3 : Int32) (H : Heap) (locs : List Loc) (ls : Array Slot), lp_X11_voters_4 n S x1 x2 x3 = X → lq_X11_voters_4 n S x1 x2 x3 → va_P G vwCl (hW K h g S) H → va_D A (hW K h g S) → va_S A s.heap H locs → lv_has ls 4 [(0, .ref h), (1, .int x1), (2, .int x2), (3, .int x3)] → W p l e ({ frames := 0, cells := 0, slots := 0, locals := 0 } : Room) s m #[Value.ref h, Value.int a1] below meth c H locs 0 0 Q (F0 m 4 ls []) := by
    intro n1
    induction n1 with
    | zero => intro S x1 x2 x3 H locs ls hE hp; exact False.elim hp
    | succ n1 ih1 =>
      intro S x1 x2 x3 H locs ls hO1 hp hP hD hS hl
      rw [lp_X11_voters_4] at hO1
      rw [lq_X11_voters_4] at hp
      obtain ⟨hp, hq1⟩ := hp
      generalize hE : st_X11_voters_4 S x1 x2 x3 = Y1 at hO1 hq1
      unfold st_X11_voters_4 at hE
      unfold ps_X11_voters_4 at hp
      have B_34 : ∀ (S : HS) (x1 x2 x3 y0 y1 : Int32) (H : Heap) (locs : List Loc) (ls : Array Slot), b_X11_voters_34 S x1 x2 x3 y0 y1 = Y1 → q_X11_voters_34 S x1 x2 x3 y0 y1 → va_P G vwCl (hW K h g S) H → va_D A (hW K h g S) → va_S A s.heap H locs → lv_has ls 4 [(0, .ref h), (1, .int x1), (2, .int x2), (3, .int x3)] → W p l e ({ frames := 0, cells := 0, slots := 0, locals := 0 } : Room) s m #[Value.ref h, Value.int a1] below meth c H locs 0 0 Q (F0 m 34 ls [.int y0, .int y1]) := by
        intro S x1 x2 x3 y0 y1 H locs ls hE hp hP hD hS hl
        unfold b_X11_voters_34 at hE
        unfold q_X11_voters_34 at hp
        refine lv_iadd hx hb dX11_voters_34 ?_
        refine lv_istore_n (lv' := [(2, .int (y1 + y0)), (0, .ref h), (1, .int x1), (3, .int x3)]) hx hb dX11_voters_35 rfl hl (by decide) rfl (fun ls hl => ?_)
        refine lv_iinc (v := (x3 + 1)) (lv' := [(3, .int (x3 + 1)), (2, .int (y1 + y0)), (0, .ref h), (1, .int x1)]) hx hb dX11_voters_36 hl (k := 3) rfl rfl (by decide) rfl (fun ls hl => ?_)
        refine lv_goto (tgt := 4) hx hb dX11_voters_39 (by decide) ?_
        subst hE
        dsimp only at hO1 hq1
        exact ih1 S x1 (y1 + y0) (x3 + 1) _ _ _ hO1 hq1 hP hD hS (lv_sub hl [2, 3, 1, 0] rfl)
      refine lv_iload_n hx hb dX11_voters_4 rfl (lv_at hl 3 rfl) ?_
      refine lv_aload_n hx hb dX11_voters_5 rfl (lv_at hl 0 rfl) ?_
      refine va_get (D := G) (ci := 8) (v := .int (S.1 0)) (C := RX11) (T := TX11) (N := 42) hx hb hts iX11 hown hK hP 0 rfl rfl 0 (by decide) (hw (.fieldLink RX11 96 "MotionFloorModel$Hall" "seats" "I") (List.mem_of_getElem? (i := 0) rfl)) (fun _ h9 => h9) rfl dX11_voters_6 ?_
      refine lv_icmp_ge (tgt := 42) hx hb dX11_voters_9 (by decide) (fun c1 => ?_) (fun c1 => ?_)
      · rw [if_pos c1] at hE hp
        subst hE
        have hE := hO1
        dsimp only at hE
        refine lv_iload_n hx hb dX11_voters_42 rfl (lv_at hl 2 rfl) ?_
        subst hQ
        exact W.iret (v := x2) hx hb hr (fun t ht hW => ⟨⟨x2, S, rfl, hE.trans hX.symm, by rw [ht]; exact hP, hD⟩, hS.F ht⟩) hS.2.2 dX11_voters_43
      · rw [if_neg c1] at hE hp
        refine lv_iload_n hx hb dX11_voters_12 rfl (lv_at hl 2 rfl) ?_
        refine lv_aload_n hx hb dX11_voters_13 rfl (lv_at hl 0 rfl) ?_
        refine va_get (D := G) (ci := 8) (v := .ref (g 29)) (C := RX11) (T := TX11) (N := 42) hx hb hts iX11 hown hK hP 0 rfl rfl 29 (by decide) (hw (.fieldLink RX11 68 "MotionFloorModel$Hall" "ballot" "[B") (List.mem_of_getElem? (i := 1) rfl)) (fun _ h9 => h9) rfl dX11_voters_14 ?_
        refine lv_sipush (v := 200) hx hb dX11_voters_17 (by decide) ?_
        refine lv_iload_n hx hb dX11_voters_20 rfl (lv_at hl 1 rfl) ?_
        refine lv_imul hx hb dX11_voters_21 ?_
        refine lv_iload_n hx hb dX11_voters_22 rfl (lv_at hl 3 rfl) ?_
        refine lv_iadd hx hb dX11_voters_23 ?_
        obtain ⟨h2, hp⟩ := hp
        refine va_bald hx hb hK hP 19 2 rfl rfl h2 dX11_voters_24 ?_
        refine lv_iconst (v := 2) hx hb dX11_voters_25 (by decide) ?_
        refine lv_icmp_ge (tgt := 33) hx hb dX11_voters_26 (by decide) (fun c3 => ?_) (fun c3 => ?_)
        · rw [if_pos c3] at hE hp
          refine lv_iconst (v := 0) hx hb dX11_voters_33 (by decide) ?_
          exact B_34 S x1 x2 x3 0 x2 _ _ _ hE hp hP hD hS (lv_sub hl [0, 1, 2, 3] rfl)
        · rw [if_neg c3] at hE hp
          refine lv_iconst (v := 1) hx hb dX11_voters_29 (by decide) ?_
          refine lv_goto (tgt := 34) hx hb dX11_voters_30 (by decide) ?_
          exact B_34 S x1 x2 x3 1 x2 _ _ _ hE hp hP hD hS (lv_sub hl [0, 1, 2, 3] rfl)
  have B_M : ∀ (S : HS) (x1 : Int32) (H : Heap) (locs : List Loc) (ls : Array Slot), f_X11_voters S x1 = X → p_X11_voters S x1 → va_P G vwCl (hW K h g S) H → va_D A (hW K h g S) → va_S A s.heap H locs → lv_has ls 4 [(0, .ref h), (1, .int x1)] → W p l e ({ frames := 0, cells := 0, slots := 0, locals := 0 } : Room) s m #[Value.ref h, Value.int a1] below meth c H locs 0 0 Q (F0 m 0 ls []) := by
    intro S x1 H locs ls hE hp hP hD hS hl
    unfold f_X11_voters at hE
    unfold p_X11_voters at hp
    refine lv_iconst (v := 0) hx hb dX11_voters_0 (by decide) ?_
    refine lv_istore_n (lv' := [(2, .int 0), (0, .ref h), (1, .int x1)]) hx hb dX11_voters_1 rfl hl (by decide) rfl (fun ls hl => ?_)
    refine lv_iconst (v := 0) hx hb dX11_voters_2 (by decide) ?_
    refine lv_istore_n (lv' := [(3, .int 0), (2, .int 0), (0, .ref h), (1, .int x1)]) hx hb dX11_voters_3 rfl hl (by decide) rfl (fun ls hl => ?_)
    exact L_4 100000 S x1 0 0 _ _ _ hE hp hP hD hS (lv_sub hl [2, 3, 1, 0] rfl)
  exact B_M S0 a1 _ _ _ hX hp hP hD hS hl
def st_X11_free_2 (S : HS) (x1 : Int32) : (Int32 × HS) ⊕ (HS × Int32) := if 8 ≤ x1 then Sum.inl (((-1), S)) else if (S.2 34 x1.toNatClampNeg) = 0 then Sum.inl ((x1, S)) else Sum.inr (S, (x1 + 1))
def ps_X11_free_2 (S : HS) (x1 : Int32) : Prop := (if 8 ≤ x1 then True else (vp_in x1 8) ∧ (if (S.2 34 x1.toNatClampNeg) = 0 then True else True))
def lp_X11_free_2 : Nat → HS → Int32 → Int32 × HS
  | 0, S, _ => (0, S)
  | n + 1, S, x1 => match st_X11_free_2 S x1 with
    | Sum.inl r => r
    | Sum.inr q => lp_X11_free_2 n q.1 q.2
def lq_X11_free_2 : Nat → HS → Int32 → Prop
  | 0, _, _ => False
  | n + 1, S, x1 => ps_X11_free_2 S x1 ∧ (match st_X11_free_2 S x1 with
    | Sum.inl _ => True
    | Sum.inr q => lq_X11_free_2 n q.1 q.2)
def f_X11_free (S : HS)  : Int32 × HS := (lp_X11_free_2 100000 S 0)
def p_X11_free (S : HS)  : Prop := (lq_X11_free_2 100000 S 0)
def e_X11_free : List Cond := [.fieldLink RX11 81 "MotionFloorModel$Hall" "lying" "[I"]
def v_X11_free : List Cond := .code yX11_free cX11_free 2 (some .int) :: (e_X11_free ++ (wsX110 ++ []))
theorem te_X11_free : GoodIn lw_tbl e_X11_free := wGc z78 (wG0)
theorem t_X11_free : GoodIn lw_tbl v_X11_free := wGc z79 (wGa te_X11_free (wGa zcX11 (wG0)))
set_option maxHeartbeats 4000000 in
set_option maxRecDepth 100000 in
theorem c_X11_free (l : Launch) (G : va_G) (K : Nat → ClassId) (h : Nat) (g : Nat → Nat) (S0 : HS)  (sz : Nat) : Met l yX11_free v_X11_free ({ frames := 0, cells := 0, slots := 0, locals := 0 }) (va_Pc [.ref h] (hS G K h g sz S0 (p_X11_free S0))) (va_Qi (fun (r : Int32) (u : HS) => (r, u) = f_X11_free S0) (hB G K h g (va_A (hW K h g S0) sz)) (va_A (hW K h g S0) sz)) 0 0 (va_A (hW K h g S0) sz) := by
  refine Met.ofW (cc := cX11_free) (maxL := 2) (ret := (some .int)) (by decide) rfl ?_
  intro p e s m args below meth c s₁ B hml hv
  obtain ⟨rfl, ⟨hsz, hP, hK, hD0, hTE⟩, hp⟩ := hv
  have hx := B.exec
  have hb := B.bytes
  have hr := B.returns
  have hts := atoms_spec (ws := v_X11_free) B.pre
  have t_ := t_X11_free
  have mw : ∀ w ∈ e_X11_free, w ∈ v_X11_free := fun w h => List.mem_cons_of_mem _ (List.mem_append_left _ h)
  have hw := fun w (h : w ∈ e_X11_free) => hts w (mw w h)
  have iX11 : ∀ w ∈ wsX110, w ∈ v_X11_free := fun w h => List.mem_cons_of_mem _ (List.mem_append_right _ (List.mem_append_left _ h))
  have hown : s.vm.findClass RX11 = some m.cls := findClass_of_methodNamed B.named
  have hlocks := B.notSynchronized
  subst hsz
  have hD := hD0.self (sz := s.heap.size)
  generalize hAe : va_A (hW K h g S0) s.heap.size = A at hD ⊢
  have hA : ∀ q : Nat, s.heap.size ≤ q → A q := fun q h => by rw [← hAe]; exact Or.inr h
  have hS : va_S A s.heap s.heap [] := va_S.rf
  have hl := lv_entry ([.ref h]) (n := 2) (Nat.le_of_ble_eq_true rfl)
  rw [lg_entry_eq]
  generalize (lg_sl ([.ref h]) ++ List.replicate (2 - (lg_sl ([.ref h])).length) Slot.unset).toArray = ls at hl ⊢
  have hl : lv_has ls 2 [(0, .ref h)] := hl
  refine wGen (fun Q hQ => ?_)
  obtain ⟨X, hX⟩ : ∃ X, f_X11_free S0 = X := ⟨_, rfl⟩
  have L_2 : ∀ (n : Nat) (S : HS) (x1 : Int32) (H : Heap) (locs : List Loc) (ls : Array Slot), lp_X11_free_2 n S x1 = X → lq_X11_free_2 n S x1 → va_P G vwCl (hW K h g S) H → va_D A (hW K h g S) → va_S A s.heap H locs → lv_has ls 2 [(0, .ref h), (1, .int x1)] → W p l e ({ frames := 0, cells := 0, slots := 0, locals := 0 } : Room) s m #[Value.ref h] below meth c H locs 0 0 Q (F0 m 2 ls []) := by
    intro n1
    induction n1 with
    | zero => intro S x1 H locs ls hE hp; exact False.elim hp
    | succ n1 ih1 =>
      intro S x1 H locs ls hO1 hp hP hD hS hl
      rw [lp_X11_free_2] at hO1
      rw [lq_X11_free_2] at hp
      obtain ⟨hp, hq1⟩ := hp
      generalize hE : st_X11_free_2 S x1 = Y1 at hO1 hq1
      unfold st_X11_free_2 at hE
      unfold ps_X11_free_2 at hp
      refine lv_iload_n hx hb dX11_free_2 rfl (lv_at hl 1 rfl) ?_
      refine lv_bipush (v := 8) hx hb dX11_free_3 (by decide) ?_
      refine lv_icmp_ge (tgt := 25) hx hb dX11_free_5 (by decide) (fun c1 => ?_) (fun c1 => ?_)
      · rw [if_pos c1] at hE hp
        subst hE
        have hE := hO1
        dsimp only at hE
        refine lv_iconst (v := (-1)) hx hb dX11_free_25 (by decide) ?_
        subst hQ
        exact W.iret (v := (-1)) hx hb hr (fun t ht hW => ⟨⟨(-1), S, rfl, hE.trans hX.symm, by rw [ht]; exact hP, hD⟩, hS.F ht⟩) hS.2.2 dX11_free_26
      · rw [if_neg c1] at hE hp
        refine lv_aload_n hx hb dX11_free_8 rfl (lv_at hl 0 rfl) ?_
        refine va_get (D := G) (ci := 8) (v := .ref (g 34)) (C := RX11) (T := TX11) (N := 42) hx hb hts iX11 hown hK hP 0 rfl rfl 34 (by decide) (hw (.fieldLink RX11 81 "MotionFloorModel$Hall" "lying" "[I") (List.mem_of_getElem? (i := 0) rfl)) (fun _ h9 => h9) rfl dX11_free_9 ?_
        refine lv_iload_n hx hb dX11_free_12 rfl (lv_at hl 1 rfl) ?_
        obtain ⟨h2, hp⟩ := hp
        refine va_iald hx hb hK hP 23 0 rfl rfl h2 dX11_free_13 ?_
        refine lv_if_ne (tgt := 19) hx hb dX11_free_14 (by decide) (fun c3 => ?_) (fun c3 => ?_)
        · rw [if_neg c3] at hE hp
          refine lv_iinc (v := (x1 + 1)) (lv' := [(1, .int (x1 + 1)), (0, .ref h)]) hx hb dX11_free_19 hl (k := 1) rfl rfl (by decide) rfl (fun ls hl => ?_)
          refine lv_goto (tgt := 2) hx hb dX11_free_22 (by decide) ?_
          subst hE
          dsimp only at hO1 hq1
          exact ih1 S (x1 + 1) _ _ _ hO1 hq1 hP hD hS (lv_sub hl [1, 0] rfl)
        · rw [if_pos c3] at hE hp
          subst hE
          have hE := hO1
          dsimp only at hE
          refine lv_iload_n hx hb dX11_free_17 rfl (lv_at hl 1 rfl) ?_
          subst hQ
          exact W.iret (v := x1) hx hb hr (fun t ht hW => ⟨⟨x1, S, rfl, hE.trans hX.symm, by rw [ht]; exact hP, hD⟩, hS.F ht⟩) hS.2.2 dX11_free_18
  have B_M : ∀ (S : HS) (H : Heap) (locs : List Loc) (ls : Array Slot), f_X11_free S = X → p_X11_free S → va_P G vwCl (hW K h g S) H → va_D A (hW K h g S) → va_S A s.heap H locs → lv_has ls 2 [(0, .ref h)] → W p l e ({ frames := 0, cells := 0, slots := 0, locals := 0 } : Room) s m #[Value.ref h] below meth c H locs 0 0 Q (F0 m 0 ls []) := by
    intro S H locs ls hE hp hP hD hS hl
    unfold f_X11_free at hE
    unfold p_X11_free at hp
    refine lv_iconst (v := 0) hx hb dX11_free_0 (by decide) ?_
    refine lv_istore_n (lv' := [(1, .int 0), (0, .ref h)]) hx hb dX11_free_1 rfl hl (by decide) rfl (fun ls hl => ?_)
    exact L_2 100000 S 0 _ _ _ hE hp hP hD hS (lv_sub hl [1, 0] rfl)
  exact B_M S0 _ _ _ hX hp hP hD hS hl
def b_X11_freePlaces_25 (S : HS) (x1 x2 y0 y1 : Int32) : (Int32 × HS) ⊕ (HS × Int32 × Int32) := Sum.inr (S, (y1 + y0), (x2 + 1))
def q_X11_freePlaces_25 (S : HS) (x1 x2 y0 y1 : Int32) : Prop := True
def st_X11_freePlaces_4 (S : HS) (x1 x2 : Int32) : (Int32 × HS) ⊕ (HS × Int32 × Int32) := if 8 ≤ x2 then Sum.inl ((x1, S)) else if (S.2 34 x2.toNatClampNeg) = 0 then (b_X11_freePlaces_25 S x1 x2 1 x1) else (b_X11_freePlaces_25 S x1 x2 0 x1)
def ps_X11_freePlaces_4 (S : HS) (x1 x2 : Int32) : Prop := (if 8 ≤ x2 then True else (vp_in x2 8) ∧ (if (S.2 34 x2.toNatClampNeg) = 0 then (q_X11_freePlaces_25 S x1 x2 1 x1) else (q_X11_freePlaces_25 S x1 x2 0 x1)))
def lp_X11_freePlaces_4 : Nat → HS → Int32 → Int32 → Int32 × HS
  | 0, S, _, _ => (0, S)
  | n + 1, S, x1, x2 => match st_X11_freePlaces_4 S x1 x2 with
    | Sum.inl r => r
    | Sum.inr q => lp_X11_freePlaces_4 n q.1 q.2.1 q.2.2
def lq_X11_freePlaces_4 : Nat → HS → Int32 → Int32 → Prop
  | 0, _, _, _ => False
  | n + 1, S, x1, x2 => ps_X11_freePlaces_4 S x1 x2 ∧ (match st_X11_freePlaces_4 S x1 x2 with
    | Sum.inl _ => True
    | Sum.inr q => lq_X11_freePlaces_4 n q.1 q.2.1 q.2.2)
def f_X11_freePlaces (S : HS)  : Int32 × HS := (lp_X11_freePlaces_4 100000 S 0 0)
def p_X11_freePlaces (S : HS)  : Prop := (lq_X11_freePlaces_4 100000 S 0 0)
def e_X11_freePlaces : List Cond := [.fieldLink RX11 81 "MotionFloorModel$Hall" "lying" "[I"]
def v_X11_freePlaces : List Cond := .code yX11_freePlaces cX11_freePlaces 3 (some .int) :: (e_X11_freePlaces ++ (wsX110 ++ []))
theorem te_X11_freePlaces : GoodIn lw_tbl e_X11_freePlaces := wGc z78 (wG0)
theorem t_X11_freePlaces : GoodIn lw_tbl v_X11_freePlaces := wGc z80 (wGa te_X11_freePlaces (wGa zcX11 (wG0)))
set_option maxHeartbeats 4000000 in
set_option maxRecDepth 100000 in
theorem c_X11_freePlaces (l : Launch) (G : va_G) (K : Nat → ClassId) (h : Nat) (g : Nat → Nat) (S0 : HS)  (sz : Nat) : Met l yX11_freePlaces v_X11_freePlaces ({ frames := 0, cells := 0, slots := 0, locals := 0 }) (va_Pc [.ref h] (hS G K h g sz S0 (p_X11_freePlaces S0))) (va_Qi (fun (r : Int32) (u : HS) => (r, u) = f_X11_freePlaces S0) (hB G K h g (va_A (hW K h g S0) sz)) (va_A (hW K h g S0) sz)) 0 0 (va_A (hW K h g S0) sz) := by
  refine Met.ofW (cc := cX11_freePlaces) (maxL := 3) (ret := (some .int)) (by decide) rfl ?_
  intro p e s m args below meth c s₁ B hml hv
  obtain ⟨rfl, ⟨hsz, hP, hK, hD0, hTE⟩, hp⟩ := hv
  have hx := B.exec
  have hb := B.bytes
  have hr := B.returns
  have hts := atoms_spec (ws := v_X11_freePlaces) B.pre
  have t_ := t_X11_freePlaces
  have mw : ∀ w ∈ e_X11_freePlaces, w ∈ v_X11_freePlaces := fun w h => List.mem_cons_of_mem _ (List.mem_append_left _ h)
  have hw := fun w (h : w ∈ e_X11_freePlaces) => hts w (mw w h)
  have iX11 : ∀ w ∈ wsX110, w ∈ v_X11_freePlaces := fun w h => List.mem_cons_of_mem _ (List.mem_append_right _ (List.mem_append_left _ h))
  have hown : s.vm.findClass RX11 = some m.cls := findClass_of_methodNamed B.named
  have hlocks := B.notSynchronized
  subst hsz
  have hD := hD0.self (sz := s.heap.size)
  generalize hAe : va_A (hW K h g S0) s.heap.size = A at hD ⊢
  have hA : ∀ q : Nat, s.heap.size ≤ q → A q := fun q h => by rw [← hAe]; exact Or.inr h
  have hS : va_S A s.heap s.heap [] := va_S.rf
  have hl := lv_entry ([.ref h]) (n := 3) (Nat.le_of_ble_eq_true rfl)
  rw [lg_entry_eq]
  generalize (lg_sl ([.ref h]) ++ List.replicate (3 - (lg_sl ([.ref h])).length) Slot.unset).toArray = ls at hl ⊢
  have hl : lv_has ls 3 [(0, .ref h)] := hl
  refine wGen (fun Q hQ => ?_)
  obtain ⟨X, hX⟩ : ∃ X, f_X11_freePlaces S0 = X := ⟨_, rfl⟩
  have L_4 : ∀ (n : Nat) (S : HS) (x1 x2 : Int32) (H : Heap) (locs : List Loc) (ls : Array Slot), lp_X11_freePlaces_4 n S x1 x2 = X → lq_X11_freePlaces_4 n S x1 x2 → va_P G vwCl (hW K h g S) H → va_D A (hW K h g S) → va_S A s.heap H locs → lv_has ls 3 [(0, .ref h), (1, .int x1), (2, .int x2)] → W p l e ({ frames := 0, cells := 0, slots := 0, locals := 0 } : Room) s m #[Value.ref h] below meth c H locs 0 0 Q (F0 m 4 ls []) := by
    intro n1
    induction n1 with
    | zero => intro S x1 x2 H locs ls hE hp; exact False.elim hp
    | succ n1 ih1 =>
      intro S x1 x2 H locs ls hO1 hp hP hD hS hl
      rw [lp_X11_freePlaces_4] at hO1
      rw [lq_X11_freePlaces_4] at hp
      obtain ⟨hp, hq1⟩ := hp
      generalize hE : st_X11_freePlaces_4 S x1 x2 = Y1 at hO1 hq1
      unfold st_X11_freePlaces_4 at hE
      unfold ps_X11_freePlaces_4 at hp
      have B_25 : ∀ (S : HS) (x1 x2 y0 y1 : Int32) (H : Heap) (locs : List Loc) (ls : Array Slot), b_X11_freePlaces_25 S x1 x2 y0 y1 = Y1 → q_X11_freePlaces_25 S x1 x2 y0 y1 → va_P G vwCl (hW K h g S) H → va_D A (hW K h g S) → va_S A s.heap H locs → lv_has ls 3 [(0, .ref h), (1, .int x1), (2, .int x2)] → W p l e ({ frames := 0, cells := 0, slots := 0, locals := 0 } : Room) s m #[Value.ref h] below meth c H locs 0 0 Q (F0 m 25 ls [.int y0, .int y1]) := by
        intro S x1 x2 y0 y1 H locs ls hE hp hP hD hS hl
        unfold b_X11_freePlaces_25 at hE
        unfold q_X11_freePlaces_25 at hp
        refine lv_iadd hx hb dX11_freePlaces_25 ?_
        refine lv_istore_n (lv' := [(1, .int (y1 + y0)), (0, .ref h), (2, .int x2)]) hx hb dX11_freePlaces_26 rfl hl (by decide) rfl (fun ls hl => ?_)
        refine lv_iinc (v := (x2 + 1)) (lv' := [(2, .int (x2 + 1)), (1, .int (y1 + y0)), (0, .ref h)]) hx hb dX11_freePlaces_27 hl (k := 2) rfl rfl (by decide) rfl (fun ls hl => ?_)
        refine lv_goto (tgt := 4) hx hb dX11_freePlaces_30 (by decide) ?_
        subst hE
        dsimp only at hO1 hq1
        exact ih1 S (y1 + y0) (x2 + 1) _ _ _ hO1 hq1 hP hD hS (lv_sub hl [2, 1, 0] rfl)
      refine lv_iload_n hx hb dX11_freePlaces_4 rfl (lv_at hl 2 rfl) ?_
      refine lv_bipush (v := 8) hx hb dX11_freePlaces_5 (by decide) ?_
      refine lv_icmp_ge (tgt := 33) hx hb dX11_freePlaces_7 (by decide) (fun c1 => ?_) (fun c1 => ?_)
      · rw [if_pos c1] at hE hp
        subst hE
        have hE := hO1
        dsimp only at hE
        refine lv_iload_n hx hb dX11_freePlaces_33 rfl (lv_at hl 1 rfl) ?_
        subst hQ
        exact W.iret (v := x1) hx hb hr (fun t ht hW => ⟨⟨x1, S, rfl, hE.trans hX.symm, by rw [ht]; exact hP, hD⟩, hS.F ht⟩) hS.2.2 dX11_freePlaces_34
      · rw [if_neg c1] at hE hp
        refine lv_iload_n hx hb dX11_freePlaces_10 rfl (lv_at hl 1 rfl) ?_
        refine lv_aload_n hx hb dX11_freePlaces_11 rfl (lv_at hl 0 rfl) ?_
        refine va_get (D := G) (ci := 8) (v := .ref (g 34)) (C := RX11) (T := TX11) (N := 42) hx hb hts iX11 hown hK hP 0 rfl rfl 34 (by decide) (hw (.fieldLink RX11 81 "MotionFloorModel$Hall" "lying" "[I") (List.mem_of_getElem? (i := 0) rfl)) (fun _ h9 => h9) rfl dX11_freePlaces_12 ?_
        refine lv_iload_n hx hb dX11_freePlaces_15 rfl (lv_at hl 2 rfl) ?_
        obtain ⟨h2, hp⟩ := hp
        refine va_iald hx hb hK hP 23 0 rfl rfl h2 dX11_freePlaces_16 ?_
        refine lv_if_ne (tgt := 24) hx hb dX11_freePlaces_17 (by decide) (fun c3 => ?_) (fun c3 => ?_)
        · rw [if_neg c3] at hE hp
          refine lv_iconst (v := 0) hx hb dX11_freePlaces_24 (by decide) ?_
          exact B_25 S x1 x2 0 x1 _ _ _ hE hp hP hD hS (lv_sub hl [0, 1, 2] rfl)
        · rw [if_pos c3] at hE hp
          refine lv_iconst (v := 1) hx hb dX11_freePlaces_20 (by decide) ?_
          refine lv_goto (tgt := 25) hx hb dX11_freePlaces_21 (by decide) ?_
          exact B_25 S x1 x2 1 x1 _ _ _ hE hp hP hD hS (lv_sub hl [0, 1, 2] rfl)
  have B_M : ∀ (S : HS) (H : Heap) (locs : List Loc) (ls : Array Slot), f_X11_freePlaces S = X → p_X11_freePlaces S → va_P G vwCl (hW K h g S) H → va_D A (hW K h g S) → va_S A s.heap H locs → lv_has ls 3 [(0, .ref h)] → W p l e ({ frames := 0, cells := 0, slots := 0, locals := 0 } : Room) s m #[Value.ref h] below meth c H locs 0 0 Q (F0 m 0 ls []) := by
    intro S H locs ls hE hp hP hD hS hl
    unfold f_X11_freePlaces at hE
    unfold p_X11_freePlaces at hp
    refine lv_iconst (v := 0) hx hb dX11_freePlaces_0 (by decide) ?_
    refine lv_istore_n (lv' := [(1, .int 0), (0, .ref h)]) hx hb dX11_freePlaces_1 rfl hl (by decide) rfl (fun ls hl => ?_)
    refine lv_iconst (v := 0) hx hb dX11_freePlaces_2 (by decide) ?_
    refine lv_istore_n (lv' := [(2, .int 0), (1, .int 0), (0, .ref h)]) hx hb dX11_freePlaces_3 rfl hl (by decide) rfl (fun ls hl => ?_)
    exact L_4 100000 S 0 0 _ _ _ hE hp hP hD hS (lv_sub hl [2, 1, 0] rfl)
  exact B_M S0 _ _ _ hX hp hP hD hS hl
def b_X11_wantsPlace_56 (S : HS) (x1 : Int32) : Int32 × HS := (1, S)
def q_X11_wantsPlace_56 (S : HS) (x1 : Int32) : Prop := True
def st_X11_wantsPlace_2 (S : HS) (x1 : Int32) : (Int32 × HS) ⊕ (HS × Int32) := if (S.1 6) ≤ x1 then Sum.inl ((0, S)) else if (S.2 14 (S.2 31 x1.toNatClampNeg).toNatClampNeg) = 4 then Sum.inl ((b_X11_wantsPlace_56 S x1)) else if (S.2 14 (S.2 31 x1.toNatClampNeg).toNatClampNeg) = 5 then Sum.inl ((b_X11_wantsPlace_56 S x1)) else if (S.2 14 (S.2 31 x1.toNatClampNeg).toNatClampNeg) = 7 then Sum.inl ((b_X11_wantsPlace_56 S x1)) else Sum.inr (S, (x1 + 1))
def ps_X11_wantsPlace_2 (S : HS) (x1 : Int32) : Prop := (if (S.1 6) ≤ x1 then True else (vp_in x1 9) ∧ (vp_in (S.2 31 x1.toNatClampNeg) 90) ∧ (if (S.2 14 (S.2 31 x1.toNatClampNeg).toNatClampNeg) = 4 then (q_X11_wantsPlace_56 S x1) else (vp_in x1 9) ∧ (vp_in (S.2 31 x1.toNatClampNeg) 90) ∧ (if (S.2 14 (S.2 31 x1.toNatClampNeg).toNatClampNeg) = 5 then (q_X11_wantsPlace_56 S x1) else (vp_in x1 9) ∧ (vp_in (S.2 31 x1.toNatClampNeg) 90) ∧ (if (S.2 14 (S.2 31 x1.toNatClampNeg).toNatClampNeg) = 7 then (q_X11_wantsPlace_56 S x1) else True))))
def lp_X11_wantsPlace_2 : Nat → HS → Int32 → Int32 × HS
  | 0, S, _ => (0, S)
  | n + 1, S, x1 => match st_X11_wantsPlace_2 S x1 with
    | Sum.inl r => r
    | Sum.inr q => lp_X11_wantsPlace_2 n q.1 q.2
def lq_X11_wantsPlace_2 : Nat → HS → Int32 → Prop
  | 0, _, _ => False
  | n + 1, S, x1 => ps_X11_wantsPlace_2 S x1 ∧ (match st_X11_wantsPlace_2 S x1 with
    | Sum.inl _ => True
    | Sum.inr q => lq_X11_wantsPlace_2 n q.1 q.2)
def f_X11_wantsPlace (S : HS)  : Int32 × HS := (lp_X11_wantsPlace_2 100000 S 0)
def p_X11_wantsPlace (S : HS)  : Prop := (lq_X11_wantsPlace_2 100000 S 0)
def e_X11_wantsPlace : List Cond := [.fieldLink RX11 115 "MotionFloorModel$Hall" "pending" "I", .fieldLink RX11 22 "MotionFloorModel$Hall" "kind" "[I", .fieldLink RX11 72 "MotionFloorModel$Hall" "row" "[I"]
def v_X11_wantsPlace : List Cond := .code yX11_wantsPlace cX11_wantsPlace 2 (some .boolean) :: (e_X11_wantsPlace ++ (wsX110 ++ []))
theorem te_X11_wantsPlace : GoodIn lw_tbl e_X11_wantsPlace := wGc z47 (wGc z57 (wGc z48 (wG0)))
theorem t_X11_wantsPlace : GoodIn lw_tbl v_X11_wantsPlace := wGc z81 (wGa te_X11_wantsPlace (wGa zcX11 (wG0)))
set_option maxHeartbeats 4000000 in
set_option maxRecDepth 100000 in
theorem c_X11_wantsPlace (l : Launch) (G : va_G) (K : Nat → ClassId) (h : Nat) (g : Nat → Nat) (S0 : HS)  (sz : Nat) : Met l yX11_wantsPlace v_X11_wantsPlace ({ frames := 0, cells := 0, slots := 0, locals := 0 }) (va_Pc [.ref h] (hS G K h g sz S0 (p_X11_wantsPlace S0))) (va_Qi (fun (r : Int32) (u : HS) => (r, u) = f_X11_wantsPlace S0) (hB G K h g (va_A (hW K h g S0) sz)) (va_A (hW K h g S0) sz)) 0 0 (va_A (hW K h g S0) sz) := by
  refine Met.ofW (cc := cX11_wantsPlace) (maxL := 2) (ret := (some .boolean)) (by decide) rfl ?_
  intro p e s m args below meth c s₁ B hml hv
  obtain ⟨rfl, ⟨hsz, hP, hK, hD0, hTE⟩, hp⟩ := hv
  have hx := B.exec
  have hb := B.bytes
  have hr := B.returns
  have hts := atoms_spec (ws := v_X11_wantsPlace) B.pre
  have t_ := t_X11_wantsPlace
  have mw : ∀ w ∈ e_X11_wantsPlace, w ∈ v_X11_wantsPlace := fun w h => List.mem_cons_of_mem _ (List.mem_append_left _ h)
  have hw := fun w (h : w ∈ e_X11_wantsPlace) => hts w (mw w h)
  have iX11 : ∀ w ∈ wsX110, w ∈ v_X11_wantsPlace := fun w h => List.mem_cons_of_mem _ (List.mem_append_right _ (List.mem_append_left _ h))
  have hown : s.vm.findClass RX11 = some m.cls := findClass_of_methodNamed B.named
  have hlocks := B.notSynchronized
  subst hsz
  have hD := hD0.self (sz := s.heap.size)
  generalize hAe : va_A (hW K h g S0) s.heap.size = A at hD ⊢
  have hA : ∀ q : Nat, s.heap.size ≤ q → A q := fun q h => by rw [← hAe]; exact Or.inr h
  have hS : va_S A s.heap s.heap [] := va_S.rf
  have hl := lv_entry ([.ref h]) (n := 2) (Nat.le_of_ble_eq_true rfl)
  rw [lg_entry_eq]
  generalize (lg_sl ([.ref h]) ++ List.replicate (2 - (lg_sl ([.ref h])).length) Slot.unset).toArray = ls at hl ⊢
  have hl : lv_has ls 2 [(0, .ref h)] := hl
  refine wGen (fun Q hQ => ?_)
  obtain ⟨X, hX⟩ : ∃ X, f_X11_wantsPlace S0 = X := ⟨_, rfl⟩
  have B_56 : ∀ (S : HS) (x1 : Int32) (H : Heap) (locs : List Loc) (ls : Array Slot), b_X11_wantsPlace_56 S x1 = X → q_X11_wantsPlace_56 S x1 → va_P G vwCl (hW K h g S) H → va_D A (hW K h g S) → va_S A s.heap H locs → lv_has ls 2 [(0, .ref h), (1, .int x1)] → W p l e ({ frames := 0, cells := 0, slots := 0, locals := 0 } : Room) s m #[Value.ref h] below meth c H locs 0 0 Q (F0 m 56 ls []) := by
    intro S x1 H locs ls hE hp hP hD hS hl
    unfold b_X11_wantsPlace_56 at hE
    unfold q_X11_wantsPlace_56 at hp
    refine lv_iconst (v := 1) hx hb dX11_wantsPlace_56 (by decide) ?_
    subst hQ
    exact W.zret (v := 1) (ty := .boolean) hx hb hr rfl (fun t ht hW => ⟨⟨1, S, rfl, hE.trans hX.symm, by rw [ht]; exact hP, hD⟩, hS.F ht⟩) hS.2.2 dX11_wantsPlace_57
  have L_2 : ∀ (n : Nat) (S : HS) (x1 : Int32) (H : Heap) (locs : List Loc) (ls : Array Slot), lp_X11_wantsPlace_2 n S x1 = X → lq_X11_wantsPlace_2 n S x1 → va_P G vwCl (hW K h g S) H → va_D A (hW K h g S) → va_S A s.heap H locs → lv_has ls 2 [(0, .ref h), (1, .int x1)] → W p l e ({ frames := 0, cells := 0, slots := 0, locals := 0 } : Room) s m #[Value.ref h] below meth c H locs 0 0 Q (F0 m 2 ls []) := by
    intro n1
    induction n1 with
    | zero => intro S x1 H locs ls hE hp; exact False.elim hp
    | succ n1 ih1 =>
      intro S x1 H locs ls hO1 hp hP hD hS hl
      rw [lp_X11_wantsPlace_2] at hO1
      rw [lq_X11_wantsPlace_2] at hp
      obtain ⟨hp, hq1⟩ := hp
      generalize hE : st_X11_wantsPlace_2 S x1 = Y1 at hO1 hq1
      unfold st_X11_wantsPlace_2 at hE
      unfold ps_X11_wantsPlace_2 at hp
      refine lv_iload_n hx hb dX11_wantsPlace_2 rfl (lv_at hl 1 rfl) ?_
      refine lv_aload_n hx hb dX11_wantsPlace_3 rfl (lv_at hl 0 rfl) ?_
      refine va_get (D := G) (ci := 8) (v := .int (S.1 6)) (C := RX11) (T := TX11) (N := 42) hx hb hts iX11 hown hK hP 0 rfl rfl 6 (by decide) (hw (.fieldLink RX11 115 "MotionFloorModel$Hall" "pending" "I") (List.mem_of_getElem? (i := 0) rfl)) (fun _ h9 => h9) rfl dX11_wantsPlace_4 ?_
      refine lv_icmp_ge (tgt := 64) hx hb dX11_wantsPlace_7 (by decide) (fun c1 => ?_) (fun c1 => ?_)
      · rw [if_pos c1] at hE hp
        subst hE
        have hE := hO1
        dsimp only at hE
        refine lv_iconst (v := 0) hx hb dX11_wantsPlace_64 (by decide) ?_
        subst hQ
        exact W.zret (v := 0) (ty := .boolean) hx hb hr rfl (fun t ht hW => ⟨⟨0, S, rfl, hE.trans hX.symm, by rw [ht]; exact hP, hD⟩, hS.F ht⟩) hS.2.2 dX11_wantsPlace_65
      · rw [if_neg c1] at hE hp
        refine lv_aload_n hx hb dX11_wantsPlace_10 rfl (lv_at hl 0 rfl) ?_
        refine va_get (D := G) (ci := 8) (v := .ref (g 14)) (C := RX11) (T := TX11) (N := 42) hx hb hts iX11 hown hK hP 0 rfl rfl 14 (by decide) (hw (.fieldLink RX11 22 "MotionFloorModel$Hall" "kind" "[I") (List.mem_of_getElem? (i := 1) rfl)) (fun _ h9 => h9) rfl dX11_wantsPlace_11 ?_
        refine lv_aload_n hx hb dX11_wantsPlace_14 rfl (lv_at hl 0 rfl) ?_
        refine va_get (D := G) (ci := 8) (v := .ref (g 31)) (C := RX11) (T := TX11) (N := 42) hx hb hts iX11 hown hK hP 0 rfl rfl 31 (by decide) (hw (.fieldLink RX11 72 "MotionFloorModel$Hall" "row" "[I") (List.mem_of_getElem? (i := 2) rfl)) (fun _ h9 => h9) rfl dX11_wantsPlace_15 ?_
        refine lv_iload_n hx hb dX11_wantsPlace_18 rfl (lv_at hl 1 rfl) ?_
        obtain ⟨h2, hp⟩ := hp
        refine va_iald hx hb hK hP 20 0 rfl rfl h2 dX11_wantsPlace_19 ?_
        obtain ⟨h3, hp⟩ := hp
        refine va_iald hx hb hK hP 4 0 rfl rfl h3 dX11_wantsPlace_20 ?_
        refine lv_iconst (v := 4) hx hb dX11_wantsPlace_21 (by decide) ?_
        refine lv_icmp_eq (tgt := 56) hx hb dX11_wantsPlace_22 (by decide) (fun c4 => ?_) (fun c4 => ?_)
        · rw [if_pos c4] at hE hp
          subst hE
          have hE := hO1
          dsimp only at hE
          exact B_56 S x1 _ _ _ hE hp hP hD hS (lv_sub hl [0, 1] rfl)
        · rw [if_neg c4] at hE hp
          refine lv_aload_n hx hb dX11_wantsPlace_25 rfl (lv_at hl 0 rfl) ?_
          refine va_get (D := G) (ci := 8) (v := .ref (g 14)) (C := RX11) (T := TX11) (N := 42) hx hb hts iX11 hown hK hP 0 rfl rfl 14 (by decide) (hw (.fieldLink RX11 22 "MotionFloorModel$Hall" "kind" "[I") (List.mem_of_getElem? (i := 1) rfl)) (fun _ h9 => h9) rfl dX11_wantsPlace_26 ?_
          refine lv_aload_n hx hb dX11_wantsPlace_29 rfl (lv_at hl 0 rfl) ?_
          refine va_get (D := G) (ci := 8) (v := .ref (g 31)) (C := RX11) (T := TX11) (N := 42) hx hb hts iX11 hown hK hP 0 rfl rfl 31 (by decide) (hw (.fieldLink RX11 72 "MotionFloorModel$Hall" "row" "[I") (List.mem_of_getElem? (i := 2) rfl)) (fun _ h9 => h9) rfl dX11_wantsPlace_30 ?_
          refine lv_iload_n hx hb dX11_wantsPlace_33 rfl (lv_at hl 1 rfl) ?_
          obtain ⟨h5, hp⟩ := hp
          refine va_iald hx hb hK hP 20 0 rfl rfl h5 dX11_wantsPlace_34 ?_
          obtain ⟨h6, hp⟩ := hp
          refine va_iald hx hb hK hP 4 0 rfl rfl h6 dX11_wantsPlace_35 ?_
          refine lv_iconst (v := 5) hx hb dX11_wantsPlace_36 (by decide) ?_
          refine lv_icmp_eq (tgt := 56) hx hb dX11_wantsPlace_37 (by decide) (fun c7 => ?_) (fun c7 => ?_)
          · rw [if_pos c7] at hE hp
            subst hE
            have hE := hO1
            dsimp only at hE
            exact B_56 S x1 _ _ _ hE hp hP hD hS (lv_sub hl [0, 1] rfl)
          · rw [if_neg c7] at hE hp
            refine lv_aload_n hx hb dX11_wantsPlace_40 rfl (lv_at hl 0 rfl) ?_
            refine va_get (D := G) (ci := 8) (v := .ref (g 14)) (C := RX11) (T := TX11) (N := 42) hx hb hts iX11 hown hK hP 0 rfl rfl 14 (by decide) (hw (.fieldLink RX11 22 "MotionFloorModel$Hall" "kind" "[I") (List.mem_of_getElem? (i := 1) rfl)) (fun _ h9 => h9) rfl dX11_wantsPlace_41 ?_
            refine lv_aload_n hx hb dX11_wantsPlace_44 rfl (lv_at hl 0 rfl) ?_
            refine va_get (D := G) (ci := 8) (v := .ref (g 31)) (C := RX11) (T := TX11) (N := 42) hx hb hts iX11 hown hK hP 0 rfl rfl 31 (by decide) (hw (.fieldLink RX11 72 "MotionFloorModel$Hall" "row" "[I") (List.mem_of_getElem? (i := 2) rfl)) (fun _ h9 => h9) rfl dX11_wantsPlace_45 ?_
            refine lv_iload_n hx hb dX11_wantsPlace_48 rfl (lv_at hl 1 rfl) ?_
            obtain ⟨h8, hp⟩ := hp
            refine va_iald hx hb hK hP 20 0 rfl rfl h8 dX11_wantsPlace_49 ?_
            obtain ⟨h9, hp⟩ := hp
            refine va_iald hx hb hK hP 4 0 rfl rfl h9 dX11_wantsPlace_50 ?_
            refine lv_bipush (v := 7) hx hb dX11_wantsPlace_51 (by decide) ?_
            refine lv_icmp_ne (tgt := 58) hx hb dX11_wantsPlace_53 (by decide) (fun c10 => ?_) (fun c10 => ?_)
            · rw [if_neg c10] at hE hp
              refine lv_iinc (v := (x1 + 1)) (lv' := [(1, .int (x1 + 1)), (0, .ref h)]) hx hb dX11_wantsPlace_58 hl (k := 1) rfl rfl (by decide) rfl (fun ls hl => ?_)
              refine lv_goto (tgt := 2) hx hb dX11_wantsPlace_61 (by decide) ?_
              subst hE
              dsimp only at hO1 hq1
              exact ih1 S (x1 + 1) _ _ _ hO1 hq1 hP hD hS (lv_sub hl [1, 0] rfl)
            · rw [if_pos c10] at hE hp
              subst hE
              have hE := hO1
              dsimp only at hE
              exact B_56 S x1 _ _ _ hE hp hP hD hS (lv_sub hl [0, 1] rfl)
  have B_M : ∀ (S : HS) (H : Heap) (locs : List Loc) (ls : Array Slot), f_X11_wantsPlace S = X → p_X11_wantsPlace S → va_P G vwCl (hW K h g S) H → va_D A (hW K h g S) → va_S A s.heap H locs → lv_has ls 2 [(0, .ref h)] → W p l e ({ frames := 0, cells := 0, slots := 0, locals := 0 } : Room) s m #[Value.ref h] below meth c H locs 0 0 Q (F0 m 0 ls []) := by
    intro S H locs ls hE hp hP hD hS hl
    unfold f_X11_wantsPlace at hE
    unfold p_X11_wantsPlace at hp
    refine lv_iconst (v := 0) hx hb dX11_wantsPlace_0 (by decide) ?_
    refine lv_istore_n (lv' := [(1, .int 0), (0, .ref h)]) hx hb dX11_wantsPlace_1 rfl hl (by decide) rfl (fun ls hl => ?_)
    exact L_2 100000 S 0 _ _ _ hE hp hP hD hS (lv_sub hl [1, 0] rfl)
  exact B_M S0 _ _ _ hX hp hP hD hS hl
def st_X11_isPending_2 (S : HS) (x1 x2 : Int32) : (Int32 × HS) ⊕ (HS × Int32 × Int32) := if (S.1 6) ≤ x2 then Sum.inl ((0, S)) else if (S.2 31 x2.toNatClampNeg) = x1 then Sum.inl ((1, S)) else Sum.inr (S, x1, (x2 + 1))
def ps_X11_isPending_2 (S : HS) (x1 x2 : Int32) : Prop := (if (S.1 6) ≤ x2 then True else (vp_in x2 9) ∧ (if (S.2 31 x2.toNatClampNeg) = x1 then True else True))
def lp_X11_isPending_2 : Nat → HS → Int32 → Int32 → Int32 × HS
  | 0, S, _, _ => (0, S)
  | n + 1, S, x1, x2 => match st_X11_isPending_2 S x1 x2 with
    | Sum.inl r => r
    | Sum.inr q => lp_X11_isPending_2 n q.1 q.2.1 q.2.2
def lq_X11_isPending_2 : Nat → HS → Int32 → Int32 → Prop
  | 0, _, _, _ => False
  | n + 1, S, x1, x2 => ps_X11_isPending_2 S x1 x2 ∧ (match st_X11_isPending_2 S x1 x2 with
    | Sum.inl _ => True
    | Sum.inr q => lq_X11_isPending_2 n q.1 q.2.1 q.2.2)
def f_X11_isPending (S : HS) (x1 : Int32) : Int32 × HS := (lp_X11_isPending_2 100000 S x1 0)
def p_X11_isPending (S : HS) (x1 : Int32) : Prop := (lq_X11_isPending_2 100000 S x1 0)
def e_X11_isPending : List Cond := [.fieldLink RX11 115 "MotionFloorModel$Hall" "pending" "I", .fieldLink RX11 72 "MotionFloorModel$Hall" "row" "[I"]
def v_X11_isPending : List Cond := .code yX11_isPending cX11_isPending 3 (some .boolean) :: (e_X11_isPending ++ (wsX110 ++ []))
theorem te_X11_isPending : GoodIn lw_tbl e_X11_isPending := wGc z47 (wGc z48 (wG0))
theorem t_X11_isPending : GoodIn lw_tbl v_X11_isPending := wGc z82 (wGa te_X11_isPending (wGa zcX11 (wG0)))
set_option maxHeartbeats 4000000 in
set_option maxRecDepth 100000 in
theorem c_X11_isPending (l : Launch) (G : va_G) (K : Nat → ClassId) (h : Nat) (g : Nat → Nat) (S0 : HS) (a1 : Int32) (sz : Nat) : Met l yX11_isPending v_X11_isPending ({ frames := 0, cells := 0, slots := 0, locals := 0 }) (va_Pc [.ref h, .int a1] (hS G K h g sz S0 (p_X11_isPending S0 a1))) (va_Qi (fun (r : Int32) (u : HS) => (r, u) = f_X11_isPending S0 a1) (hB G K h g (va_A (hW K h g S0) sz)) (va_A (hW K h g S0) sz)) 0 0 (va_A (hW K h g S0) sz) := by
  refine Met.ofW (cc := cX11_isPending) (maxL := 3) (ret := (some .boolean)) (by decide) rfl ?_
  intro p e s m args below meth c s₁ B hml hv
  obtain ⟨rfl, ⟨hsz, hP, hK, hD0, hTE⟩, hp⟩ := hv
  have hx := B.exec
  have hb := B.bytes
  have hr := B.returns
  have hts := atoms_spec (ws := v_X11_isPending) B.pre
  have t_ := t_X11_isPending
  have mw : ∀ w ∈ e_X11_isPending, w ∈ v_X11_isPending := fun w h => List.mem_cons_of_mem _ (List.mem_append_left _ h)
  have hw := fun w (h : w ∈ e_X11_isPending) => hts w (mw w h)
  have iX11 : ∀ w ∈ wsX110, w ∈ v_X11_isPending := fun w h => List.mem_cons_of_mem _ (List.mem_append_right _ (List.mem_append_left _ h))
  have hown : s.vm.findClass RX11 = some m.cls := findClass_of_methodNamed B.named
  have hlocks := B.notSynchronized
  subst hsz
  have hD := hD0.self (sz := s.heap.size)
  generalize hAe : va_A (hW K h g S0) s.heap.size = A at hD ⊢
  have hA : ∀ q : Nat, s.heap.size ≤ q → A q := fun q h => by rw [← hAe]; exact Or.inr h
  have hS : va_S A s.heap s.heap [] := va_S.rf
  have hl := lv_entry ([.ref h, .int a1]) (n := 3) (Nat.le_of_ble_eq_true rfl)
  rw [lg_entry_eq]
  generalize (lg_sl ([.ref h, .int a1]) ++ List.replicate (3 - (lg_sl ([.ref h, .int a1])).length) Slot.unset).toArray = ls at hl ⊢
  have hl : lv_has ls 3 [(0, .ref h), (1, .int a1)] := hl
  refine wGen (fun Q hQ => ?_)
  obtain ⟨X, hX⟩ : ∃ X, f_X11_isPending S0 a1 = X := ⟨_, rfl⟩
  have L_2 : ∀ (n : Nat) (S : HS) (x1 x2 : Int32) (H : Heap) (locs : List Loc) (ls : Array Slot), lp_X11_isPending_2 n S x1 x2 = X → lq_X11_isPending_2 n S x1 x2 → va_P G vwCl (hW K h g S) H → va_D A (hW K h g S) → va_S A s.heap H locs → lv_has ls 3 [(0, .ref h), (1, .int x1), (2, .int x2)] → W p l e ({ frames := 0, cells := 0, slots := 0, locals := 0 } : Room) s m #[Value.ref h, Value.int a1] below meth c H locs 0 0 Q (F0 m 2 ls []) := by
    intro n1
    induction n1 with
    | zero => intro S x1 x2 H locs ls hE hp; exact False.elim hp
    | succ n1 ih1 =>
      intro S x1 x2 H locs ls hO1 hp hP hD hS hl
      rw [lp_X11_isPending_2] at hO1
      rw [lq_X11_isPending_2] at hp
      obtain ⟨hp, hq1⟩ := hp
      generalize hE : st_X11_isPending_2 S x1 x2 = Y1 at hO1 hq1
      unfold st_X11_isPending_2 at hE
      unfold ps_X11_isPending_2 at hp
      refine lv_iload_n hx hb dX11_isPending_2 rfl (lv_at hl 2 rfl) ?_
      refine lv_aload_n hx hb dX11_isPending_3 rfl (lv_at hl 0 rfl) ?_
      refine va_get (D := G) (ci := 8) (v := .int (S.1 6)) (C := RX11) (T := TX11) (N := 42) hx hb hts iX11 hown hK hP 0 rfl rfl 6 (by decide) (hw (.fieldLink RX11 115 "MotionFloorModel$Hall" "pending" "I") (List.mem_of_getElem? (i := 0) rfl)) (fun _ h9 => h9) rfl dX11_isPending_4 ?_
      refine lv_icmp_ge (tgt := 28) hx hb dX11_isPending_7 (by decide) (fun c1 => ?_) (fun c1 => ?_)
      · rw [if_pos c1] at hE hp
        subst hE
        have hE := hO1
        dsimp only at hE
        refine lv_iconst (v := 0) hx hb dX11_isPending_28 (by decide) ?_
        subst hQ
        exact W.zret (v := 0) (ty := .boolean) hx hb hr rfl (fun t ht hW => ⟨⟨0, S, rfl, hE.trans hX.symm, by rw [ht]; exact hP, hD⟩, hS.F ht⟩) hS.2.2 dX11_isPending_29
      · rw [if_neg c1] at hE hp
        refine lv_aload_n hx hb dX11_isPending_10 rfl (lv_at hl 0 rfl) ?_
        refine va_get (D := G) (ci := 8) (v := .ref (g 31)) (C := RX11) (T := TX11) (N := 42) hx hb hts iX11 hown hK hP 0 rfl rfl 31 (by decide) (hw (.fieldLink RX11 72 "MotionFloorModel$Hall" "row" "[I") (List.mem_of_getElem? (i := 1) rfl)) (fun _ h9 => h9) rfl dX11_isPending_11 ?_
        refine lv_iload_n hx hb dX11_isPending_14 rfl (lv_at hl 2 rfl) ?_
        obtain ⟨h2, hp⟩ := hp
        refine va_iald hx hb hK hP 20 0 rfl rfl h2 dX11_isPending_15 ?_
        refine lv_iload_n hx hb dX11_isPending_16 rfl (lv_at hl 1 rfl) ?_
        refine lv_icmp_ne (tgt := 22) hx hb dX11_isPending_17 (by decide) (fun c3 => ?_) (fun c3 => ?_)
        · rw [if_neg c3] at hE hp
          refine lv_iinc (v := (x2 + 1)) (lv' := [(2, .int (x2 + 1)), (0, .ref h), (1, .int x1)]) hx hb dX11_isPending_22 hl (k := 2) rfl rfl (by decide) rfl (fun ls hl => ?_)
          refine lv_goto (tgt := 2) hx hb dX11_isPending_25 (by decide) ?_
          subst hE
          dsimp only at hO1 hq1
          exact ih1 S x1 (x2 + 1) _ _ _ hO1 hq1 hP hD hS (lv_sub hl [1, 2, 0] rfl)
        · rw [if_pos c3] at hE hp
          subst hE
          have hE := hO1
          dsimp only at hE
          refine lv_iconst (v := 1) hx hb dX11_isPending_20 (by decide) ?_
          subst hQ
          exact W.zret (v := 1) (ty := .boolean) hx hb hr rfl (fun t ht hW => ⟨⟨1, S, rfl, hE.trans hX.symm, by rw [ht]; exact hP, hD⟩, hS.F ht⟩) hS.2.2 dX11_isPending_21
  have B_M : ∀ (S : HS) (x1 : Int32) (H : Heap) (locs : List Loc) (ls : Array Slot), f_X11_isPending S x1 = X → p_X11_isPending S x1 → va_P G vwCl (hW K h g S) H → va_D A (hW K h g S) → va_S A s.heap H locs → lv_has ls 3 [(0, .ref h), (1, .int x1)] → W p l e ({ frames := 0, cells := 0, slots := 0, locals := 0 } : Room) s m #[Value.ref h, Value.int a1] below meth c H locs 0 0 Q (F0 m 0 ls []) := by
    intro S x1 H locs ls hE hp hP hD hS hl
    unfold f_X11_isPending at hE
    unfold p_X11_isPending at hp
    refine lv_iconst (v := 0) hx hb dX11_isPending_0 (by decide) ?_
    refine lv_istore_n (lv' := [(2, .int 0), (0, .ref h), (1, .int x1)]) hx hb dX11_isPending_1 rfl hl (by decide) rfl (fun ls hl => ?_)
    exact L_2 100000 S x1 0 _ _ _ hE hp hP hD hS (lv_sub hl [1, 2, 0] rfl)
  exact B_M S0 a1 _ _ _ hX hp hP hD hS hl
