def b_X11_goes_a8 (S : HS) (y0 : Int32) : Int32 × HS := (0, (sI (sA S 13 y0.toNatClampNeg (vp_nar .boolean 0)) 6 (((sA S 13 y0.toNatClampNeg (vp_nar .boolean 0)).1 6) - 1)))
def q_X11_goes_a8 (S : HS) (y0 : Int32) : Prop := (vp_in y0 90) ∧ True
def f_X11_goes (S : HS)  : Int32 × HS := (b_X11_goes_a8 (f_X11_top S ).2 (f_X11_top S ).1)
def p_X11_goes (S : HS)  : Prop := (p_X11_top S ) ∧ (q_X11_goes_a8 (f_X11_top S ).2 (f_X11_top S ).1)
def e_X11_goes : List Cond := [.fieldLink RX11 19 "MotionFloorModel$Hall" "used" "[Z", .methodLink RX11 155 yX11_top, .instanceMethod yX11_top, .selects RX11 yX11_top yX11_top, .initialized RX11, .fieldLink RX11 115 "MotionFloorModel$Hall" "pending" "I"]
def v_X11_goes : List Cond := .code yX11_goes cX11_goes 1 none :: (e_X11_goes ++ (wsX110 ++ (v_X11_top ++ [])))
theorem te_X11_goes : GoodIn lw_tbl e_X11_goes := wGc z83 (wGc z63 (wGc z62 (wGc z61 (wGc z51 (wGc z47 (wG0))))))
theorem t_X11_goes : GoodIn lw_tbl v_X11_goes := wGc z84 (wGa te_X11_goes (wGa zcX11 (wGa t_X11_top (wG0))))
set_option maxHeartbeats 4000000 in
set_option maxRecDepth 100000 in
theorem c_X11_goes (l : Launch) (G : va_G) (K : Nat → ClassId) (h : Nat) (g : Nat → Nat) (S0 : HS)  (sz : Nat) : Met l yX11_goes v_X11_goes ({ frames := 1, cells := 0, slots := 0, locals := 20 }) (va_Pc [.ref h] (hS G K h g sz S0 (p_X11_goes S0))) (va_Qv (fun u : HS => (0, u) = f_X11_goes S0) (hB G K h g (va_A (hW K h g S0) sz)) (va_A (hW K h g S0) sz)) 0 0 (va_A (hW K h g S0) sz) := by
  refine Met.ofW (cc := cX11_goes) (maxL := 1) (ret := none) (by decide) rfl ?_
  intro p e s m args below meth c s₁ B hml hv
  obtain ⟨rfl, ⟨hsz, hP, hK, hD0, hTE⟩, hp⟩ := hv
  have hx := B.exec
  have hb := B.bytes
  have hr := B.returns
  have hts := atoms_spec (ws := v_X11_goes) B.pre
  have t_ := t_X11_goes
  have mw : ∀ w ∈ e_X11_goes, w ∈ v_X11_goes := fun w h => List.mem_cons_of_mem _ (List.mem_append_left _ h)
  have hw := fun w (h : w ∈ e_X11_goes) => hts w (mw w h)
  have iX11 : ∀ w ∈ wsX110, w ∈ v_X11_goes := fun w h => List.mem_cons_of_mem _ (List.mem_append_right _ (List.mem_append_left _ h))
  have j_X11_top : ∀ w ∈ v_X11_top, w ∈ v_X11_goes := fun w h => List.mem_cons_of_mem _ (List.mem_append_right _ (List.mem_append_right _ (List.mem_append_left _ h)))
  have hown : s.vm.findClass RX11 = some m.cls := findClass_of_methodNamed B.named
  have hlocks := B.notSynchronized
  subst hsz
  have hD := hD0.self (sz := s.heap.size)
  generalize hAe : va_A (hW K h g S0) s.heap.size = A at hD ⊢
  have hA : ∀ q : Nat, s.heap.size ≤ q → A q := fun q h => by rw [← hAe]; exact Or.inr h
  have hS : va_S A s.heap s.heap [] := va_S.rf
  have hl := lv_entry ([.ref h]) (n := 1) (Nat.le_of_ble_eq_true rfl)
  rw [lg_entry_eq]
  generalize (lg_sl ([.ref h]) ++ List.replicate (1 - (lg_sl ([.ref h])).length) Slot.unset).toArray = ls at hl ⊢
  have hl : lv_has ls 1 [(0, .ref h)] := hl
  refine wGen (fun Q hQ => ?_)
  obtain ⟨X, hX⟩ : ∃ X, f_X11_goes S0 = X := ⟨_, rfl⟩
  have B_M : ∀ (S : HS) (H : Heap) (locs : List Loc) (ls : Array Slot), f_X11_goes S = X → p_X11_goes S → va_P G vwCl (hW K h g S) H → va_D A (hW K h g S) → va_S A s.heap H locs → lv_has ls 1 [(0, .ref h)] → W p l e ({ frames := 1, cells := 0, slots := 0, locals := 20 } : Room) s m #[Value.ref h] below meth c H locs 0 0 Q (F0 m 0 ls []) := by
    intro S H locs ls hE hp hP hD hS hl
    unfold f_X11_goes at hE
    unfold p_X11_goes at hp
    refine lv_aload_n hx hb dX11_goes_0 rfl (lv_at hl 0 rfl) ?_
    refine va_get (D := G) (ci := 8) (v := .ref (g 13)) (C := RX11) (T := TX11) (N := 42) hx hb hts iX11 hown hK hP 0 rfl rfl 13 (by decide) (hw (.fieldLink RX11 19 "MotionFloorModel$Hall" "used" "[Z") (List.mem_of_getElem? (i := 0) rfl)) (fun _ h9 => h9) rfl dX11_goes_1 ?_
    refine lv_aload_n hx hb dX11_goes_4 rfl (lv_at hl 0 rfl) ?_
    obtain ⟨h1, hp⟩ := hp
    refine hGoi (va_runV (As := []) (rest := [.ref (g 13)]) ⟨hx, hb, hml, hown, hts⟩ (c_X11_top l G K h g S _) (cwV 0 hts (wGV t_ (mw (.methodLink RX11 155 yX11_top) (List.mem_of_getElem? (i := 1) rfl)) (mw (.instanceMethod yX11_top) (List.mem_of_getElem? (i := 2) rfl)) (mw (.selects RX11 yX11_top yX11_top) (List.mem_of_getElem? (i := 3) rfl)) (mw (.initialized RX11) (List.mem_of_getElem? (i := 4) rfl)) j_X11_top) rfl rfl rfl (by decide +kernel) ⟨Nat.le_of_ble_eq_true rfl, Nat.le_of_ble_eq_true rfl⟩) (hPV hK hTE hP hD h1) rfl rfl hl.1 rfl (lv_room (Nat.le_of_ble_eq_true rfl)) dX11_goes_5 ⟨Nat.le_of_ble_eq_true rfl, Nat.le_of_ble_eq_true rfl⟩) hP hD hS hA (fun r3 u2 H locs hv hP hD hS => ?_)
    rw [← hv] at hE hp
    dsimp only at hE hp
    unfold b_X11_goes_a8 at hE
    unfold q_X11_goes_a8 at hp
    refine lv_iconst (v := 0) hx hb dX11_goes_8 (by decide) ?_
    obtain ⟨h4, hp⟩ := hp
    refine va_zast hx hb hK hP hD hS 3 1 rfl rfl h4 dX11_goes_9 (fun H locs hP hD hS => ?_)
    rw [sA_13] at hP hD
    refine lv_aload_n hx hb dX11_goes_10 rfl (lv_at hl 0 rfl) ?_
    refine lv_dup hx hb dX11_goes_11 rfl ?_
    refine va_get (D := G) (ci := 8) (v := .int ((sA u2 13 r3.toNatClampNeg (vp_nar .boolean 0)).1 6)) (C := RX11) (T := TX11) (N := 42) hx hb hts iX11 hown hK hP 0 rfl rfl 6 (by decide) (hw (.fieldLink RX11 115 "MotionFloorModel$Hall" "pending" "I") (List.mem_of_getElem? (i := 5) rfl)) (fun _ h9 => h9) rfl dX11_goes_12 ?_
    refine lv_iconst (v := 1) hx hb dX11_goes_15 (by decide) ?_
    refine lv_isub hx hb dX11_goes_16 ?_
    refine va_put (D := G) (ci := 8) (v := .int (((sA u2 13 r3.toNatClampNeg (vp_nar .boolean 0)).1 6) - 1)) (ty := .int) (C := RX11) (T := TX11) (N := 42) hx hb hts iX11 tyX11 tyX11_ok nmX11 hown hK hP hD hS 0 rfl rfl 6 (by decide) (hw (.fieldLink RX11 115 "MotionFloorModel$Hall" "pending" "I") (List.mem_of_getElem? (i := 5) rfl)) (fun _ h9 => h9) rfl (by decide +kernel) rfl rfl (Nat.le_of_ble_eq_true rfl) dX11_goes_17 (fun H locs hP hD hS => ?_)
    rw [sI_6] at hP hD
    subst hQ
    exact W.vret hx hb hr (fun t ht hW => ⟨⟨(sI (sA u2 13 r3.toNatClampNeg (vp_nar .boolean 0)) 6 (((sA u2 13 r3.toNatClampNeg (vp_nar .boolean 0)).1 6) - 1)), rfl, hE.trans hX.symm, by rw [ht]; exact hP, hD⟩, hS.F ht⟩) hS.2.2 dX11_goes_20
  exact B_M S0 _ _ _ hX hp hP hD hS hl
def b_X11_carries_61 (S : HS) (x1 x2 x3 y0 : Int32) : Int32 × HS := (y0, S)
def q_X11_carries_61 (S : HS) (x1 x2 x3 y0 : Int32) : Prop := (narrow .boolean (.int y0) = .int y0) ∧ True
def b_X11_carries_42 (S : HS) (x1 x2 x3 : Int32) : Int32 × HS := (b_X11_carries_61 S x1 x2 x3 0)
def q_X11_carries_42 (S : HS) (x1 x2 x3 : Int32) : Prop := (q_X11_carries_61 S x1 x2 x3 0)
def f_X11_carries (S : HS) (x1 x2 x3 : Int32) : Int32 × HS := if x1 = 1 then if x2 ≤ x3 then (b_X11_carries_61 S x1 x2 x3 0) else (b_X11_carries_61 S x1 x2 x3 1) else if x1 = 2 then if x2 ≤ 0 then (b_X11_carries_42 S x1 x2 x3) else if (3 * x2) < (2 * (x2 + x3)) then (b_X11_carries_42 S x1 x2 x3) else (b_X11_carries_61 S x1 x2 x3 1) else if (2 * x2) ≤ (S.1 0) then (b_X11_carries_61 S x1 x2 x3 0) else (b_X11_carries_61 S x1 x2 x3 1)
def p_X11_carries (S : HS) (x1 x2 x3 : Int32) : Prop := (if x1 = 1 then (if x2 ≤ x3 then (q_X11_carries_61 S x1 x2 x3 0) else (q_X11_carries_61 S x1 x2 x3 1)) else (if x1 = 2 then (if x2 ≤ 0 then (q_X11_carries_42 S x1 x2 x3) else (if (3 * x2) < (2 * (x2 + x3)) then (q_X11_carries_42 S x1 x2 x3) else (q_X11_carries_61 S x1 x2 x3 1))) else (if (2 * x2) ≤ (S.1 0) then (q_X11_carries_61 S x1 x2 x3 0) else (q_X11_carries_61 S x1 x2 x3 1))))
def e_X11_carries : List Cond := [.fieldLink RX11 96 "MotionFloorModel$Hall" "seats" "I"]
def v_X11_carries : List Cond := .code yX11_carries cX11_carries 4 (some .boolean) :: (e_X11_carries ++ (wsX110 ++ []))
theorem te_X11_carries : GoodIn lw_tbl e_X11_carries := wGc z45 (wG0)
theorem t_X11_carries : GoodIn lw_tbl v_X11_carries := wGc z85 (wGa te_X11_carries (wGa zcX11 (wG0)))
set_option maxHeartbeats 4000000 in
set_option maxRecDepth 100000 in
theorem c_X11_carries (l : Launch) (G : va_G) (K : Nat → ClassId) (h : Nat) (g : Nat → Nat) (S0 : HS) (a1 a2 a3 : Int32) (sz : Nat) : Met l yX11_carries v_X11_carries ({ frames := 0, cells := 0, slots := 0, locals := 0 }) (va_Pc [.ref h, .int a1, .int a2, .int a3] (hS G K h g sz S0 (p_X11_carries S0 a1 a2 a3))) (va_Qi (fun (r : Int32) (u : HS) => (r, u) = f_X11_carries S0 a1 a2 a3) (hB G K h g (va_A (hW K h g S0) sz)) (va_A (hW K h g S0) sz)) 0 0 (va_A (hW K h g S0) sz) := by
  refine Met.ofW (cc := cX11_carries) (maxL := 4) (ret := (some .boolean)) (by decide) rfl ?_
  intro p e s m args below meth c s₁ B hml hv
  obtain ⟨rfl, ⟨hsz, hP, hK, hD0, hTE⟩, hp⟩ := hv
  have hx := B.exec
  have hb := B.bytes
  have hr := B.returns
  have hts := atoms_spec (ws := v_X11_carries) B.pre
  have t_ := t_X11_carries
  have mw : ∀ w ∈ e_X11_carries, w ∈ v_X11_carries := fun w h => List.mem_cons_of_mem _ (List.mem_append_left _ h)
  have hw := fun w (h : w ∈ e_X11_carries) => hts w (mw w h)
  have iX11 : ∀ w ∈ wsX110, w ∈ v_X11_carries := fun w h => List.mem_cons_of_mem _ (List.mem_append_right _ (List.mem_append_left _ h))
  have hown : s.vm.findClass RX11 = some m.cls := findClass_of_methodNamed B.named
  have hlocks := B.notSynchronized
  subst hsz
  have hD := hD0.self (sz := s.heap.size)
  generalize hAe : va_A (hW K h g S0) s.heap.size = A at hD ⊢
  have hA : ∀ q : Nat, s.heap.size ≤ q → A q := fun q h => by rw [← hAe]; exact Or.inr h
  have hS : va_S A s.heap s.heap [] := va_S.rf
  have hl := lv_entry ([.ref h, .int a1, .int a2, .int a3]) (n := 4) (Nat.le_of_ble_eq_true rfl)
  rw [lg_entry_eq]
  generalize (lg_sl ([.ref h, .int a1, .int a2, .int a3]) ++ List.replicate (4 - (lg_sl ([.ref h, .int a1, .int a2, .int a3])).length) Slot.unset).toArray = ls at hl ⊢
  have hl : lv_has ls 4 [(0, .ref h), (1, .int a1), (2, .int a2), (3, .int a3)] := hl
  refine wGen (fun Q hQ => ?_)
  obtain ⟨X, hX⟩ : ∃ X, f_X11_carries S0 a1 a2 a3 = X := ⟨_, rfl⟩
  have B_61 : ∀ (S : HS) (x1 x2 x3 y0 : Int32) (H : Heap) (locs : List Loc) (ls : Array Slot), b_X11_carries_61 S x1 x2 x3 y0 = X → q_X11_carries_61 S x1 x2 x3 y0 → va_P G vwCl (hW K h g S) H → va_D A (hW K h g S) → va_S A s.heap H locs → lv_has ls 4 [(0, .ref h), (1, .int x1), (2, .int x2), (3, .int x3)] → W p l e ({ frames := 0, cells := 0, slots := 0, locals := 0 } : Room) s m #[Value.ref h, Value.int a1, Value.int a2, Value.int a3] below meth c H locs 0 0 Q (F0 m 61 ls [.int y0]) := by
    intro S x1 x2 x3 y0 H locs ls hE hp hP hD hS hl
    unfold b_X11_carries_61 at hE
    unfold q_X11_carries_61 at hp
    obtain ⟨h4, hp⟩ := hp
    subst hQ
    exact W.zret (v := y0) (ty := .boolean) hx hb hr h4 (fun t ht hW => ⟨⟨y0, S, rfl, hE.trans hX.symm, by rw [ht]; exact hP, hD⟩, hS.F ht⟩) hS.2.2 dX11_carries_61
  have B_42 : ∀ (S : HS) (x1 x2 x3 : Int32) (H : Heap) (locs : List Loc) (ls : Array Slot), b_X11_carries_42 S x1 x2 x3 = X → q_X11_carries_42 S x1 x2 x3 → va_P G vwCl (hW K h g S) H → va_D A (hW K h g S) → va_S A s.heap H locs → lv_has ls 4 [(0, .ref h), (1, .int x1), (2, .int x2), (3, .int x3)] → W p l e ({ frames := 0, cells := 0, slots := 0, locals := 0 } : Room) s m #[Value.ref h, Value.int a1, Value.int a2, Value.int a3] below meth c H locs 0 0 Q (F0 m 42 ls []) := by
    intro S x1 x2 x3 H locs ls hE hp hP hD hS hl
    unfold b_X11_carries_42 at hE
    unfold q_X11_carries_42 at hp
    refine lv_iconst (v := 0) hx hb dX11_carries_42 (by decide) ?_
    refine lv_goto (tgt := 61) hx hb dX11_carries_43 (by decide) ?_
    exact B_61 S x1 x2 x3 0 _ _ _ hE hp hP hD hS (lv_sub hl [0, 1, 2, 3] rfl)
  have B_M : ∀ (S : HS) (x1 x2 x3 : Int32) (H : Heap) (locs : List Loc) (ls : Array Slot), f_X11_carries S x1 x2 x3 = X → p_X11_carries S x1 x2 x3 → va_P G vwCl (hW K h g S) H → va_D A (hW K h g S) → va_S A s.heap H locs → lv_has ls 4 [(0, .ref h), (1, .int x1), (2, .int x2), (3, .int x3)] → W p l e ({ frames := 0, cells := 0, slots := 0, locals := 0 } : Room) s m #[Value.ref h, Value.int a1, Value.int a2, Value.int a3] below meth c H locs 0 0 Q (F0 m 0 ls []) := by
    intro S x1 x2 x3 H locs ls hE hp hP hD hS hl
    unfold f_X11_carries at hE
    unfold p_X11_carries at hp
    refine lv_iload_n hx hb dX11_carries_0 rfl (lv_at hl 1 rfl) ?_
    refine lv_iconst (v := 1) hx hb dX11_carries_1 (by decide) ?_
    refine lv_icmp_ne (tgt := 18) hx hb dX11_carries_2 (by decide) (fun c1 => ?_) (fun c1 => ?_)
    · rw [if_neg c1] at hE hp
      refine lv_iload_n hx hb dX11_carries_18 rfl (lv_at hl 1 rfl) ?_
      refine lv_iconst (v := 2) hx hb dX11_carries_19 (by decide) ?_
      refine lv_icmp_ne (tgt := 46) hx hb dX11_carries_20 (by decide) (fun c2 => ?_) (fun c2 => ?_)
      · rw [if_neg c2] at hE hp
        refine lv_iconst (v := 2) hx hb dX11_carries_46 (by decide) ?_
        refine lv_iload_n hx hb dX11_carries_47 rfl (lv_at hl 2 rfl) ?_
        refine lv_imul hx hb dX11_carries_48 ?_
        refine lv_aload_n hx hb dX11_carries_49 rfl (lv_at hl 0 rfl) ?_
        refine va_get (D := G) (ci := 8) (v := .int (S.1 0)) (C := RX11) (T := TX11) (N := 42) hx hb hts iX11 hown hK hP 0 rfl rfl 0 (by decide) (hw (.fieldLink RX11 96 "MotionFloorModel$Hall" "seats" "I") (List.mem_of_getElem? (i := 0) rfl)) (fun _ h9 => h9) rfl dX11_carries_50 ?_
        refine lv_icmp_le (tgt := 60) hx hb dX11_carries_53 (by decide) (fun c3 => ?_) (fun c3 => ?_)
        · rw [if_pos c3] at hE hp
          refine lv_iconst (v := 0) hx hb dX11_carries_60 (by decide) ?_
          exact B_61 S x1 x2 x3 0 _ _ _ hE hp hP hD hS (lv_sub hl [0, 1, 2, 3] rfl)
        · rw [if_neg c3] at hE hp
          refine lv_iconst (v := 1) hx hb dX11_carries_56 (by decide) ?_
          refine lv_goto (tgt := 61) hx hb dX11_carries_57 (by decide) ?_
          exact B_61 S x1 x2 x3 1 _ _ _ hE hp hP hD hS (lv_sub hl [0, 1, 2, 3] rfl)
      · rw [if_pos c2] at hE hp
        refine lv_iload_n hx hb dX11_carries_23 rfl (lv_at hl 2 rfl) ?_
        refine lv_if_le (tgt := 42) hx hb dX11_carries_24 (by decide) (fun c5 => ?_) (fun c5 => ?_)
        · rw [if_pos c5] at hE hp
          exact B_42 S x1 x2 x3 _ _ _ hE hp hP hD hS (lv_sub hl [0, 1, 2, 3] rfl)
        · rw [if_neg c5] at hE hp
          refine lv_iconst (v := 3) hx hb dX11_carries_27 (by decide) ?_
          refine lv_iload_n hx hb dX11_carries_28 rfl (lv_at hl 2 rfl) ?_
          refine lv_imul hx hb dX11_carries_29 ?_
          refine lv_iconst (v := 2) hx hb dX11_carries_30 (by decide) ?_
          refine lv_iload_n hx hb dX11_carries_31 rfl (lv_at hl 2 rfl) ?_
          refine lv_iload_n hx hb dX11_carries_32 rfl (lv_at hl 3 rfl) ?_
          refine lv_iadd hx hb dX11_carries_33 ?_
          refine lv_imul hx hb dX11_carries_34 ?_
          refine lv_icmp_lt (tgt := 42) hx hb dX11_carries_35 (by decide) (fun c6 => ?_) (fun c6 => ?_)
          · rw [if_pos c6] at hE hp
            exact B_42 S x1 x2 x3 _ _ _ hE hp hP hD hS (lv_sub hl [0, 1, 2, 3] rfl)
          · rw [if_neg c6] at hE hp
            refine lv_iconst (v := 1) hx hb dX11_carries_38 (by decide) ?_
            refine lv_goto (tgt := 61) hx hb dX11_carries_39 (by decide) ?_
            exact B_61 S x1 x2 x3 1 _ _ _ hE hp hP hD hS (lv_sub hl [0, 1, 2, 3] rfl)
    · rw [if_pos c1] at hE hp
      refine lv_iload_n hx hb dX11_carries_5 rfl (lv_at hl 2 rfl) ?_
      refine lv_iload_n hx hb dX11_carries_6 rfl (lv_at hl 3 rfl) ?_
      refine lv_icmp_le (tgt := 14) hx hb dX11_carries_7 (by decide) (fun c7 => ?_) (fun c7 => ?_)
      · rw [if_pos c7] at hE hp
        refine lv_iconst (v := 0) hx hb dX11_carries_14 (by decide) ?_
        refine lv_goto (tgt := 61) hx hb dX11_carries_15 (by decide) ?_
        exact B_61 S x1 x2 x3 0 _ _ _ hE hp hP hD hS (lv_sub hl [0, 1, 2, 3] rfl)
      · rw [if_neg c7] at hE hp
        refine lv_iconst (v := 1) hx hb dX11_carries_10 (by decide) ?_
        refine lv_goto (tgt := 61) hx hb dX11_carries_11 (by decide) ?_
        exact B_61 S x1 x2 x3 1 _ _ _ hE hp hP hD hS (lv_sub hl [0, 1, 2, 3] rfl)
  exact B_M S0 a1 a2 a3 _ _ _ hX hp hP hD hS hl
def b_X11_text_125 (S : HS) (x1 x2 x3 y0 : Int32) : Int32 × HS := (y0, S)
def q_X11_text_125 (S : HS) (x1 x2 x3 y0 : Int32) : Prop := True
def b_X11_text_124 (S : HS) (x1 x2 x3 : Int32) : Int32 × HS := (b_X11_text_125 S x1 x2 x3 (-1))
def q_X11_text_124 (S : HS) (x1 x2 x3 : Int32) : Prop := (q_X11_text_125 S x1 x2 x3 (-1))
def b_X11_text_87 (S : HS) (x1 x2 y0 : Int32) : Int32 × HS := if y0 = (-1) then (b_X11_text_124 S x1 x2 y0) else if (f_X12_in x2 0 ((S.2 19 y0.toNatClampNeg) - 1)) = 0 then (b_X11_text_124 S x1 x2 y0) else (b_X11_text_125 S x1 x2 y0 (S.2 28 ((400 * y0) + x2).toNatClampNeg))
def q_X11_text_87 (S : HS) (x1 x2 y0 : Int32) : Prop := (if y0 = (-1) then (q_X11_text_124 S x1 x2 y0) else (vp_in y0 90) ∧ (p_X12_in x2 0 ((S.2 19 y0.toNatClampNeg) - 1)) ∧ (if (f_X12_in x2 0 ((S.2 19 y0.toNatClampNeg) - 1)) = 0 then (q_X11_text_124 S x1 x2 y0) else (vp_in ((400 * y0) + x2) 36000) ∧ (q_X11_text_125 S x1 x2 y0 (S.2 28 ((400 * y0) + x2).toNatClampNeg))))
def b_X11_text_59 (S : HS) (x1 x2 : Int32) : Int32 × HS := (b_X11_text_87 S x1 x2 (-1))
def q_X11_text_59 (S : HS) (x1 x2 : Int32) : Prop := (q_X11_text_87 S x1 x2 (-1))
def b_X11_text_29 (S : HS) (x1 x2 y0 : Int32) : Int32 × HS := (y0, S)
def q_X11_text_29 (S : HS) (x1 x2 y0 : Int32) : Prop := True
def f_X11_text (S : HS) (x1 x2 : Int32) : Int32 × HS := if x1 = (-1) then if (f_X12_in x2 0 ((S.1 39) - 1)) = 0 then (b_X11_text_29 S x1 x2 (-1)) else (b_X11_text_29 S x1 x2 (S.2 38 x2.toNatClampNeg)) else if x1 = 9 then if (S.1 35) ≤ 0 then (b_X11_text_59 S x1 x2) else if (S.1 36) = 0 then (b_X11_text_87 S x1 x2 (S.2 32 (0 : Int32).toNatClampNeg)) else (b_X11_text_59 S x1 x2) else if (f_X12_in x1 0 ((S.1 6) - 1)) = 0 then (b_X11_text_87 S x1 x2 (-1)) else (b_X11_text_87 S x1 x2 (S.2 31 x1.toNatClampNeg))
def p_X11_text (S : HS) (x1 x2 : Int32) : Prop := (if x1 = (-1) then (p_X12_in x2 0 ((S.1 39) - 1)) ∧ (if (f_X12_in x2 0 ((S.1 39) - 1)) = 0 then (q_X11_text_29 S x1 x2 (-1)) else (vp_in x2 400) ∧ (q_X11_text_29 S x1 x2 (S.2 38 x2.toNatClampNeg))) else (if x1 = 9 then (if (S.1 35) ≤ 0 then (q_X11_text_59 S x1 x2) else (if (S.1 36) = 0 then (vp_in 0 9) ∧ (q_X11_text_87 S x1 x2 (S.2 32 (0 : Int32).toNatClampNeg)) else (q_X11_text_59 S x1 x2))) else (p_X12_in x1 0 ((S.1 6) - 1)) ∧ (if (f_X12_in x1 0 ((S.1 6) - 1)) = 0 then (q_X11_text_87 S x1 x2 (-1)) else (vp_in x1 9) ∧ (q_X11_text_87 S x1 x2 (S.2 31 x1.toNatClampNeg)))))
def e_X11_text : List Cond := [.fieldLink RX11 115 "MotionFloorModel$Hall" "pending" "I", .initialized RX12, .static yX12_in, .fieldLink RX11 37 "MotionFloorModel$Hall" "words" "[I", .fieldLink RX11 65 "MotionFloorModel$Hall" "text" "[I", .fieldLink RX11 72 "MotionFloorModel$Hall" "row" "[I", .fieldLink RX11 130 "MotionFloorModel$Hall" "drafted" "I", .fieldLink RX11 151 "MotionFloorModel$Hall" "draftTabled" "Z", .fieldLink RX11 75 "MotionFloorModel$Hall" "draft" "[I", .fieldLink RX11 133 "MotionFloorModel$Hall" "lastWords" "I", .fieldLink RX11 87 "MotionFloorModel$Hall" "last" "[I"]
def v_X11_text : List Cond := .code yX11_text cX11_text 4 (some .int) :: (e_X11_text ++ (wsX110 ++ (v_X12_in ++ [])))
theorem te_X11_text : GoodIn lw_tbl e_X11_text := wGc z47 (wGc z44 (wGc z43 (wGc z68 (wGc z88 (wGc z48 (wGc z59 (wGc z58 (wGc z56 (wGc z87 (wGc z86 (wG0)))))))))))
theorem t_X11_text : GoodIn lw_tbl v_X11_text := wGc z89 (wGa te_X11_text (wGa zcX11 (wGa t_X12_in (wG0))))
set_option maxHeartbeats 4000000 in
set_option maxRecDepth 100000 in
theorem c_X11_text (l : Launch) (G : va_G) (K : Nat → ClassId) (h : Nat) (g : Nat → Nat) (S0 : HS) (a1 a2 : Int32) (sz : Nat) : Met l yX11_text v_X11_text ({ frames := 1, cells := 0, slots := 0, locals := 22 }) (va_Pc [.ref h, .int a1, .int a2] (hS G K h g sz S0 (p_X11_text S0 a1 a2))) (va_Qi (fun (r : Int32) (u : HS) => (r, u) = f_X11_text S0 a1 a2) (hB G K h g (va_A (hW K h g S0) sz)) (va_A (hW K h g S0) sz)) 0 0 (va_A (hW K h g S0) sz) := by
  refine Met.ofW (cc := cX11_text) (maxL := 4) (ret := (some .int)) (by decide) rfl ?_
  intro p e s m args below meth c s₁ B hml hv
  obtain ⟨rfl, ⟨hsz, hP, hK, hD0, hTE⟩, hp⟩ := hv
  have hx := B.exec
  have hb := B.bytes
  have hr := B.returns
  have hts := atoms_spec (ws := v_X11_text) B.pre
  have t_ := t_X11_text
  have mw : ∀ w ∈ e_X11_text, w ∈ v_X11_text := fun w h => List.mem_cons_of_mem _ (List.mem_append_left _ h)
  have hw := fun w (h : w ∈ e_X11_text) => hts w (mw w h)
  have iX11 : ∀ w ∈ wsX110, w ∈ v_X11_text := fun w h => List.mem_cons_of_mem _ (List.mem_append_right _ (List.mem_append_left _ h))
  have j_X12_in : ∀ w ∈ v_X12_in, w ∈ v_X11_text := fun w h => List.mem_cons_of_mem _ (List.mem_append_right _ (List.mem_append_right _ (List.mem_append_left _ h)))
  have hown : s.vm.findClass RX11 = some m.cls := findClass_of_methodNamed B.named
  have hlocks := B.notSynchronized
  subst hsz
  have hD := hD0.self (sz := s.heap.size)
  generalize hAe : va_A (hW K h g S0) s.heap.size = A at hD ⊢
  have hA : ∀ q : Nat, s.heap.size ≤ q → A q := fun q h => by rw [← hAe]; exact Or.inr h
  have hS : va_S A s.heap s.heap [] := va_S.rf
  have hl := lv_entry ([.ref h, .int a1, .int a2]) (n := 4) (Nat.le_of_ble_eq_true rfl)
  rw [lg_entry_eq]
  generalize (lg_sl ([.ref h, .int a1, .int a2]) ++ List.replicate (4 - (lg_sl ([.ref h, .int a1, .int a2])).length) Slot.unset).toArray = ls at hl ⊢
  have hl : lv_has ls 4 [(0, .ref h), (1, .int a1), (2, .int a2)] := hl
  refine wGen (fun Q hQ => ?_)
  obtain ⟨X, hX⟩ : ∃ X, f_X11_text S0 a1 a2 = X := ⟨_, rfl⟩
  have B_125 : ∀ (S : HS) (x1 x2 x3 y0 : Int32) (H : Heap) (locs : List Loc) (ls : Array Slot), b_X11_text_125 S x1 x2 x3 y0 = X → q_X11_text_125 S x1 x2 x3 y0 → va_P G vwCl (hW K h g S) H → va_D A (hW K h g S) → va_S A s.heap H locs → lv_has ls 4 [(0, .ref h), (1, .int x1), (2, .int x2), (3, .int x3)] → W p l e ({ frames := 1, cells := 0, slots := 0, locals := 22 } : Room) s m #[Value.ref h, Value.int a1, Value.int a2] below meth c H locs 0 0 Q (F0 m 125 ls [.int y0]) := by
    intro S x1 x2 x3 y0 H locs ls hE hp hP hD hS hl
    unfold b_X11_text_125 at hE
    unfold q_X11_text_125 at hp
    subst hQ
    exact W.iret (v := y0) hx hb hr (fun t ht hW => ⟨⟨y0, S, rfl, hE.trans hX.symm, by rw [ht]; exact hP, hD⟩, hS.F ht⟩) hS.2.2 dX11_text_125
  have B_124 : ∀ (S : HS) (x1 x2 x3 : Int32) (H : Heap) (locs : List Loc) (ls : Array Slot), b_X11_text_124 S x1 x2 x3 = X → q_X11_text_124 S x1 x2 x3 → va_P G vwCl (hW K h g S) H → va_D A (hW K h g S) → va_S A s.heap H locs → lv_has ls 4 [(0, .ref h), (1, .int x1), (2, .int x2), (3, .int x3)] → W p l e ({ frames := 1, cells := 0, slots := 0, locals := 22 } : Room) s m #[Value.ref h, Value.int a1, Value.int a2] below meth c H locs 0 0 Q (F0 m 124 ls []) := by
    intro S x1 x2 x3 H locs ls hE hp hP hD hS hl
    unfold b_X11_text_124 at hE
    unfold q_X11_text_124 at hp
    refine lv_iconst (v := (-1)) hx hb dX11_text_124 (by decide) ?_
    exact B_125 S x1 x2 x3 (-1) _ _ _ hE hp hP hD hS (lv_sub hl [0, 1, 2, 3] rfl)
  have B_87 : ∀ (S : HS) (x1 x2 y0 : Int32) (H : Heap) (locs : List Loc) (ls : Array Slot), b_X11_text_87 S x1 x2 y0 = X → q_X11_text_87 S x1 x2 y0 → va_P G vwCl (hW K h g S) H → va_D A (hW K h g S) → va_S A s.heap H locs → lv_has ls 4 [(0, .ref h), (1, .int x1), (2, .int x2)] → W p l e ({ frames := 1, cells := 0, slots := 0, locals := 22 } : Room) s m #[Value.ref h, Value.int a1, Value.int a2] below meth c H locs 0 0 Q (F0 m 87 ls [.int y0]) := by
    intro S x1 x2 y0 H locs ls hE hp hP hD hS hl
    unfold b_X11_text_87 at hE
    unfold q_X11_text_87 at hp
    refine lv_istore_n (lv' := [(3, .int y0), (0, .ref h), (1, .int x1), (2, .int x2)]) hx hb dX11_text_87 rfl hl (by decide) rfl (fun ls hl => ?_)
    refine lv_iload_n hx hb dX11_text_88 rfl (lv_at hl 0 rfl) ?_
    refine lv_iconst (v := (-1)) hx hb dX11_text_89 (by decide) ?_
    refine lv_icmp_eq (tgt := 124) hx hb dX11_text_90 (by decide) (fun c5 => ?_) (fun c5 => ?_)
    · rw [if_pos c5] at hE hp
      exact B_124 S x1 x2 y0 _ _ _ hE hp hP hD hS (lv_sub hl [1, 2, 3, 0] rfl)
    · rw [if_neg c5] at hE hp
      refine lv_iload_n hx hb dX11_text_93 rfl (lv_at hl 3 rfl) ?_
      refine lv_iconst (v := 0) hx hb dX11_text_94 (by decide) ?_
      refine lv_aload_n hx hb dX11_text_95 rfl (lv_at hl 1 rfl) ?_
      refine va_get (D := G) (ci := 8) (v := .ref (g 19)) (C := RX11) (T := TX11) (N := 42) hx hb hts iX11 hown hK hP 0 rfl rfl 19 (by decide) (hw (.fieldLink RX11 37 "MotionFloorModel$Hall" "words" "[I") (List.mem_of_getElem? (i := 3) rfl)) (fun _ h9 => h9) rfl dX11_text_96 ?_
      refine lv_iload_n hx hb dX11_text_99 rfl (lv_at hl 0 rfl) ?_
      obtain ⟨h6, hp⟩ := hp
      refine va_iald hx hb hK hP 9 0 rfl rfl h6 dX11_text_100 ?_
      refine lv_iconst (v := 1) hx hb dX11_text_101 (by decide) ?_
      refine lv_isub hx hb dX11_text_102 ?_
      obtain ⟨h7, hp⟩ := hp
      refine nGoi (va_runSN (As := [.int x2, .int 0, .int ((S.2 19 y0.toNatClampNeg) - 1)]) (rest := []) ⟨hx, hb, hml, hown, hts⟩ (c_X12_in l G K x2 0 ((S.2 19 y0.toNatClampNeg) - 1) _) ⟨va_cnB (host := "MotionFloorModel") 3 hts (wGP t_ j_X12_in) rfl rfl rfl hTE.2.2.2.2.2.2.2.2.2.1 (hw (.initialized RX12) (List.mem_of_getElem? (i := 1) rfl)) (by decide +kernel) ⟨Nat.le_of_ble_eq_true rfl, Nat.le_of_ble_eq_true rfl⟩, (hw (.static yX12_in) (List.mem_of_getElem? (i := 2) rfl)), trivial⟩ (nPS hK hTE h7) rfl rfl hl.1 rfl (lv_room (Nat.le_of_ble_eq_true rfl)) dX11_text_103 ⟨Nat.le_of_ble_eq_true rfl, Nat.le_of_ble_eq_true rfl⟩) hP hS hA (fun r H locs hv hP hS => ?_)
      subst hv
      refine lv_if_eq (tgt := 124) hx hb dX11_text_106 (by decide) (fun c8 => ?_) (fun c8 => ?_)
      · rw [if_pos c8] at hE hp
        exact B_124 S x1 x2 y0 _ _ _ hE hp hP hD hS (lv_sub hl [1, 2, 3, 0] rfl)
      · rw [if_neg c8] at hE hp
        refine lv_aload_n hx hb dX11_text_109 rfl (lv_at hl 1 rfl) ?_
        refine va_get (D := G) (ci := 8) (v := .ref (g 28)) (C := RX11) (T := TX11) (N := 42) hx hb hts iX11 hown hK hP 0 rfl rfl 28 (by decide) (hw (.fieldLink RX11 65 "MotionFloorModel$Hall" "text" "[I") (List.mem_of_getElem? (i := 4) rfl)) (fun _ h9 => h9) rfl dX11_text_110 ?_
        refine lv_sipush (v := 400) hx hb dX11_text_113 (by decide) ?_
        refine lv_iload_n hx hb dX11_text_116 rfl (lv_at hl 0 rfl) ?_
        refine lv_imul hx hb dX11_text_117 ?_
        refine lv_iload_n hx hb dX11_text_118 rfl (lv_at hl 3 rfl) ?_
        refine lv_iadd hx hb dX11_text_119 ?_
        obtain ⟨h9, hp⟩ := hp
        refine va_iald hx hb hK hP 18 0 rfl rfl h9 dX11_text_120 ?_
        refine lv_goto (tgt := 125) hx hb dX11_text_121 (by decide) ?_
        exact B_125 S x1 x2 y0 (S.2 28 ((400 * y0) + x2).toNatClampNeg) _ _ _ hE hp hP hD hS (lv_sub hl [1, 2, 3, 0] rfl)
  have B_59 : ∀ (S : HS) (x1 x2 : Int32) (H : Heap) (locs : List Loc) (ls : Array Slot), b_X11_text_59 S x1 x2 = X → q_X11_text_59 S x1 x2 → va_P G vwCl (hW K h g S) H → va_D A (hW K h g S) → va_S A s.heap H locs → lv_has ls 4 [(0, .ref h), (1, .int x1), (2, .int x2)] → W p l e ({ frames := 1, cells := 0, slots := 0, locals := 22 } : Room) s m #[Value.ref h, Value.int a1, Value.int a2] below meth c H locs 0 0 Q (F0 m 59 ls []) := by
    intro S x1 x2 H locs ls hE hp hP hD hS hl
    unfold b_X11_text_59 at hE
    unfold q_X11_text_59 at hp
    refine lv_iconst (v := (-1)) hx hb dX11_text_59 (by decide) ?_
    refine lv_goto (tgt := 87) hx hb dX11_text_60 (by decide) ?_
    exact B_87 S x1 x2 (-1) _ _ _ hE hp hP hD hS (lv_sub hl [0, 1, 2] rfl)
  have B_29 : ∀ (S : HS) (x1 x2 y0 : Int32) (H : Heap) (locs : List Loc) (ls : Array Slot), b_X11_text_29 S x1 x2 y0 = X → q_X11_text_29 S x1 x2 y0 → va_P G vwCl (hW K h g S) H → va_D A (hW K h g S) → va_S A s.heap H locs → lv_has ls 4 [(0, .ref h), (1, .int x1), (2, .int x2)] → W p l e ({ frames := 1, cells := 0, slots := 0, locals := 22 } : Room) s m #[Value.ref h, Value.int a1, Value.int a2] below meth c H locs 0 0 Q (F0 m 29 ls [.int y0]) := by
    intro S x1 x2 y0 H locs ls hE hp hP hD hS hl
    unfold b_X11_text_29 at hE
    unfold q_X11_text_29 at hp
    subst hQ
    exact W.iret (v := y0) hx hb hr (fun t ht hW => ⟨⟨y0, S, rfl, hE.trans hX.symm, by rw [ht]; exact hP, hD⟩, hS.F ht⟩) hS.2.2 dX11_text_29
  have B_M : ∀ (S : HS) (x1 x2 : Int32) (H : Heap) (locs : List Loc) (ls : Array Slot), f_X11_text S x1 x2 = X → p_X11_text S x1 x2 → va_P G vwCl (hW K h g S) H → va_D A (hW K h g S) → va_S A s.heap H locs → lv_has ls 4 [(0, .ref h), (1, .int x1), (2, .int x2)] → W p l e ({ frames := 1, cells := 0, slots := 0, locals := 22 } : Room) s m #[Value.ref h, Value.int a1, Value.int a2] below meth c H locs 0 0 Q (F0 m 0 ls []) := by
    intro S x1 x2 H locs ls hE hp hP hD hS hl
    unfold f_X11_text at hE
    unfold p_X11_text at hp
    refine lv_iload_n hx hb dX11_text_0 rfl (lv_at hl 1 rfl) ?_
    refine lv_iconst (v := (-1)) hx hb dX11_text_1 (by decide) ?_
    refine lv_icmp_ne (tgt := 30) hx hb dX11_text_2 (by decide) (fun c1 => ?_) (fun c1 => ?_)
    · rw [if_neg c1] at hE hp
      refine lv_iload_n hx hb dX11_text_30 rfl (lv_at hl 1 rfl) ?_
      refine lv_bipush (v := 9) hx hb dX11_text_31 (by decide) ?_
      refine lv_icmp_ne (tgt := 63) hx hb dX11_text_33 (by decide) (fun c2 => ?_) (fun c2 => ?_)
      · rw [if_neg c2] at hE hp
        refine lv_iload_n hx hb dX11_text_63 rfl (lv_at hl 1 rfl) ?_
        refine lv_iconst (v := 0) hx hb dX11_text_64 (by decide) ?_
        refine lv_aload_n hx hb dX11_text_65 rfl (lv_at hl 0 rfl) ?_
        refine va_get (D := G) (ci := 8) (v := .int (S.1 6)) (C := RX11) (T := TX11) (N := 42) hx hb hts iX11 hown hK hP 0 rfl rfl 6 (by decide) (hw (.fieldLink RX11 115 "MotionFloorModel$Hall" "pending" "I") (List.mem_of_getElem? (i := 0) rfl)) (fun _ h9 => h9) rfl dX11_text_66 ?_
        refine lv_iconst (v := 1) hx hb dX11_text_69 (by decide) ?_
        refine lv_isub hx hb dX11_text_70 ?_
        obtain ⟨h3, hp⟩ := hp
        refine nGoi (va_runSN (As := [.int x1, .int 0, .int ((S.1 6) - 1)]) (rest := []) ⟨hx, hb, hml, hown, hts⟩ (c_X12_in l G K x1 0 ((S.1 6) - 1) _) ⟨va_cnB (host := "MotionFloorModel") 3 hts (wGP t_ j_X12_in) rfl rfl rfl hTE.2.2.2.2.2.2.2.2.2.1 (hw (.initialized RX12) (List.mem_of_getElem? (i := 1) rfl)) (by decide +kernel) ⟨Nat.le_of_ble_eq_true rfl, Nat.le_of_ble_eq_true rfl⟩, (hw (.static yX12_in) (List.mem_of_getElem? (i := 2) rfl)), trivial⟩ (nPS hK hTE h3) rfl rfl hl.1 rfl (lv_room (Nat.le_of_ble_eq_true rfl)) dX11_text_71 ⟨Nat.le_of_ble_eq_true rfl, Nat.le_of_ble_eq_true rfl⟩) hP hS hA (fun r H locs hv hP hS => ?_)
        subst hv
        refine lv_if_eq (tgt := 86) hx hb dX11_text_74 (by decide) (fun c4 => ?_) (fun c4 => ?_)
        · rw [if_pos c4] at hE hp
          refine lv_iconst (v := (-1)) hx hb dX11_text_86 (by decide) ?_
          exact B_87 S x1 x2 (-1) _ _ _ hE hp hP hD hS (lv_sub hl [0, 1, 2] rfl)
        · rw [if_neg c4] at hE hp
          refine lv_aload_n hx hb dX11_text_77 rfl (lv_at hl 0 rfl) ?_
          refine va_get (D := G) (ci := 8) (v := .ref (g 31)) (C := RX11) (T := TX11) (N := 42) hx hb hts iX11 hown hK hP 0 rfl rfl 31 (by decide) (hw (.fieldLink RX11 72 "MotionFloorModel$Hall" "row" "[I") (List.mem_of_getElem? (i := 5) rfl)) (fun _ h9 => h9) rfl dX11_text_78 ?_
          refine lv_iload_n hx hb dX11_text_81 rfl (lv_at hl 1 rfl) ?_
          obtain ⟨h10, hp⟩ := hp
          refine va_iald hx hb hK hP 20 0 rfl rfl h10 dX11_text_82 ?_
          refine lv_goto (tgt := 87) hx hb dX11_text_83 (by decide) ?_
          exact B_87 S x1 x2 (S.2 31 x1.toNatClampNeg) _ _ _ hE hp hP hD hS (lv_sub hl [0, 1, 2] rfl)
      · rw [if_pos c2] at hE hp
        refine lv_aload_n hx hb dX11_text_36 rfl (lv_at hl 0 rfl) ?_
        refine va_get (D := G) (ci := 8) (v := .int (S.1 35)) (C := RX11) (T := TX11) (N := 42) hx hb hts iX11 hown hK hP 0 rfl rfl 35 (by decide) (hw (.fieldLink RX11 130 "MotionFloorModel$Hall" "drafted" "I") (List.mem_of_getElem? (i := 6) rfl)) (fun _ h9 => h9) rfl dX11_text_37 ?_
        refine lv_if_le (tgt := 59) hx hb dX11_text_40 (by decide) (fun c11 => ?_) (fun c11 => ?_)
        · rw [if_pos c11] at hE hp
          exact B_59 S x1 x2 _ _ _ hE hp hP hD hS (lv_sub hl [0, 1, 2] rfl)
        · rw [if_neg c11] at hE hp
          refine lv_aload_n hx hb dX11_text_43 rfl (lv_at hl 0 rfl) ?_
          refine va_get (D := G) (ci := 8) (v := .int (S.1 36)) (C := RX11) (T := TX11) (N := 42) hx hb hts iX11 hown hK hP 0 rfl rfl 36 (by decide) (hw (.fieldLink RX11 151 "MotionFloorModel$Hall" "draftTabled" "Z") (List.mem_of_getElem? (i := 7) rfl)) (fun _ h9 => h9) rfl dX11_text_44 ?_
          refine lv_if_ne (tgt := 59) hx hb dX11_text_47 (by decide) (fun c12 => ?_) (fun c12 => ?_)
          · rw [if_neg c12] at hE hp
            exact B_59 S x1 x2 _ _ _ hE hp hP hD hS (lv_sub hl [0, 1, 2] rfl)
          · rw [if_pos c12] at hE hp
            refine lv_aload_n hx hb dX11_text_50 rfl (lv_at hl 0 rfl) ?_
            refine va_get (D := G) (ci := 8) (v := .ref (g 32)) (C := RX11) (T := TX11) (N := 42) hx hb hts iX11 hown hK hP 0 rfl rfl 32 (by decide) (hw (.fieldLink RX11 75 "MotionFloorModel$Hall" "draft" "[I") (List.mem_of_getElem? (i := 8) rfl)) (fun _ h9 => h9) rfl dX11_text_51 ?_
            refine lv_iconst (v := 0) hx hb dX11_text_54 (by decide) ?_
            obtain ⟨h13, hp⟩ := hp
            refine va_iald hx hb hK hP 21 0 rfl rfl h13 dX11_text_55 ?_
            refine lv_goto (tgt := 87) hx hb dX11_text_56 (by decide) ?_
            exact B_87 S x1 x2 (S.2 32 (0 : Int32).toNatClampNeg) _ _ _ hE hp hP hD hS (lv_sub hl [0, 1, 2] rfl)
    · rw [if_pos c1] at hE hp
      refine lv_iload_n hx hb dX11_text_5 rfl (lv_at hl 2 rfl) ?_
      refine lv_iconst (v := 0) hx hb dX11_text_6 (by decide) ?_
      refine lv_aload_n hx hb dX11_text_7 rfl (lv_at hl 0 rfl) ?_
      refine va_get (D := G) (ci := 8) (v := .int (S.1 39)) (C := RX11) (T := TX11) (N := 42) hx hb hts iX11 hown hK hP 0 rfl rfl 39 (by decide) (hw (.fieldLink RX11 133 "MotionFloorModel$Hall" "lastWords" "I") (List.mem_of_getElem? (i := 9) rfl)) (fun _ h9 => h9) rfl dX11_text_8 ?_
      refine lv_iconst (v := 1) hx hb dX11_text_11 (by decide) ?_
      refine lv_isub hx hb dX11_text_12 ?_
      obtain ⟨h14, hp⟩ := hp
      refine nGoi (va_runSN (As := [.int x2, .int 0, .int ((S.1 39) - 1)]) (rest := []) ⟨hx, hb, hml, hown, hts⟩ (c_X12_in l G K x2 0 ((S.1 39) - 1) _) ⟨va_cnB (host := "MotionFloorModel") 3 hts (wGP t_ j_X12_in) rfl rfl rfl hTE.2.2.2.2.2.2.2.2.2.1 (hw (.initialized RX12) (List.mem_of_getElem? (i := 1) rfl)) (by decide +kernel) ⟨Nat.le_of_ble_eq_true rfl, Nat.le_of_ble_eq_true rfl⟩, (hw (.static yX12_in) (List.mem_of_getElem? (i := 2) rfl)), trivial⟩ (nPS hK hTE h14) rfl rfl hl.1 rfl (lv_room (Nat.le_of_ble_eq_true rfl)) dX11_text_13 ⟨Nat.le_of_ble_eq_true rfl, Nat.le_of_ble_eq_true rfl⟩) hP hS hA (fun r H locs hv hP hS => ?_)
      subst hv
      refine lv_if_eq (tgt := 28) hx hb dX11_text_16 (by decide) (fun c15 => ?_) (fun c15 => ?_)
      · rw [if_pos c15] at hE hp
        refine lv_iconst (v := (-1)) hx hb dX11_text_28 (by decide) ?_
        exact B_29 S x1 x2 (-1) _ _ _ hE hp hP hD hS (lv_sub hl [0, 1, 2] rfl)
      · rw [if_neg c15] at hE hp
        refine lv_aload_n hx hb dX11_text_19 rfl (lv_at hl 0 rfl) ?_
        refine va_get (D := G) (ci := 8) (v := .ref (g 38)) (C := RX11) (T := TX11) (N := 42) hx hb hts iX11 hown hK hP 0 rfl rfl 38 (by decide) (hw (.fieldLink RX11 87 "MotionFloorModel$Hall" "last" "[I") (List.mem_of_getElem? (i := 10) rfl)) (fun _ h9 => h9) rfl dX11_text_20 ?_
        refine lv_iload_n hx hb dX11_text_23 rfl (lv_at hl 2 rfl) ?_
        obtain ⟨h16, hp⟩ := hp
        refine va_iald hx hb hK hP 25 0 rfl rfl h16 dX11_text_24 ?_
        refine lv_goto (tgt := 29) hx hb dX11_text_25 (by decide) ?_
        exact B_29 S x1 x2 (S.2 38 x2.toNatClampNeg) _ _ _ hE hp hP hD hS (lv_sub hl [0, 1, 2] rfl)
  exact B_M S0 a1 a2 _ _ _ hX hp hP hD hS hl
