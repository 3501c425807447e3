theorem gdX12_in_0 : ckS (List.drop 0 cX12_in.data.toList) 0 [(0, .iload_n 0, 1), (1, .iload_n 1, 1), (2, .if_icmp .lt 12, 3), (5, .iload_n 0, 1), (6, .iload_n 2, 1), (7, .if_icmp .gt 7, 3), (10, .iconst 1, 1), (11, .goto 4, 3), (14, .iconst 0, 1), (15, .ireturn, 1)] = true := by decide +kernel
theorem dX12_in_0 : decode cX12_in 0 = .ok (.iload_n 0, 1) := ckS_g gdX12_in_0 0 rfl
theorem dX12_in_1 : decode cX12_in 1 = .ok (.iload_n 1, 1) := ckS_g gdX12_in_0 1 rfl
theorem dX12_in_2 : decode cX12_in 2 = .ok (.if_icmp .lt 12, 3) := ckS_g gdX12_in_0 2 rfl
theorem dX12_in_5 : decode cX12_in 5 = .ok (.iload_n 0, 1) := ckS_g gdX12_in_0 3 rfl
theorem dX12_in_6 : decode cX12_in 6 = .ok (.iload_n 2, 1) := ckS_g gdX12_in_0 4 rfl
theorem dX12_in_7 : decode cX12_in 7 = .ok (.if_icmp .gt 7, 3) := ckS_g gdX12_in_0 5 rfl
theorem dX12_in_10 : decode cX12_in 10 = .ok (.iconst 1, 1) := ckS_g gdX12_in_0 6 rfl
theorem dX12_in_11 : decode cX12_in 11 = .ok (.goto 4, 3) := ckS_g gdX12_in_0 7 rfl
theorem dX12_in_14 : decode cX12_in 14 = .ok (.iconst 0, 1) := ckS_g gdX12_in_0 8 rfl
theorem dX12_in_15 : decode cX12_in 15 = .ok (.ireturn, 1) := ckS_g gdX12_in_0 9 rfl
set_option maxRecDepth 100000 in
theorem z0 : wZ (.code yX12_in cX12_in 3 (some .boolean)) := ⟨wT5 (List.mem_of_getElem? (i := 228) rfl), Or.inl rfl⟩
def b_X12_in_15 (x0 x1 x2 y0 : Int32) : Int32 := y0
def q_X12_in_15 (x0 x1 x2 y0 : Int32) : Prop := (narrow .boolean (.int y0) = .int y0) ∧ True
def b_X12_in_14 (x0 x1 x2 : Int32) : Int32 := (b_X12_in_15 x0 x1 x2 0)
def q_X12_in_14 (x0 x1 x2 : Int32) : Prop := (q_X12_in_15 x0 x1 x2 0)
def f_X12_in (x0 x1 x2 : Int32) : Int32 := if x0 < x1 then (b_X12_in_14 x0 x1 x2) else if x2 < x0 then (b_X12_in_14 x0 x1 x2) else (b_X12_in_15 x0 x1 x2 1)
def p_X12_in (x0 x1 x2 : Int32) : Prop := (if x0 < x1 then (q_X12_in_14 x0 x1 x2) else (if x2 < x0 then (q_X12_in_14 x0 x1 x2) else (q_X12_in_15 x0 x1 x2 1)))
def e_X12_in : List Cond := []
def v_X12_in : List Cond := .code yX12_in cX12_in 3 (some .boolean) :: (e_X12_in ++ [])
theorem te_X12_in : GoodIn lw_tbl e_X12_in := wG0
theorem t_X12_in : GoodIn lw_tbl v_X12_in := wGc z0 (wGa te_X12_in (wG0))
set_option maxHeartbeats 4000000 in
set_option maxRecDepth 100000 in
theorem c_X12_in (l : Launch) (G : va_G) (K : Nat → ClassId) (a0 a1 a2 : Int32) (sz : Nat) : Met l yX12_in v_X12_in ({ frames := 0, cells := 0, slots := 0, locals := 0 }) (va_Pc [.int a0, .int a1, .int a2] (nS G K sz (p_X12_in a0 a1 a2))) (va_Qi (fun (r : Int32) (_ : Unit) => r = f_X12_in a0 a1 a2) (fun _ _ => True) (va_A [] sz)) 0 0 (va_A [] sz) := by
  refine Met.ofW (cc := cX12_in) (maxL := 3) (ret := (some .boolean)) (by decide) rfl ?_
  intro p e s m args below meth c s₁ B hml hv
  obtain ⟨rfl, ⟨hsz, hP, hK, hD0, hTE⟩, hp⟩ := hv
  have hx := B.exec
  have hb := B.bytes
  have hr := B.returns
  have hts := atoms_spec (ws := v_X12_in) B.pre
  have t_ := t_X12_in
  have mw : ∀ w ∈ e_X12_in, w ∈ v_X12_in := fun w h => List.mem_cons_of_mem _ (List.mem_append_left _ h)
  have hw := fun w (h : w ∈ e_X12_in) => hts w (mw w h)
  have hown : s.vm.findClass RX12 = some m.cls := findClass_of_methodNamed B.named
  have hlocks := B.notSynchronized
  subst hsz
  generalize hAe : va_A [] s.heap.size = A at ⊢
  have hA : ∀ q : Nat, s.heap.size ≤ q → A q := fun q h => by rw [← hAe]; exact Or.inr h
  have hS : va_S A s.heap s.heap [] := va_S.rf
  have hl := lv_entry ([.int a0, .int a1, .int a2]) (n := 3) (Nat.le_of_ble_eq_true rfl)
  rw [lg_entry_eq]
  generalize (lg_sl ([.int a0, .int a1, .int a2]) ++ List.replicate (3 - (lg_sl ([.int a0, .int a1, .int a2])).length) Slot.unset).toArray = ls at hl ⊢
  have hl : lv_has ls 3 [(0, .int a0), (1, .int a1), (2, .int a2)] := hl
  refine wGen (fun Q hQ => ?_)
  obtain ⟨X, hX⟩ : ∃ X, f_X12_in a0 a1 a2 = X := ⟨_, rfl⟩
  have B_15 : ∀ (x0 x1 x2 y0 : Int32) (H : Heap) (locs : List Loc) (ls : Array Slot), b_X12_in_15 x0 x1 x2 y0 = X → q_X12_in_15 x0 x1 x2 y0 → va_S A s.heap H locs → lv_has ls 3 [(0, .int x0), (1, .int x1), (2, .int x2)] → W p l e ({ frames := 0, cells := 0, slots := 0, locals := 0 } : Room) s m #[Value.int a0, Value.int a1, Value.int a2] below meth c H locs 0 0 Q (F0 m 15 ls [.int y0]) := by
    intro x0 x1 x2 y0 H locs ls hE hp hS hl
    unfold b_X12_in_15 at hE
    unfold q_X12_in_15 at hp
    obtain ⟨hy2, hp⟩ := hp
    subst hQ
    exact W.zret (v := y0) (ty := .boolean) hx hb hr hy2 (fun t ht hW => ⟨⟨y0, (), rfl, hE.trans hX.symm, trivial⟩, hS.F ht⟩) hS.2.2 dX12_in_15
  have B_14 : ∀ (x0 x1 x2 : Int32) (H : Heap) (locs : List Loc) (ls : Array Slot), b_X12_in_14 x0 x1 x2 = X → q_X12_in_14 x0 x1 x2 → va_S A s.heap H locs → lv_has ls 3 [(0, .int x0), (1, .int x1), (2, .int x2)] → W p l e ({ frames := 0, cells := 0, slots := 0, locals := 0 } : Room) s m #[Value.int a0, Value.int a1, Value.int a2] below meth c H locs 0 0 Q (F0 m 14 ls []) := by
    intro x0 x1 x2 H locs ls hE hp hS hl
    unfold b_X12_in_14 at hE
    unfold q_X12_in_14 at hp
    refine lv_iconst (v := 0) hx hb dX12_in_14 (by decide) ?_
    exact B_15 x0 x1 x2 0 _ _ _ hE hp hS (lv_sub hl [0, 1, 2] rfl)
  have B_M : ∀ (x0 x1 x2 : Int32) (H : Heap) (locs : List Loc) (ls : Array Slot), f_X12_in x0 x1 x2 = X → p_X12_in x0 x1 x2 → va_S A s.heap H locs → lv_has ls 3 [(0, .int x0), (1, .int x1), (2, .int x2)] → W p l e ({ frames := 0, cells := 0, slots := 0, locals := 0 } : Room) s m #[Value.int a0, Value.int a1, Value.int a2] below meth c H locs 0 0 Q (F0 m 0 ls []) := by
    intro x0 x1 x2 H locs ls hE hp hS hl
    unfold f_X12_in at hE
    unfold p_X12_in at hp
    refine lv_iload_n hx hb dX12_in_0 rfl (lv_at hl 0 rfl) ?_
    refine lv_iload_n hx hb dX12_in_1 rfl (lv_at hl 1 rfl) ?_
    refine lv_icmp_lt (tgt := 14) hx hb dX12_in_2 (by decide) (fun c1 => ?_) (fun c1 => ?_)
    · rw [if_pos c1] at hE hp
      exact B_14 x0 x1 x2 _ _ _ hE hp hS (lv_sub hl [0, 1, 2] rfl)
    · rw [if_neg c1] at hE hp
      refine lv_iload_n hx hb dX12_in_5 rfl (lv_at hl 0 rfl) ?_
      refine lv_iload_n hx hb dX12_in_6 rfl (lv_at hl 2 rfl) ?_
      refine lv_icmp_gt (tgt := 14) hx hb dX12_in_7 (by decide) (fun c3 => ?_) (fun c3 => ?_)
      · rw [if_pos c3] at hE hp
        exact B_14 x0 x1 x2 _ _ _ hE hp hS (lv_sub hl [0, 1, 2] rfl)
      · rw [if_neg c3] at hE hp
        refine lv_iconst (v := 1) hx hb dX12_in_10 (by decide) ?_
        refine lv_goto (tgt := 15) hx hb dX12_in_11 (by decide) ?_
        exact B_15 x0 x1 x2 1 _ _ _ hE hp hS (lv_sub hl [0, 1, 2] rfl)
  exact B_M a0 a1 a2 _ _ _ hX hp hS hl
theorem dX12_numbers_1 : decode cX12_numbers 1 = .ok (.tableswitch 93 5 22 #[89, 93, 93, 87, 93, 93, 89, 91, 93, 93, 93, 93, 89, 93, 87, 93, 87, 87], 87) := by decide +kernel
theorem gdX12_numbers_0 : ckS (List.drop 0 cX12_numbers.data.toList) 0 [(0, .iload_n 0, 1), (88, .iconst 0, 1), (89, .ireturn, 1), (90, .iconst 2, 1), (91, .ireturn, 1), (92, .iconst 4, 1), (93, .ireturn, 1), (94, .iload_n 0, 1), (95, .iconst 1, 1), (96, .bipush 22, 2), (98, .invokestatic 1, 3), (101, .ifCond .eq 7, 3), (104, .iconst 1, 1), (105, .goto 4, 3), (108, .iconst (-1), 1), (109, .ireturn, 1)] = true := by decide +kernel
theorem dX12_numbers_0 : decode cX12_numbers 0 = .ok (.iload_n 0, 1) := ckS_g gdX12_numbers_0 0 rfl
theorem dX12_numbers_88 : decode cX12_numbers 88 = .ok (.iconst 0, 1) := ckS_g gdX12_numbers_0 1 rfl
theorem dX12_numbers_89 : decode cX12_numbers 89 = .ok (.ireturn, 1) := ckS_g gdX12_numbers_0 2 rfl
theorem dX12_numbers_90 : decode cX12_numbers 90 = .ok (.iconst 2, 1) := ckS_g gdX12_numbers_0 3 rfl
theorem dX12_numbers_91 : decode cX12_numbers 91 = .ok (.ireturn, 1) := ckS_g gdX12_numbers_0 4 rfl
theorem dX12_numbers_92 : decode cX12_numbers 92 = .ok (.iconst 4, 1) := ckS_g gdX12_numbers_0 5 rfl
theorem dX12_numbers_93 : decode cX12_numbers 93 = .ok (.ireturn, 1) := ckS_g gdX12_numbers_0 6 rfl
theorem dX12_numbers_94 : decode cX12_numbers 94 = .ok (.iload_n 0, 1) := ckS_g gdX12_numbers_0 7 rfl
theorem dX12_numbers_95 : decode cX12_numbers 95 = .ok (.iconst 1, 1) := ckS_g gdX12_numbers_0 8 rfl
theorem dX12_numbers_96 : decode cX12_numbers 96 = .ok (.bipush 22, 2) := ckS_g gdX12_numbers_0 9 rfl
theorem dX12_numbers_98 : decode cX12_numbers 98 = .ok (.invokestatic 1, 3) := ckS_g gdX12_numbers_0 10 rfl
theorem dX12_numbers_101 : decode cX12_numbers 101 = .ok (.ifCond .eq 7, 3) := ckS_g gdX12_numbers_0 11 rfl
theorem dX12_numbers_104 : decode cX12_numbers 104 = .ok (.iconst 1, 1) := ckS_g gdX12_numbers_0 12 rfl
theorem dX12_numbers_105 : decode cX12_numbers 105 = .ok (.goto 4, 3) := ckS_g gdX12_numbers_0 13 rfl
theorem dX12_numbers_108 : decode cX12_numbers 108 = .ok (.iconst (-1), 1) := ckS_g gdX12_numbers_0 14 rfl
theorem dX12_numbers_109 : decode cX12_numbers 109 = .ok (.ireturn, 1) := ckS_g gdX12_numbers_0 15 rfl
set_option maxRecDepth 100000 in
theorem z1 : wZ (.initialized RX12) := ⟨wT1 (List.mem_of_getElem? (i := 10) (by decide +kernel)), Or.inl rfl⟩
set_option maxRecDepth 100000 in
theorem z2 : wZ (.static yX12_in) := ⟨wT5 (List.mem_of_getElem? (i := 227) (by decide +kernel)), Or.inl rfl⟩
set_option maxRecDepth 100000 in
theorem z3 : wZ (.methodLink RX12 1 yX12_in) := ⟨wT5 (List.mem_of_getElem? (i := 226) (by decide +kernel)), Or.inl rfl⟩
set_option maxRecDepth 100000 in
theorem z4 : wZ (.code yX12_numbers cX12_numbers 1 (some .int)) := ⟨wT6 (List.mem_of_getElem? (i := 115) rfl), Or.inl rfl⟩
def b_X12_numbers_90 (x0 : Int32) : Int32 := 2
def q_X12_numbers_90 (x0 : Int32) : Prop := True
def b_X12_numbers_88 (x0 : Int32) : Int32 := 0
def q_X12_numbers_88 (x0 : Int32) : Prop := True
def b_X12_numbers_109 (x0 y0 : Int32) : Int32 := y0
def q_X12_numbers_109 (x0 y0 : Int32) : Prop := True
def b_X12_numbers_94 (x0 : Int32) : Int32 := if (f_X12_in x0 1 22) = 0 then (b_X12_numbers_109 x0 (-1)) else (b_X12_numbers_109 x0 1)
def q_X12_numbers_94 (x0 : Int32) : Prop := (p_X12_in x0 1 22) ∧ (if (f_X12_in x0 1 22) = 0 then (q_X12_numbers_109 x0 (-1)) else (q_X12_numbers_109 x0 1))
def f_X12_numbers (x0 : Int32) : Int32 := if x0 = 5 then (b_X12_numbers_90 x0) else if x0 = 8 then (b_X12_numbers_88 x0) else if x0 = 11 then (b_X12_numbers_90 x0) else if x0 = 12 then 4 else if x0 = 17 then (b_X12_numbers_90 x0) else if x0 = 19 then (b_X12_numbers_88 x0) else if x0 = 21 then (b_X12_numbers_88 x0) else if x0 = 22 then (b_X12_numbers_88 x0) else (b_X12_numbers_94 x0)
def p_X12_numbers (x0 : Int32) : Prop := (if x0 = 5 then (q_X12_numbers_90 x0) else (if x0 = 8 then (q_X12_numbers_88 x0) else (if x0 = 11 then (q_X12_numbers_90 x0) else (if x0 = 12 then True else (if x0 = 17 then (q_X12_numbers_90 x0) else (if x0 = 19 then (q_X12_numbers_88 x0) else (if x0 = 21 then (q_X12_numbers_88 x0) else (if x0 = 22 then (q_X12_numbers_88 x0) else (q_X12_numbers_94 x0)))))))))
def e_X12_numbers : List Cond := [.methodLink RX12 1 yX12_in, .static yX12_in, .initialized RX12]
def v_X12_numbers : List Cond := .code yX12_numbers cX12_numbers 1 (some .int) :: (e_X12_numbers ++ (v_X12_in ++ []))
theorem te_X12_numbers : GoodIn lw_tbl e_X12_numbers := wGc z3 (wGc z2 (wGc z1 (wG0)))
theorem t_X12_numbers : GoodIn lw_tbl v_X12_numbers := wGc z4 (wGa te_X12_numbers (wGa t_X12_in (wG0)))
set_option maxHeartbeats 4000000 in
set_option maxRecDepth 100000 in
theorem c_X12_numbers (l : Launch) (G : va_G) (K : Nat → ClassId) (a0 : Int32) (sz : Nat) : Met l yX12_numbers v_X12_numbers ({ frames := 1, cells := 0, slots := 0, locals := 22 }) (va_Pc [.int a0] (nS G K sz (p_X12_numbers a0))) (va_Qi (fun (r : Int32) (_ : Unit) => r = f_X12_numbers a0) (fun _ _ => True) (va_A [] sz)) 0 0 (va_A [] sz) := by
  refine Met.ofW (cc := cX12_numbers) (maxL := 1) (ret := (some .int)) (by decide) rfl ?_
  intro p e s m args below meth c s₁ B hml hv
  obtain ⟨rfl, ⟨hsz, hP, hK, hD0, hTE⟩, hp⟩ := hv
  have hx := B.exec
  have hb := B.bytes
  have hr := B.returns
  have hts := atoms_spec (ws := v_X12_numbers) B.pre
  have t_ := t_X12_numbers
  have mw : ∀ w ∈ e_X12_numbers, w ∈ v_X12_numbers := fun w h => List.mem_cons_of_mem _ (List.mem_append_left _ h)
  have hw := fun w (h : w ∈ e_X12_numbers) => hts w (mw w h)
  have j_X12_in : ∀ w ∈ v_X12_in, w ∈ v_X12_numbers := fun w h => List.mem_cons_of_mem _ (List.mem_append_right _ (List.mem_append_left _ h))
  have hown : s.vm.findClass RX12 = some m.cls := findClass_of_methodNamed B.named
  have hlocks := B.notSynchronized
  subst hsz
  generalize hAe : va_A [] s.heap.size = A at ⊢
  have hA : ∀ q : Nat, s.heap.size ≤ q → A q := fun q h => by rw [← hAe]; exact Or.inr h
  have hS : va_S A s.heap s.heap [] := va_S.rf
  have hl := lv_entry ([.int a0]) (n := 1) (Nat.le_of_ble_eq_true rfl)
  rw [lg_entry_eq]
  generalize (lg_sl ([.int a0]) ++ List.replicate (1 - (lg_sl ([.int a0])).length) Slot.unset).toArray = ls at hl ⊢
  have hl : lv_has ls 1 [(0, .int a0)] := hl
  refine wGen (fun Q hQ => ?_)
  obtain ⟨X, hX⟩ : ∃ X, f_X12_numbers a0 = X := ⟨_, rfl⟩
  have B_90 : ∀ (x0 : Int32) (H : Heap) (locs : List Loc) (ls : Array Slot), b_X12_numbers_90 x0 = X → q_X12_numbers_90 x0 → va_S A s.heap H locs → lv_has ls 1 [(0, .int x0)] → W p l e ({ frames := 1, cells := 0, slots := 0, locals := 22 } : Room) s m #[Value.int a0] below meth c H locs 0 0 Q (F0 m 90 ls []) := by
    intro x0 H locs ls hE hp hS hl
    unfold b_X12_numbers_90 at hE
    unfold q_X12_numbers_90 at hp
    refine lv_iconst (v := 2) hx hb dX12_numbers_90 (by decide) ?_
    subst hQ
    exact W.iret (v := 2) hx hb hr (fun t ht hW => ⟨⟨2, (), rfl, hE.trans hX.symm, trivial⟩, hS.F ht⟩) hS.2.2 dX12_numbers_91
  have B_88 : ∀ (x0 : Int32) (H : Heap) (locs : List Loc) (ls : Array Slot), b_X12_numbers_88 x0 = X → q_X12_numbers_88 x0 → va_S A s.heap H locs → lv_has ls 1 [(0, .int x0)] → W p l e ({ frames := 1, cells := 0, slots := 0, locals := 22 } : Room) s m #[Value.int a0] below meth c H locs 0 0 Q (F0 m 88 ls []) := by
    intro x0 H locs ls hE hp hS hl
    unfold b_X12_numbers_88 at hE
    unfold q_X12_numbers_88 at hp
    refine lv_iconst (v := 0) hx hb dX12_numbers_88 (by decide) ?_
    subst hQ
    exact W.iret (v := 0) hx hb hr (fun t ht hW => ⟨⟨0, (), rfl, hE.trans hX.symm, trivial⟩, hS.F ht⟩) hS.2.2 dX12_numbers_89
  have B_109 : ∀ (x0 y0 : Int32) (H : Heap) (locs : List Loc) (ls : Array Slot), b_X12_numbers_109 x0 y0 = X → q_X12_numbers_109 x0 y0 → va_S A s.heap H locs → lv_has ls 1 [(0, .int x0)] → W p l e ({ frames := 1, cells := 0, slots := 0, locals := 22 } : Room) s m #[Value.int a0] below meth c H locs 0 0 Q (F0 m 109 ls [.int y0]) := by
    intro x0 y0 H locs ls hE hp hS hl
    unfold b_X12_numbers_109 at hE
    unfold q_X12_numbers_109 at hp
    subst hQ
    exact W.iret (v := y0) hx hb hr (fun t ht hW => ⟨⟨y0, (), rfl, hE.trans hX.symm, trivial⟩, hS.F ht⟩) hS.2.2 dX12_numbers_109
  have B_94 : ∀ (x0 : Int32) (H : Heap) (locs : List Loc) (ls : Array Slot), b_X12_numbers_94 x0 = X → q_X12_numbers_94 x0 → va_S A s.heap H locs → lv_has ls 1 [(0, .int x0)] → W p l e ({ frames := 1, cells := 0, slots := 0, locals := 22 } : Room) s m #[Value.int a0] below meth c H locs 0 0 Q (F0 m 94 ls []) := by
    intro x0 H locs ls hE hp hS hl
    unfold b_X12_numbers_94 at hE
    unfold q_X12_numbers_94 at hp
    refine lv_iload_n hx hb dX12_numbers_94 rfl (lv_at hl 0 rfl) ?_
    refine lv_iconst (v := 1) hx hb dX12_numbers_95 (by decide) ?_
    refine lv_bipush (v := 22) hx hb dX12_numbers_96 (by decide) ?_
    obtain ⟨hy1, hp⟩ := hp
    refine nGoi (ws := []) (G := G) (va_runS (As := [.int x0, .int 1, .int 22]) (rest := []) ⟨hx, hb, hml, hown, hts⟩ (c_X12_in l G K x0 1 22 _) (va_cwS 3 hts (wGS t_ (mw (.methodLink RX12 1 yX12_in) (List.mem_of_getElem? (i := 0) rfl)) (mw (.static yX12_in) (List.mem_of_getElem? (i := 1) rfl)) (mw (.initialized RX12) (List.mem_of_getElem? (i := 2) rfl)) j_X12_in) rfl rfl rfl (by decide +kernel) ⟨Nat.le_of_ble_eq_true rfl, Nat.le_of_ble_eq_true rfl⟩) (nPS hK hTE hy1) rfl rfl hl.1 rfl (lv_room (Nat.le_of_ble_eq_true rfl)) dX12_numbers_98 ⟨Nat.le_of_ble_eq_true rfl, Nat.le_of_ble_eq_true rfl⟩) (fun k q h => by simp at h) hS hA (fun r H locs hv _ hS => ?_)
    subst hv
    refine lv_if_eq (tgt := 108) hx hb dX12_numbers_101 (by decide) (fun c2 => ?_) (fun c2 => ?_)
    · rw [if_pos c2] at hE hp
      refine lv_iconst (v := (-1)) hx hb dX12_numbers_108 (by decide) ?_
      exact B_109 x0 (-1) _ _ _ hE hp hS (lv_sub hl [0] rfl)
    · rw [if_neg c2] at hE hp
      refine lv_iconst (v := 1) hx hb dX12_numbers_104 (by decide) ?_
      refine lv_goto (tgt := 109) hx hb dX12_numbers_105 (by decide) ?_
      exact B_109 x0 1 _ _ _ hE hp hS (lv_sub hl [0] rfl)
  have B_M : ∀ (x0 : Int32) (H : Heap) (locs : List Loc) (ls : Array Slot), f_X12_numbers x0 = X → p_X12_numbers x0 → va_S A s.heap H locs → lv_has ls 1 [(0, .int x0)] → W p l e ({ frames := 1, cells := 0, slots := 0, locals := 22 } : Room) s m #[Value.int a0] below meth c H locs 0 0 Q (F0 m 0 ls []) := by
    intro x0 H locs ls hE hp hS hl
    unfold f_X12_numbers at hE
    unfold p_X12_numbers at hp
    refine lv_iload_n hx hb dX12_numbers_0 rfl (lv_at hl 0 rfl) ?_
    by_cases s5 : x0 = 5
    · rw [if_pos s5] at hE hp
      refine lv_tableIn (off := 89) (tgt := 90) hx hb dX12_numbers_1 (by rw [s5]; decide) (by rw [s5]; decide) (by rw [s5]; decide) (by decide) ?_
      exact B_90 x0 _ _ _ hE hp hS (lv_sub hl [0] rfl)
    rw [if_neg s5] at hE hp
    have s5 := wNe (b := 5) rfl (by decide) s5
    by_cases s8 : x0 = 8
    · rw [if_pos s8] at hE hp
      refine lv_tableIn (off := 87) (tgt := 88) hx hb dX12_numbers_1 (by rw [s8]; decide) (by rw [s8]; decide) (by rw [s8]; decide) (by decide) ?_
      exact B_88 x0 _ _ _ hE hp hS (lv_sub hl [0] rfl)
    rw [if_neg s8] at hE hp
    have s8 := wNe (b := 8) rfl (by decide) s8
    by_cases s11 : x0 = 11
    · rw [if_pos s11] at hE hp
      refine lv_tableIn (off := 89) (tgt := 90) hx hb dX12_numbers_1 (by rw [s11]; decide) (by rw [s11]; decide) (by rw [s11]; decide) (by decide) ?_
      exact B_90 x0 _ _ _ hE hp hS (lv_sub hl [0] rfl)
    rw [if_neg s11] at hE hp
    have s11 := wNe (b := 11) rfl (by decide) s11
    by_cases s12 : x0 = 12
    · rw [if_pos s12] at hE hp
      refine lv_tableIn (off := 91) (tgt := 92) hx hb dX12_numbers_1 (by rw [s12]; decide) (by rw [s12]; decide) (by rw [s12]; decide) (by decide) ?_
      refine lv_iconst (v := 4) hx hb dX12_numbers_92 (by decide) ?_
      subst hQ
      exact W.iret (v := 4) hx hb hr (fun t ht hW => ⟨⟨4, (), rfl, hE.trans hX.symm, trivial⟩, hS.F ht⟩) hS.2.2 dX12_numbers_93
    rw [if_neg s12] at hE hp
    have s12 := wNe (b := 12) rfl (by decide) s12
    by_cases s17 : x0 = 17
    · rw [if_pos s17] at hE hp
      refine lv_tableIn (off := 89) (tgt := 90) hx hb dX12_numbers_1 (by rw [s17]; decide) (by rw [s17]; decide) (by rw [s17]; decide) (by decide) ?_
      exact B_90 x0 _ _ _ hE hp hS (lv_sub hl [0] rfl)
    rw [if_neg s17] at hE hp
    have s17 := wNe (b := 17) rfl (by decide) s17
    by_cases s19 : x0 = 19
    · rw [if_pos s19] at hE hp
      refine lv_tableIn (off := 87) (tgt := 88) hx hb dX12_numbers_1 (by rw [s19]; decide) (by rw [s19]; decide) (by rw [s19]; decide) (by decide) ?_
      exact B_88 x0 _ _ _ hE hp hS (lv_sub hl [0] rfl)
    rw [if_neg s19] at hE hp
    have s19 := wNe (b := 19) rfl (by decide) s19
    by_cases s21 : x0 = 21
    · rw [if_pos s21] at hE hp
      refine lv_tableIn (off := 87) (tgt := 88) hx hb dX12_numbers_1 (by rw [s21]; decide) (by rw [s21]; decide) (by rw [s21]; decide) (by decide) ?_
      exact B_88 x0 _ _ _ hE hp hS (lv_sub hl [0] rfl)
    rw [if_neg s21] at hE hp
    have s21 := wNe (b := 21) rfl (by decide) s21
    by_cases s22 : x0 = 22
    · rw [if_pos s22] at hE hp
      refine lv_tableIn (off := 87) (tgt := 88) hx hb dX12_numbers_1 (by rw [s22]; decide) (by rw [s22]; decide) (by rw [s22]; decide) (by decide) ?_
      exact B_88 x0 _ _ _ hE hp hS (lv_sub hl [0] rfl)
    rw [if_neg s22] at hE hp
    have s22 := wNe (b := 22) rfl (by decide) s22
    by_cases s6 : x0 = 6
    · refine lv_tableIn (off := 93) (tgt := 94) hx hb dX12_numbers_1 (by rw [s6]; decide) (by rw [s6]; decide) (by rw [s6]; decide) (by decide) ?_
      exact B_94 x0 _ _ _ hE hp hS (lv_sub hl [0] rfl)
    have s6 := wNe (b := 6) rfl (by decide) s6
    by_cases s7 : x0 = 7
    · refine lv_tableIn (off := 93) (tgt := 94) hx hb dX12_numbers_1 (by rw [s7]; decide) (by rw [s7]; decide) (by rw [s7]; decide) (by decide) ?_
      exact B_94 x0 _ _ _ hE hp hS (lv_sub hl [0] rfl)
    have s7 := wNe (b := 7) rfl (by decide) s7
    by_cases s9 : x0 = 9
    · refine lv_tableIn (off := 93) (tgt := 94) hx hb dX12_numbers_1 (by rw [s9]; decide) (by rw [s9]; decide) (by rw [s9]; decide) (by decide) ?_
      exact B_94 x0 _ _ _ hE hp hS (lv_sub hl [0] rfl)
    have s9 := wNe (b := 9) rfl (by decide) s9
    by_cases s10 : x0 = 10
    · refine lv_tableIn (off := 93) (tgt := 94) hx hb dX12_numbers_1 (by rw [s10]; decide) (by rw [s10]; decide) (by rw [s10]; decide) (by decide) ?_
      exact B_94 x0 _ _ _ hE hp hS (lv_sub hl [0] rfl)
    have s10 := wNe (b := 10) rfl (by decide) s10
    by_cases s13 : x0 = 13
    · refine lv_tableIn (off := 93) (tgt := 94) hx hb dX12_numbers_1 (by rw [s13]; decide) (by rw [s13]; decide) (by rw [s13]; decide) (by decide) ?_
      exact B_94 x0 _ _ _ hE hp hS (lv_sub hl [0] rfl)
    have s13 := wNe (b := 13) rfl (by decide) s13
    by_cases s14 : x0 = 14
    · refine lv_tableIn (off := 93) (tgt := 94) hx hb dX12_numbers_1 (by rw [s14]; decide) (by rw [s14]; decide) (by rw [s14]; decide) (by decide) ?_
      exact B_94 x0 _ _ _ hE hp hS (lv_sub hl [0] rfl)
    have s14 := wNe (b := 14) rfl (by decide) s14
    by_cases s15 : x0 = 15
    · refine lv_tableIn (off := 93) (tgt := 94) hx hb dX12_numbers_1 (by rw [s15]; decide) (by rw [s15]; decide) (by rw [s15]; decide) (by decide) ?_
      exact B_94 x0 _ _ _ hE hp hS (lv_sub hl [0] rfl)
    have s15 := wNe (b := 15) rfl (by decide) s15
    by_cases s16 : x0 = 16
    · refine lv_tableIn (off := 93) (tgt := 94) hx hb dX12_numbers_1 (by rw [s16]; decide) (by rw [s16]; decide) (by rw [s16]; decide) (by decide) ?_
      exact B_94 x0 _ _ _ hE hp hS (lv_sub hl [0] rfl)
    have s16 := wNe (b := 16) rfl (by decide) s16
    by_cases s18 : x0 = 18
    · refine lv_tableIn (off := 93) (tgt := 94) hx hb dX12_numbers_1 (by rw [s18]; decide) (by rw [s18]; decide) (by rw [s18]; decide) (by decide) ?_
      exact B_94 x0 _ _ _ hE hp hS (lv_sub hl [0] rfl)
    have s18 := wNe (b := 18) rfl (by decide) s18
    by_cases s20 : x0 = 20
    · refine lv_tableIn (off := 93) (tgt := 94) hx hb dX12_numbers_1 (by rw [s20]; decide) (by rw [s20]; decide) (by rw [s20]; decide) (by decide) ?_
      exact B_94 x0 _ _ _ hE hp hS (lv_sub hl [0] rfl)
    have s20 := wNe (b := 20) rfl (by decide) s20
    refine lv_tableOut (tgt := 94) hx hb dX12_numbers_1 (by omega) (by decide) ?_
    exact B_94 x0 _ _ _ hE hp hS (lv_sub hl [0] rfl)
  exact B_M a0 _ _ _ hX hp hS hl
theorem gdX11_isWord_0 : ckS (List.drop 0 cX11_isWord.data.toList) 0 [(0, .iload_n 0, 1), (1, .iconst 1, 1), (2, .sipush 30000, 3), (5, .invokestatic 136, 3), (8, .ireturn, 1)] = true := by decide +kernel
theorem dX11_isWord_0 : decode cX11_isWord 0 = .ok (.iload_n 0, 1) := ckS_g gdX11_isWord_0 0 rfl
theorem dX11_isWord_1 : decode cX11_isWord 1 = .ok (.iconst 1, 1) := ckS_g gdX11_isWord_0 1 rfl
theorem dX11_isWord_2 : decode cX11_isWord 2 = .ok (.sipush 30000, 3) := ckS_g gdX11_isWord_0 2 rfl
theorem dX11_isWord_5 : decode cX11_isWord 5 = .ok (.invokestatic 136, 3) := ckS_g gdX11_isWord_0 3 rfl
theorem dX11_isWord_8 : decode cX11_isWord 8 = .ok (.ireturn, 1) := ckS_g gdX11_isWord_0 4 rfl
set_option maxRecDepth 100000 in
theorem z5 : wZ (.code yX11_isWord cX11_isWord 1 (some .boolean)) := ⟨wT6 (List.mem_of_getElem? (i := 24) rfl), Or.inl rfl⟩
def f_X11_isWord (x0 : Int32) : Int32 := (f_X12_in x0 1 30000)
def p_X11_isWord (x0 : Int32) : Prop := (p_X12_in x0 1 30000) ∧ (narrow .boolean (.int (f_X12_in x0 1 30000)) = .int (f_X12_in x0 1 30000)) ∧ True
def e_X11_isWord : List Cond := [.initialized RX12, .static yX12_in]
def v_X11_isWord : List Cond := .code yX11_isWord cX11_isWord 1 (some .boolean) :: (e_X11_isWord ++ (v_X12_in ++ []))
theorem te_X11_isWord : GoodIn lw_tbl e_X11_isWord := wGc z1 (wGc z2 (wG0))
theorem t_X11_isWord : GoodIn lw_tbl v_X11_isWord := wGc z5 (wGa te_X11_isWord (wGa t_X12_in (wG0)))
set_option maxHeartbeats 4000000 in
set_option maxRecDepth 100000 in
theorem c_X11_isWord (l : Launch) (G : va_G) (K : Nat → ClassId) (a0 : Int32) (sz : Nat) : Met l yX11_isWord v_X11_isWord ({ frames := 1, cells := 0, slots := 0, locals := 22 }) (va_Pc [.int a0] (nS G K sz (p_X11_isWord a0))) (va_Qi (fun (r : Int32) (_ : Unit) => r = f_X11_isWord a0) (fun _ _ => True) (va_A [] sz)) 0 0 (va_A [] sz) := by
  refine Met.ofW (cc := cX11_isWord) (maxL := 1) (ret := (some .boolean)) (by decide) rfl ?_
  intro p e s m args below meth c s₁ B hml hv
  obtain ⟨rfl, ⟨hsz, hP, hK, hD0, hTE⟩, hp⟩ := hv
  have hx := B.exec
  have hb := B.bytes
  have hr := B.returns
  have hts := atoms_spec (ws := v_X11_isWord) B.pre
  have t_ := t_X11_isWord
  have mw : ∀ w ∈ e_X11_isWord, w ∈ v_X11_isWord := fun w h => List.mem_cons_of_mem _ (List.mem_append_left _ h)
  have hw := fun w (h : w ∈ e_X11_isWord) => hts w (mw w h)
  have j_X12_in : ∀ w ∈ v_X12_in, w ∈ v_X11_isWord := fun w h => List.mem_cons_of_mem _ (List.mem_append_right _ (List.mem_append_left _ h))
  have hown : s.vm.findClass RX11 = some m.cls := findClass_of_methodNamed B.named
  have hlocks := B.notSynchronized
  subst hsz
  generalize hAe : va_A [] s.heap.size = A at ⊢
  have hA : ∀ q : Nat, s.heap.size ≤ q → A q := fun q h => by rw [← hAe]; exact Or.inr h
  have hS : va_S A s.heap s.heap [] := va_S.rf
  have hl := lv_entry ([.int a0]) (n := 1) (Nat.le_of_ble_eq_true rfl)
  rw [lg_entry_eq]
  generalize (lg_sl ([.int a0]) ++ List.replicate (1 - (lg_sl ([.int a0])).length) Slot.unset).toArray = ls at hl ⊢
  have hl : lv_has ls 1 [(0, .int a0)] := hl
  refine wGen (fun Q hQ => ?_)
  obtain ⟨X, hX⟩ : ∃ X, f_X11_isWord a0 = X := ⟨_, rfl⟩
  have B_M : ∀ (x0 : Int32) (H : Heap) (locs : List Loc) (ls : Array Slot), f_X11_isWord x0 = X → p_X11_isWord x0 → va_S A s.heap H locs → lv_has ls 1 [(0, .int x0)] → W p l e ({ frames := 1, cells := 0, slots := 0, locals := 22 } : Room) s m #[Value.int a0] below meth c H locs 0 0 Q (F0 m 0 ls []) := by
    intro x0 H locs ls hE hp hS hl
    unfold f_X11_isWord at hE
    unfold p_X11_isWord at hp
    refine lv_iload_n hx hb dX11_isWord_0 rfl (lv_at hl 0 rfl) ?_
    refine lv_iconst (v := 1) hx hb dX11_isWord_1 (by decide) ?_
    refine lv_sipush (v := 30000) hx hb dX11_isWord_2 (by decide) ?_
    obtain ⟨hy1, hp⟩ := hp
    refine nGoi (ws := []) (G := G) (va_runSN (As := [.int x0, .int 1, .int 30000]) (rest := []) ⟨hx, hb, hml, hown, hts⟩ (c_X12_in l G K x0 1 30000 _) ⟨va_cnB (host := "MotionFloorModel") 3 hts (wGP t_ j_X12_in) rfl rfl rfl hTE.2.2.2.2.2.2.2.2.2.1 (hw (.initialized RX12) (List.mem_of_getElem? (i := 0) rfl)) (by decide +kernel) ⟨Nat.le_of_ble_eq_true rfl, Nat.le_of_ble_eq_true rfl⟩, (hw (.static yX12_in) (List.mem_of_getElem? (i := 1) rfl)), trivial⟩ (nPS hK hTE hy1) rfl rfl hl.1 rfl (lv_room (Nat.le_of_ble_eq_true rfl)) dX11_isWord_5 ⟨Nat.le_of_ble_eq_true rfl, Nat.le_of_ble_eq_true rfl⟩) (fun k q h => by simp at h) hS hA (fun r H locs hv _ hS => ?_)
    subst hv
    obtain ⟨hy2, hp⟩ := hp
    subst hQ
    exact W.zret (v := (f_X12_in x0 1 30000)) (ty := .boolean) hx hb hr hy2 (fun t ht hW => ⟨⟨(f_X12_in x0 1 30000), (), rfl, hE.trans hX.symm, trivial⟩, hS.F ht⟩) hS.2.2 dX11_isWord_8
  exact B_M a0 _ _ _ hX hp hS hl
theorem gdX11_isSeat_0 : ckS (List.drop 0 cX11_isSeat.data.toList) 0 [(0, .iload_n 1, 1), (1, .iconst 0, 1), (2, .aload_n 0, 1), (3, .getfield 96, 3), (6, .iconst 1, 1), (7, .isub, 1), (8, .invokestatic 136, 3), (11, .ireturn, 1)] = true := by decide +kernel
theorem dX11_isSeat_0 : decode cX11_isSeat 0 = .ok (.iload_n 1, 1) := ckS_g gdX11_isSeat_0 0 rfl
theorem dX11_isSeat_1 : decode cX11_isSeat 1 = .ok (.iconst 0, 1) := ckS_g gdX11_isSeat_0 1 rfl
theorem dX11_isSeat_2 : decode cX11_isSeat 2 = .ok (.aload_n 0, 1) := ckS_g gdX11_isSeat_0 2 rfl
theorem dX11_isSeat_3 : decode cX11_isSeat 3 = .ok (.getfield 96, 3) := ckS_g gdX11_isSeat_0 3 rfl
theorem dX11_isSeat_6 : decode cX11_isSeat 6 = .ok (.iconst 1, 1) := ckS_g gdX11_isSeat_0 4 rfl
theorem dX11_isSeat_7 : decode cX11_isSeat 7 = .ok (.isub, 1) := ckS_g gdX11_isSeat_0 5 rfl
theorem dX11_isSeat_8 : decode cX11_isSeat 8 = .ok (.invokestatic 136, 3) := ckS_g gdX11_isSeat_0 6 rfl
theorem dX11_isSeat_11 : decode cX11_isSeat 11 = .ok (.ireturn, 1) := ckS_g gdX11_isSeat_0 7 rfl
set_option maxRecDepth 100000 in
theorem z6 : wZ (.lays "MotionFloorModel$Hall" "MotionFloorModel$Hall" "seats" "I") := ⟨wT5 (List.mem_of_getElem? (i := 111) (by decide +kernel)), Or.inl rfl⟩
set_option maxRecDepth 100000 in
theorem z7 : wZ (.lays "MotionFloorModel$Hall" "MotionFloorModel$Hall" "there" "I") := ⟨wT5 (List.mem_of_getElem? (i := 113) (by decide +kernel)), Or.inl rfl⟩
set_option maxRecDepth 100000 in
theorem z8 : wZ (.lays "MotionFloorModel$Hall" "MotionFloorModel$Hall" "chair" "I") := ⟨wT5 (List.mem_of_getElem? (i := 115) (by decide +kernel)), Or.inl rfl⟩
set_option maxRecDepth 100000 in
theorem z9 : wZ (.lays "MotionFloorModel$Hall" "MotionFloorModel$Hall" "quorum" "I") := ⟨wT5 (List.mem_of_getElem? (i := 117) (by decide +kernel)), Or.inl rfl⟩
set_option maxRecDepth 100000 in
theorem z10 : wZ (.lays "MotionFloorModel$Hall" "MotionFloorModel$Hall" "limit" "I") := ⟨wT5 (List.mem_of_getElem? (i := 119) (by decide +kernel)), Or.inl rfl⟩
set_option maxRecDepth 100000 in
theorem z11 : wZ (.lays "MotionFloorModel$Hall" "MotionFloorModel$Hall" "floor" "I") := ⟨wT5 (List.mem_of_getElem? (i := 121) (by decide +kernel)), Or.inl rfl⟩
set_option maxRecDepth 100000 in
theorem z12 : wZ (.lays "MotionFloorModel$Hall" "MotionFloorModel$Hall" "pending" "I") := ⟨wT5 (List.mem_of_getElem? (i := 123) (by decide +kernel)), Or.inl rfl⟩
set_option maxRecDepth 100000 in
theorem z13 : wZ (.lays "MotionFloorModel$Hall" "MotionFloorModel$Hall" "entries" "I") := ⟨wT5 (List.mem_of_getElem? (i := 125) (by decide +kernel)), Or.inl rfl⟩
set_option maxRecDepth 100000 in
theorem z14 : wZ (.lays "MotionFloorModel$Hall" "MotionFloorModel$Hall" "results" "I") := ⟨wT5 (List.mem_of_getElem? (i := 127) (by decide +kernel)), Or.inl rfl⟩
set_option maxRecDepth 100000 in
theorem z15 : wZ (.lays "MotionFloorModel$Hall" "MotionFloorModel$Hall" "adopted" "I") := ⟨wT5 (List.mem_of_getElem? (i := 129) (by decide +kernel)), Or.inl rfl⟩
set_option maxRecDepth 100000 in
theorem z16 : wZ (.lays "MotionFloorModel$Hall" "MotionFloorModel$Hall" "why" "I") := ⟨wT5 (List.mem_of_getElem? (i := 131) (by decide +kernel)), Or.inl rfl⟩
set_option maxRecDepth 100000 in
theorem z17 : wZ (.laysFinal "MotionFloorModel$Hall" "MotionFloorModel$Hall" "isThere" "[Z") := ⟨wT5 (List.mem_of_getElem? (i := 133) (by decide +kernel)), Or.inl rfl⟩
set_option maxRecDepth 100000 in
theorem z18 : wZ (.laysFinal "MotionFloorModel$Hall" "MotionFloorModel$Hall" "majority" "[I") := ⟨wT5 (List.mem_of_getElem? (i := 135) (by decide +kernel)), Or.inl rfl⟩
set_option maxRecDepth 100000 in
theorem z19 : wZ (.laysFinal "MotionFloorModel$Hall" "MotionFloorModel$Hall" "used" "[Z") := ⟨wT5 (List.mem_of_getElem? (i := 137) (by decide +kernel)), Or.inl rfl⟩
set_option maxRecDepth 100000 in
theorem z20 : wZ (.laysFinal "MotionFloorModel$Hall" "MotionFloorModel$Hall" "kind" "[I") := ⟨wT5 (List.mem_of_getElem? (i := 139) (by decide +kernel)), Or.inl rfl⟩
set_option maxRecDepth 100000 in
theorem z21 : wZ (.laysFinal "MotionFloorModel$Hall" "MotionFloorModel$Hall" "mover" "[I") := ⟨wT5 (List.mem_of_getElem? (i := 141) (by decide +kernel)), Or.inl rfl⟩
set_option maxRecDepth 100000 in
theorem z22 : wZ (.laysFinal "MotionFloorModel$Hall" "MotionFloorModel$Hall" "seconder" "[I") := ⟨wT5 (List.mem_of_getElem? (i := 143) (by decide +kernel)), Or.inl rfl⟩
set_option maxRecDepth 100000 in
theorem z23 : wZ (.laysFinal "MotionFloorModel$Hall" "MotionFloorModel$Hall" "floors" "[I") := ⟨wT5 (List.mem_of_getElem? (i := 145) (by decide +kernel)), Or.inl rfl⟩
set_option maxRecDepth 100000 in
theorem z24 : wZ (.laysFinal "MotionFloorModel$Hall" "MotionFloorModel$Hall" "speeches" "[I") := ⟨wT5 (List.mem_of_getElem? (i := 147) (by decide +kernel)), Or.inl rfl⟩
set_option maxRecDepth 100000 in
theorem z25 : wZ (.laysFinal "MotionFloorModel$Hall" "MotionFloorModel$Hall" "words" "[I") := ⟨wT5 (List.mem_of_getElem? (i := 149) (by decide +kernel)), Or.inl rfl⟩
set_option maxRecDepth 100000 in
theorem z26 : wZ (.laysFinal "MotionFloorModel$Hall" "MotionFloorModel$Hall" "from" "[I") := ⟨wT5 (List.mem_of_getElem? (i := 151) (by decide +kernel)), Or.inl rfl⟩
set_option maxRecDepth 100000 in
theorem z27 : wZ (.laysFinal "MotionFloorModel$Hall" "MotionFloorModel$Hall" "to" "[I") := ⟨wT5 (List.mem_of_getElem? (i := 153) (by decide +kernel)), Or.inl rfl⟩
set_option maxRecDepth 100000 in
theorem z28 : wZ (.laysFinal "MotionFloorModel$Hall" "MotionFloorModel$Hall" "self" "[I") := ⟨wT5 (List.mem_of_getElem? (i := 155) (by decide +kernel)), Or.inl rfl⟩
set_option maxRecDepth 100000 in
theorem z29 : wZ (.laysFinal "MotionFloorModel$Hall" "MotionFloorModel$Hall" "subject" "[I") := ⟨wT5 (List.mem_of_getElem? (i := 157) (by decide +kernel)), Or.inl rfl⟩
set_option maxRecDepth 100000 in
theorem z30 : wZ (.laysFinal "MotionFloorModel$Hall" "MotionFloorModel$Hall" "closed" "[Z") := ⟨wT5 (List.mem_of_getElem? (i := 159) (by decide +kernel)), Or.inl rfl⟩
set_option maxRecDepth 100000 in
theorem z31 : wZ (.laysFinal "MotionFloorModel$Hall" "MotionFloorModel$Hall" "laid" "[Z") := ⟨wT5 (List.mem_of_getElem? (i := 161) (by decide +kernel)), Or.inl rfl⟩
set_option maxRecDepth 100000 in
theorem z32 : wZ (.laysFinal "MotionFloorModel$Hall" "MotionFloorModel$Hall" "outside" "[Z") := ⟨wT5 (List.mem_of_getElem? (i := 163) (by decide +kernel)), Or.inl rfl⟩
set_option maxRecDepth 100000 in
theorem z33 : wZ (.laysFinal "MotionFloorModel$Hall" "MotionFloorModel$Hall" "letter" "[Z") := ⟨wT5 (List.mem_of_getElem? (i := 165) (by decide +kernel)), Or.inl rfl⟩
set_option maxRecDepth 100000 in
theorem z34 : wZ (.laysFinal "MotionFloorModel$Hall" "MotionFloorModel$Hall" "text" "[I") := ⟨wT5 (List.mem_of_getElem? (i := 167) (by decide +kernel)), Or.inl rfl⟩
set_option maxRecDepth 100000 in
theorem z35 : wZ (.laysFinal "MotionFloorModel$Hall" "MotionFloorModel$Hall" "ballot" "[B") := ⟨wT5 (List.mem_of_getElem? (i := 169) (by decide +kernel)), Or.inl rfl⟩
set_option maxRecDepth 100000 in
theorem z36 : wZ (.lays "MotionFloorModel$Hall" "MotionFloorModel$Hall" "born" "I") := ⟨wT5 (List.mem_of_getElem? (i := 171) (by decide +kernel)), Or.inl rfl⟩
set_option maxRecDepth 100000 in
theorem z37 : wZ (.laysFinal "MotionFloorModel$Hall" "MotionFloorModel$Hall" "row" "[I") := ⟨wT5 (List.mem_of_getElem? (i := 173) (by decide +kernel)), Or.inl rfl⟩
set_option maxRecDepth 100000 in
theorem z38 : wZ (.laysFinal "MotionFloorModel$Hall" "MotionFloorModel$Hall" "draft" "[I") := ⟨wT5 (List.mem_of_getElem? (i := 175) (by decide +kernel)), Or.inl rfl⟩
set_option maxRecDepth 100000 in
theorem z39 : wZ (.laysFinal "MotionFloorModel$Hall" "MotionFloorModel$Hall" "desk" "[I") := ⟨wT5 (List.mem_of_getElem? (i := 177) (by decide +kernel)), Or.inl rfl⟩
set_option maxRecDepth 100000 in
theorem z40 : wZ (.laysFinal "MotionFloorModel$Hall" "MotionFloorModel$Hall" "lying" "[I") := ⟨wT5 (List.mem_of_getElem? (i := 179) (by decide +kernel)), Or.inl rfl⟩
set_option maxRecDepth 100000 in
theorem z41 : wZ (.lays "MotionFloorModel$Hall" "MotionFloorModel$Hall" "drafted" "I") := ⟨wT5 (List.mem_of_getElem? (i := 181) (by decide +kernel)), Or.inl rfl⟩
set_option maxRecDepth 100000 in
theorem z42 : wZ (.lays "MotionFloorModel$Hall" "MotionFloorModel$Hall" "draftTabled" "Z") := ⟨wT5 (List.mem_of_getElem? (i := 183) (by decide +kernel)), Or.inl rfl⟩
set_option maxRecDepth 100000 in
theorem z43 : wZ (.laysFinal "MotionFloorModel$Hall" "MotionFloorModel$Hall" "tabled" "[Z") := ⟨wT5 (List.mem_of_getElem? (i := 185) (by decide +kernel)), Or.inl rfl⟩
set_option maxRecDepth 100000 in
theorem z44 : wZ (.laysFinal "MotionFloorModel$Hall" "MotionFloorModel$Hall" "last" "[I") := ⟨wT5 (List.mem_of_getElem? (i := 187) (by decide +kernel)), Or.inl rfl⟩
set_option maxRecDepth 100000 in
theorem z45 : wZ (.lays "MotionFloorModel$Hall" "MotionFloorModel$Hall" "lastWords" "I") := ⟨wT5 (List.mem_of_getElem? (i := 189) (by decide +kernel)), Or.inl rfl⟩
set_option maxRecDepth 100000 in
theorem z46 : wZ (.laysFinal "MotionFloorModel$Hall" "MotionFloorModel$Hall" "minutes" "[I") := ⟨wT5 (List.mem_of_getElem? (i := 191) (by decide +kernel)), Or.inl rfl⟩
set_option maxRecDepth 100000 in
theorem z47 : wZ (.laysFinal "MotionFloorModel$Hall" "MotionFloorModel$Hall" "result" "[I") := ⟨wT5 (List.mem_of_getElem? (i := 193) (by decide +kernel)), Or.inl rfl⟩
theorem zcX11 : GoodIn lw_tbl wsX110 := by
  show GoodIn lw_tbl [.lays "MotionFloorModel$Hall" "MotionFloorModel$Hall" "seats" "I", .lays "MotionFloorModel$Hall" "MotionFloorModel$Hall" "there" "I", .lays "MotionFloorModel$Hall" "MotionFloorModel$Hall" "chair" "I", .lays "MotionFloorModel$Hall" "MotionFloorModel$Hall" "quorum" "I", .lays "MotionFloorModel$Hall" "MotionFloorModel$Hall" "limit" "I", .lays "MotionFloorModel$Hall" "MotionFloorModel$Hall" "floor" "I", .lays "MotionFloorModel$Hall" "MotionFloorModel$Hall" "pending" "I", .lays "MotionFloorModel$Hall" "MotionFloorModel$Hall" "entries" "I", .lays "MotionFloorModel$Hall" "MotionFloorModel$Hall" "results" "I", .lays "MotionFloorModel$Hall" "MotionFloorModel$Hall" "adopted" "I", .lays "MotionFloorModel$Hall" "MotionFloorModel$Hall" "why" "I", .laysFinal "MotionFloorModel$Hall" "MotionFloorModel$Hall" "isThere" "[Z", .laysFinal "MotionFloorModel$Hall" "MotionFloorModel$Hall" "majority" "[I", .laysFinal "MotionFloorModel$Hall" "MotionFloorModel$Hall" "used" "[Z", .laysFinal "MotionFloorModel$Hall" "MotionFloorModel$Hall" "kind" "[I", .laysFinal "MotionFloorModel$Hall" "MotionFloorModel$Hall" "mover" "[I", .laysFinal "MotionFloorModel$Hall" "MotionFloorModel$Hall" "seconder" "[I", .laysFinal "MotionFloorModel$Hall" "MotionFloorModel$Hall" "floors" "[I", .laysFinal "MotionFloorModel$Hall" "MotionFloorModel$Hall" "speeches" "[I", .laysFinal "MotionFloorModel$Hall" "MotionFloorModel$Hall" "words" "[I", .laysFinal "MotionFloorModel$Hall" "MotionFloorModel$Hall" "from" "[I", .laysFinal "MotionFloorModel$Hall" "MotionFloorModel$Hall" "to" "[I", .laysFinal "MotionFloorModel$Hall" "MotionFloorModel$Hall" "self" "[I", .laysFinal "MotionFloorModel$Hall" "MotionFloorModel$Hall" "subject" "[I", .laysFinal "MotionFloorModel$Hall" "MotionFloorModel$Hall" "closed" "[Z", .laysFinal "MotionFloorModel$Hall" "MotionFloorModel$Hall" "laid" "[Z", .laysFinal "MotionFloorModel$Hall" "MotionFloorModel$Hall" "outside" "[Z", .laysFinal "MotionFloorModel$Hall" "MotionFloorModel$Hall" "letter" "[Z", .laysFinal "MotionFloorModel$Hall" "MotionFloorModel$Hall" "text" "[I", .laysFinal "MotionFloorModel$Hall" "MotionFloorModel$Hall" "ballot" "[B", .lays "MotionFloorModel$Hall" "MotionFloorModel$Hall" "born" "I", .laysFinal "MotionFloorModel$Hall" "MotionFloorModel$Hall" "row" "[I", .laysFinal "MotionFloorModel$Hall" "MotionFloorModel$Hall" "draft" "[I", .laysFinal "MotionFloorModel$Hall" "MotionFloorModel$Hall" "desk" "[I", .laysFinal "MotionFloorModel$Hall" "MotionFloorModel$Hall" "lying" "[I", .lays "MotionFloorModel$Hall" "MotionFloorModel$Hall" "drafted" "I", .lays "MotionFloorModel$Hall" "MotionFloorModel$Hall" "draftTabled" "Z", .laysFinal "MotionFloorModel$Hall" "MotionFloorModel$Hall" "tabled" "[Z", .laysFinal "MotionFloorModel$Hall" "MotionFloorModel$Hall" "last" "[I", .lays "MotionFloorModel$Hall" "MotionFloorModel$Hall" "lastWords" "I", .laysFinal "MotionFloorModel$Hall" "MotionFloorModel$Hall" "minutes" "[I", .laysFinal "MotionFloorModel$Hall" "MotionFloorModel$Hall" "result" "[I"]
  exact wGc z6 (wGc z7 (wGc z8 (wGc z9 (wGc z10 (wGc z11 (wGc z12 (wGc z13 (wGc z14 (wGc z15 (wGc z16 (wGc z17 (wGc z18 (wGc z19 (wGc z20 (wGc z21 (wGc z22 (wGc z23 (wGc z24 (wGc z25 (wGc z26 (wGc z27 (wGc z28 (wGc z29 (wGc z30 (wGc z31 (wGc z32 (wGc z33 (wGc z34 (wGc z35 (wGc z36 (wGc z37 (wGc z38 (wGc z39 (wGc z40 (wGc z41 (wGc z42 (wGc z43 (wGc z44 (wGc z45 (wGc z46 (wGc z47 (wG0))))))))))))))))))))))))))))))))))))))))))
set_option maxRecDepth 100000 in
theorem z48 : wZ (.fieldLink RX11 96 "MotionFloorModel$Hall" "seats" "I") := ⟨wT5 (List.mem_of_getElem? (i := 34) (by decide +kernel)), Or.inl rfl⟩
set_option maxRecDepth 100000 in
theorem z49 : wZ (.code yX11_isSeat cX11_isSeat 2 (some .boolean)) := ⟨wT6 (List.mem_of_getElem? (i := 4) rfl), Or.inl rfl⟩
def f_X11_isSeat (S : HS) (x1 : Int32) : Int32 × HS := ((f_X12_in x1 0 ((S.1 0) - 1)), S)
def p_X11_isSeat (S : HS) (x1 : Int32) : Prop := (p_X12_in x1 0 ((S.1 0) - 1)) ∧ (narrow .boolean (.int (f_X12_in x1 0 ((S.1 0) - 1))) = .int (f_X12_in x1 0 ((S.1 0) - 1))) ∧ True
def e_X11_isSeat : List Cond := [.fieldLink RX11 96 "MotionFloorModel$Hall" "seats" "I", .initialized RX12, .static yX12_in]
def v_X11_isSeat : List Cond := .code yX11_isSeat cX11_isSeat 2 (some .boolean) :: (e_X11_isSeat ++ (wsX110 ++ (v_X12_in ++ [])))
theorem te_X11_isSeat : GoodIn lw_tbl e_X11_isSeat := wGc z48 (wGc z1 (wGc z2 (wG0)))
theorem t_X11_isSeat : GoodIn lw_tbl v_X11_isSeat := wGc z49 (wGa te_X11_isSeat (wGa zcX11 (wGa t_X12_in (wG0))))
set_option maxHeartbeats 4000000 in
set_option maxRecDepth 100000 in
theorem c_X11_isSeat (l : Launch) (G : va_G) (K : Nat → ClassId) (h : Nat) (g : Nat → Nat) (S0 : HS) (a1 : Int32) (sz : Nat) : Met l yX11_isSeat v_X11_isSeat ({ frames := 1, cells := 0, slots := 0, locals := 22 }) (va_Pc [.ref h, .int a1] (hS G K h g sz S0 (p_X11_isSeat S0 a1))) (va_Qi (fun (r : Int32) (u : HS) => (r, u) = f_X11_isSeat S0 a1) (hB G K h g (va_A (hW K h g S0) sz)) (va_A (hW K h g S0) sz)) 0 0 (va_A (hW K h g S0) sz) := by
  refine Met.ofW (cc := cX11_isSeat) (maxL := 2) (ret := (some .boolean)) (by decide) rfl ?_
  intro p e s m args below meth c s₁ B hml hv
  obtain ⟨rfl, ⟨hsz, hP, hK, hD0, hTE⟩, hp⟩ := hv
  have hx := B.exec
  have hb := B.bytes
  have hr := B.returns
  have hts := atoms_spec (ws := v_X11_isSeat) B.pre
  have t_ := t_X11_isSeat
  have mw : ∀ w ∈ e_X11_isSeat, w ∈ v_X11_isSeat := fun w h => List.mem_cons_of_mem _ (List.mem_append_left _ h)
  have hw := fun w (h : w ∈ e_X11_isSeat) => hts w (mw w h)
  have iX11 : ∀ w ∈ wsX110, w ∈ v_X11_isSeat := fun w h => List.mem_cons_of_mem _ (List.mem_append_right _ (List.mem_append_left _ h))
  have j_X12_in : ∀ w ∈ v_X12_in, w ∈ v_X11_isSeat := fun w h => List.mem_cons_of_mem _ (List.mem_append_right _ (List.mem_append_right _ (List.mem_append_left _ h)))
  have hown : s.vm.findClass RX11 = some m.cls := findClass_of_methodNamed B.named
  have hlocks := B.notSynchronized
  subst hsz
  have hD := hD0.self (sz := s.heap.size)
  generalize hAe : va_A (hW K h g S0) s.heap.size = A at hD ⊢
  have hA : ∀ q : Nat, s.heap.size ≤ q → A q := fun q h => by rw [← hAe]; exact Or.inr h
  have hS : va_S A s.heap s.heap [] := va_S.rf
  have hl := lv_entry ([.ref h, .int a1]) (n := 2) (Nat.le_of_ble_eq_true rfl)
  rw [lg_entry_eq]
  generalize (lg_sl ([.ref h, .int a1]) ++ List.replicate (2 - (lg_sl ([.ref h, .int a1])).length) Slot.unset).toArray = ls at hl ⊢
  have hl : lv_has ls 2 [(0, .ref h), (1, .int a1)] := hl
  refine wGen (fun Q hQ => ?_)
  obtain ⟨X, hX⟩ : ∃ X, f_X11_isSeat S0 a1 = X := ⟨_, rfl⟩
  have B_M : ∀ (S : HS) (x1 : Int32) (H : Heap) (locs : List Loc) (ls : Array Slot), f_X11_isSeat S x1 = X → p_X11_isSeat S x1 → va_P G vwCl (hW K h g S) H → va_D A (hW K h g S) → va_S A s.heap H locs → lv_has ls 2 [(0, .ref h), (1, .int x1)] → W p l e ({ frames := 1, cells := 0, slots := 0, locals := 22 } : Room) s m #[Value.ref h, Value.int a1] below meth c H locs 0 0 Q (F0 m 0 ls []) := by
    intro S x1 H locs ls hE hp hP hD hS hl
    unfold f_X11_isSeat at hE
    unfold p_X11_isSeat at hp
    refine lv_iload_n hx hb dX11_isSeat_0 rfl (lv_at hl 1 rfl) ?_
    refine lv_iconst (v := 0) hx hb dX11_isSeat_1 (by decide) ?_
    refine lv_aload_n hx hb dX11_isSeat_2 rfl (lv_at hl 0 rfl) ?_
    refine va_get (D := G) (ci := 8) (v := .int (S.1 0)) (C := RX11) (T := TX11) (N := 42) hx hb hts iX11 hown hK hP 0 rfl rfl 0 (by decide) (hw (.fieldLink RX11 96 "MotionFloorModel$Hall" "seats" "I") (List.mem_of_getElem? (i := 0) rfl)) (fun _ h9 => h9) rfl dX11_isSeat_3 ?_
    refine lv_iconst (v := 1) hx hb dX11_isSeat_6 (by decide) ?_
    refine lv_isub hx hb dX11_isSeat_7 ?_
    obtain ⟨hy1, hp⟩ := hp
    refine nGoi (va_runSN (As := [.int x1, .int 0, .int ((S.1 0) - 1)]) (rest := []) ⟨hx, hb, hml, hown, hts⟩ (c_X12_in l G K x1 0 ((S.1 0) - 1) _) ⟨va_cnB (host := "MotionFloorModel") 3 hts (wGP t_ j_X12_in) rfl rfl rfl hTE.2.2.2.2.2.2.2.2.2.1 (hw (.initialized RX12) (List.mem_of_getElem? (i := 1) rfl)) (by decide +kernel) ⟨Nat.le_of_ble_eq_true rfl, Nat.le_of_ble_eq_true rfl⟩, (hw (.static yX12_in) (List.mem_of_getElem? (i := 2) rfl)), trivial⟩ (nPS hK hTE hy1) rfl rfl hl.1 rfl (lv_room (Nat.le_of_ble_eq_true rfl)) dX11_isSeat_8 ⟨Nat.le_of_ble_eq_true rfl, Nat.le_of_ble_eq_true rfl⟩) hP hS hA (fun r H locs hv hP hS => ?_)
    subst hv
    obtain ⟨hy2, hp⟩ := hp
    subst hQ
    exact W.zret (v := (f_X12_in x1 0 ((S.1 0) - 1))) (ty := .boolean) hx hb hr hy2 (fun t ht hW => ⟨⟨(f_X12_in x1 0 ((S.1 0) - 1)), S, rfl, hE.trans hX.symm, by rw [ht]; exact hP, hD⟩, hS.F ht⟩) hS.2.2 dX11_isSeat_11
  exact B_M S0 a1 _ _ _ hX hp hP hD hS hl
theorem gdX11_isHere_0 : ckS (List.drop 0 cX11_isHere.data.toList) 0 [(0, .aload_n 0, 1), (1, .iload_n 1, 1), (2, .invokevirtual 140, 3), (5, .ifCond .eq 16, 3), (8, .aload_n 0, 1), (9, .getfield 9, 3), (12, .iload_n 1, 1), (13, .baload, 1), (14, .ifCond .eq 7, 3), (17, .iconst 1, 1), (18, .goto 4, 3), (21, .iconst 0, 1), (22, .ireturn, 1)] = true := by decide +kernel
theorem dX11_isHere_0 : decode cX11_isHere 0 = .ok (.aload_n 0, 1) := ckS_g gdX11_isHere_0 0 rfl
theorem dX11_isHere_1 : decode cX11_isHere 1 = .ok (.iload_n 1, 1) := ckS_g gdX11_isHere_0 1 rfl
theorem dX11_isHere_2 : decode cX11_isHere 2 = .ok (.invokevirtual 140, 3) := ckS_g gdX11_isHere_0 2 rfl
theorem dX11_isHere_5 : decode cX11_isHere 5 = .ok (.ifCond .eq 16, 3) := ckS_g gdX11_isHere_0 3 rfl
theorem dX11_isHere_8 : decode cX11_isHere 8 = .ok (.aload_n 0, 1) := ckS_g gdX11_isHere_0 4 rfl
theorem dX11_isHere_9 : decode cX11_isHere 9 = .ok (.getfield 9, 3) := ckS_g gdX11_isHere_0 5 rfl
theorem dX11_isHere_12 : decode cX11_isHere 12 = .ok (.iload_n 1, 1) := ckS_g gdX11_isHere_0 6 rfl
theorem dX11_isHere_13 : decode cX11_isHere 13 = .ok (.baload, 1) := ckS_g gdX11_isHere_0 7 rfl
theorem dX11_isHere_14 : decode cX11_isHere 14 = .ok (.ifCond .eq 7, 3) := ckS_g gdX11_isHere_0 8 rfl
theorem dX11_isHere_17 : decode cX11_isHere 17 = .ok (.iconst 1, 1) := ckS_g gdX11_isHere_0 9 rfl
theorem dX11_isHere_18 : decode cX11_isHere 18 = .ok (.goto 4, 3) := ckS_g gdX11_isHere_0 10 rfl
theorem dX11_isHere_21 : decode cX11_isHere 21 = .ok (.iconst 0, 1) := ckS_g gdX11_isHere_0 11 rfl
theorem dX11_isHere_22 : decode cX11_isHere 22 = .ok (.ireturn, 1) := ckS_g gdX11_isHere_0 12 rfl
set_option maxRecDepth 100000 in
theorem z50 : wZ (.fieldLink RX11 9 "MotionFloorModel$Hall" "isThere" "[Z") := ⟨wT5 (List.mem_of_getElem? (i := 56) (by decide +kernel)), Or.inl rfl⟩
set_option maxRecDepth 100000 in
theorem z51 : wZ (.initialized RX11) := ⟨wT1 (List.mem_of_getElem? (i := 11) (by decide +kernel)), Or.inl rfl⟩
set_option maxRecDepth 100000 in
theorem z52 : wZ (.selects RX11 yX11_isSeat yX11_isSeat) := ⟨List.mem_append_left _ (List.mem_of_getElem? (i := 3) (by decide +kernel)), Or.inl rfl⟩
set_option maxRecDepth 100000 in
theorem z53 : wZ (.instanceMethod yX11_isSeat) := ⟨wT6 (List.mem_of_getElem? (i := 3) (by decide +kernel)), Or.inl rfl⟩
set_option maxRecDepth 100000 in
theorem z54 : wZ (.methodLink RX11 140 yX11_isSeat) := ⟨wT6 (List.mem_of_getElem? (i := 1) (by decide +kernel)), Or.inl rfl⟩
set_option maxRecDepth 100000 in
theorem z55 : wZ (.code yX11_isHere cX11_isHere 2 (some .boolean)) := ⟨wT6 (List.mem_of_getElem? (i := 52) rfl), Or.inl rfl⟩
def b_X11_isHere_22 (S : HS) (x1 y0 : Int32) : Int32 × HS := (y0, S)
def q_X11_isHere_22 (S : HS) (x1 y0 : Int32) : Prop := (narrow .boolean (.int y0) = .int y0) ∧ True
def b_X11_isHere_21 (S : HS) (x1 : Int32) : Int32 × HS := (b_X11_isHere_22 S x1 0)
def q_X11_isHere_21 (S : HS) (x1 : Int32) : Prop := (q_X11_isHere_22 S x1 0)
def b_X11_isHere_a5 (S : HS) (x1 y0 : Int32) : Int32 × HS := if y0 = 0 then (b_X11_isHere_21 S x1) else if (S.2 11 x1.toNatClampNeg) = 0 then (b_X11_isHere_21 S x1) else (b_X11_isHere_22 S x1 1)
def q_X11_isHere_a5 (S : HS) (x1 y0 : Int32) : Prop := (if y0 = 0 then (q_X11_isHere_21 S x1) else (vp_in x1 200) ∧ (if (S.2 11 x1.toNatClampNeg) = 0 then (q_X11_isHere_21 S x1) else (q_X11_isHere_22 S x1 1)))
def f_X11_isHere (S : HS) (x1 : Int32) : Int32 × HS := (b_X11_isHere_a5 (f_X11_isSeat S x1).2 x1 (f_X11_isSeat S x1).1)
def p_X11_isHere (S : HS) (x1 : Int32) : Prop := (p_X11_isSeat S x1) ∧ (q_X11_isHere_a5 (f_X11_isSeat S x1).2 x1 (f_X11_isSeat S x1).1)
def e_X11_isHere : List Cond := [.methodLink RX11 140 yX11_isSeat, .instanceMethod yX11_isSeat, .selects RX11 yX11_isSeat yX11_isSeat, .initialized RX11, .fieldLink RX11 9 "MotionFloorModel$Hall" "isThere" "[Z"]
def v_X11_isHere : List Cond := .code yX11_isHere cX11_isHere 2 (some .boolean) :: (e_X11_isHere ++ (wsX110 ++ (v_X11_isSeat ++ [])))
theorem te_X11_isHere : GoodIn lw_tbl e_X11_isHere := wGc z54 (wGc z53 (wGc z52 (wGc z51 (wGc z50 (wG0)))))
theorem t_X11_isHere : GoodIn lw_tbl v_X11_isHere := wGc z55 (wGa te_X11_isHere (wGa zcX11 (wGa t_X11_isSeat (wG0))))
set_option maxHeartbeats 4000000 in
set_option maxRecDepth 100000 in
theorem c_X11_isHere (l : Launch) (G : va_G) (K : Nat → ClassId) (h : Nat) (g : Nat → Nat) (S0 : HS) (a1 : Int32) (sz : Nat) : Met l yX11_isHere v_X11_isHere ({ frames := 2, cells := 0, slots := 0, locals := 43 }) (va_Pc [.ref h, .int a1] (hS G K h g sz S0 (p_X11_isHere S0 a1))) (va_Qi (fun (r : Int32) (u : HS) => (r, u) = f_X11_isHere S0 a1) (hB G K h g (va_A (hW K h g S0) sz)) (va_A (hW K h g S0) sz)) 0 0 (va_A (hW K h g S0) sz) := by
  refine Met.ofW (cc := cX11_isHere) (maxL := 2) (ret := (some .boolean)) (by decide) rfl ?_
  intro p e s m args below meth c s₁ B hml hv
  obtain ⟨rfl, ⟨hsz, hP, hK, hD0, hTE⟩, hp⟩ := hv
  have hx := B.exec
  have hb := B.bytes
  have hr := B.returns
  have hts := atoms_spec (ws := v_X11_isHere) B.pre
  have t_ := t_X11_isHere
  have mw : ∀ w ∈ e_X11_isHere, w ∈ v_X11_isHere := fun w h => List.mem_cons_of_mem _ (List.mem_append_left _ h)
  have hw := fun w (h : w ∈ e_X11_isHere) => hts w (mw w h)
  have iX11 : ∀ w ∈ wsX110, w ∈ v_X11_isHere := fun w h => List.mem_cons_of_mem _ (List.mem_append_right _ (List.mem_append_left _ h))
  have j_X11_isSeat : ∀ w ∈ v_X11_isSeat, w ∈ v_X11_isHere := fun w h => List.mem_cons_of_mem _ (List.mem_append_right _ (List.mem_append_right _ (List.mem_append_left _ h)))
  have hown : s.vm.findClass RX11 = some m.cls := findClass_of_methodNamed B.named
  have hlocks := B.notSynchronized
  subst hsz
  have hD := hD0.self (sz := s.heap.size)
  generalize hAe : va_A (hW K h g S0) s.heap.size = A at hD ⊢
  have hA : ∀ q : Nat, s.heap.size ≤ q → A q := fun q h => by rw [← hAe]; exact Or.inr h
  have hS : va_S A s.heap s.heap [] := va_S.rf
  have hl := lv_entry ([.ref h, .int a1]) (n := 2) (Nat.le_of_ble_eq_true rfl)
  rw [lg_entry_eq]
  generalize (lg_sl ([.ref h, .int a1]) ++ List.replicate (2 - (lg_sl ([.ref h, .int a1])).length) Slot.unset).toArray = ls at hl ⊢
  have hl : lv_has ls 2 [(0, .ref h), (1, .int a1)] := hl
  refine wGen (fun Q hQ => ?_)
  obtain ⟨X, hX⟩ : ∃ X, f_X11_isHere S0 a1 = X := ⟨_, rfl⟩
  have B_22 : ∀ (S : HS) (x1 y0 : Int32) (H : Heap) (locs : List Loc) (ls : Array Slot), b_X11_isHere_22 S x1 y0 = X → q_X11_isHere_22 S x1 y0 → va_P G vwCl (hW K h g S) H → va_D A (hW K h g S) → va_S A s.heap H locs → lv_has ls 2 [(0, .ref h), (1, .int x1)] → W p l e ({ frames := 2, cells := 0, slots := 0, locals := 43 } : Room) s m #[Value.ref h, Value.int a1] below meth c H locs 0 0 Q (F0 m 22 ls [.int y0]) := by
    intro S x1 y0 H locs ls hE hp hP hD hS hl
    unfold b_X11_isHere_22 at hE
    unfold q_X11_isHere_22 at hp
    obtain ⟨hy5, hp⟩ := hp
    subst hQ
    exact W.zret (v := y0) (ty := .boolean) hx hb hr hy5 (fun t ht hW => ⟨⟨y0, S, rfl, hE.trans hX.symm, by rw [ht]; exact hP, hD⟩, hS.F ht⟩) hS.2.2 dX11_isHere_22
  have B_21 : ∀ (S : HS) (x1 : Int32) (H : Heap) (locs : List Loc) (ls : Array Slot), b_X11_isHere_21 S x1 = X → q_X11_isHere_21 S x1 → va_P G vwCl (hW K h g S) H → va_D A (hW K h g S) → va_S A s.heap H locs → lv_has ls 2 [(0, .ref h), (1, .int x1)] → W p l e ({ frames := 2, cells := 0, slots := 0, locals := 43 } : Room) s m #[Value.ref h, Value.int a1] below meth c H locs 0 0 Q (F0 m 21 ls []) := by
    intro S x1 H locs ls hE hp hP hD hS hl
    unfold b_X11_isHere_21 at hE
    unfold q_X11_isHere_21 at hp
    refine lv_iconst (v := 0) hx hb dX11_isHere_21 (by decide) ?_
    exact B_22 S x1 0 _ _ _ hE hp hP hD hS (lv_sub hl [0, 1] rfl)
  have B_M : ∀ (S : HS) (x1 : Int32) (H : Heap) (locs : List Loc) (ls : Array Slot), f_X11_isHere S x1 = X → p_X11_isHere S x1 → va_P G vwCl (hW K h g S) H → va_D A (hW K h g S) → va_S A s.heap H locs → lv_has ls 2 [(0, .ref h), (1, .int x1)] → W p l e ({ frames := 2, cells := 0, slots := 0, locals := 43 } : Room) s m #[Value.ref h, Value.int a1] below meth c H locs 0 0 Q (F0 m 0 ls []) := by
    intro S x1 H locs ls hE hp hP hD hS hl
    unfold f_X11_isHere at hE
    unfold p_X11_isHere at hp
    refine lv_aload_n hx hb dX11_isHere_0 rfl (lv_at hl 0 rfl) ?_
    refine lv_iload_n hx hb dX11_isHere_1 rfl (lv_at hl 1 rfl) ?_
    obtain ⟨hy1, hp⟩ := hp
    refine hGoi (va_runV (As := [.int x1]) (rest := []) ⟨hx, hb, hml, hown, hts⟩ (c_X11_isSeat l G K h g S x1 _) (cwV 1 hts (wGV t_ (mw (.methodLink RX11 140 yX11_isSeat) (List.mem_of_getElem? (i := 0) rfl)) (mw (.instanceMethod yX11_isSeat) (List.mem_of_getElem? (i := 1) rfl)) (mw (.selects RX11 yX11_isSeat yX11_isSeat) (List.mem_of_getElem? (i := 2) rfl)) (mw (.initialized RX11) (List.mem_of_getElem? (i := 3) rfl)) j_X11_isSeat) rfl rfl rfl (by decide +kernel) ⟨Nat.le_of_ble_eq_true rfl, Nat.le_of_ble_eq_true rfl⟩) (hPV hK hTE hP hD hy1) rfl rfl hl.1 rfl (lv_room (Nat.le_of_ble_eq_true rfl)) dX11_isHere_2 ⟨Nat.le_of_ble_eq_true rfl, Nat.le_of_ble_eq_true rfl⟩) hP hD hS hA (fun r3 u2 H locs hv hP hD hS => ?_)
    rw [← hv] at hE hp
    dsimp only at hE hp
    unfold b_X11_isHere_a5 at hE
    unfold q_X11_isHere_a5 at hp
    refine lv_if_eq (tgt := 21) hx hb dX11_isHere_5 (by decide) (fun c4 => ?_) (fun c4 => ?_)
    · rw [if_pos c4] at hE hp
      exact B_21 u2 x1 _ _ _ hE hp hP hD hS (lv_sub hl [0, 1] rfl)
    · rw [if_neg c4] at hE hp
      refine lv_aload_n hx hb dX11_isHere_8 rfl (lv_at hl 0 rfl) ?_
      refine va_get (D := G) (ci := 8) (v := .ref (g 11)) (C := RX11) (T := TX11) (N := 42) hx hb hts iX11 hown hK hP 0 rfl rfl 11 (by decide) (hw (.fieldLink RX11 9 "MotionFloorModel$Hall" "isThere" "[Z") (List.mem_of_getElem? (i := 4) rfl)) (fun _ h9 => h9) rfl dX11_isHere_9 ?_
      refine lv_iload_n hx hb dX11_isHere_12 rfl (lv_at hl 1 rfl) ?_
      obtain ⟨hy6, hp⟩ := hp
      refine va_zald hx hb hK hP 1 1 rfl rfl hy6 dX11_isHere_13 ?_
      refine lv_if_eq (tgt := 21) hx hb dX11_isHere_14 (by decide) (fun c7 => ?_) (fun c7 => ?_)
      · rw [if_pos c7] at hE hp
        exact B_21 u2 x1 _ _ _ hE hp hP hD hS (lv_sub hl [0, 1] rfl)
      · rw [if_neg c7] at hE hp
        refine lv_iconst (v := 1) hx hb dX11_isHere_17 (by decide) ?_
        refine lv_goto (tgt := 22) hx hb dX11_isHere_18 (by decide) ?_
        exact B_22 u2 x1 1 _ _ _ hE hp hP hD hS (lv_sub hl [0, 1] rfl)
  exact B_M S0 a1 _ _ _ hX hp hP hD hS hl
theorem gdX11_top_0 : ckS (List.drop 0 cX11_top.data.toList) 0 [(0, .aload_n 0, 1), (1, .getfield 72, 3), (4, .aload_n 0, 1), (5, .getfield 115, 3), (8, .iconst 1, 1), (9, .isub, 1), (10, .iaload, 1), (11, .ireturn, 1)] = true := by decide +kernel
theorem dX11_top_0 : decode cX11_top 0 = .ok (.aload_n 0, 1) := ckS_g gdX11_top_0 0 rfl
theorem dX11_top_1 : decode cX11_top 1 = .ok (.getfield 72, 3) := ckS_g gdX11_top_0 1 rfl
theorem dX11_top_4 : decode cX11_top 4 = .ok (.aload_n 0, 1) := ckS_g gdX11_top_0 2 rfl
theorem dX11_top_5 : decode cX11_top 5 = .ok (.getfield 115, 3) := ckS_g gdX11_top_0 3 rfl
theorem dX11_top_8 : decode cX11_top 8 = .ok (.iconst 1, 1) := ckS_g gdX11_top_0 4 rfl
theorem dX11_top_9 : decode cX11_top 9 = .ok (.isub, 1) := ckS_g gdX11_top_0 5 rfl
theorem dX11_top_10 : decode cX11_top 10 = .ok (.iaload, 1) := ckS_g gdX11_top_0 6 rfl
theorem dX11_top_11 : decode cX11_top 11 = .ok (.ireturn, 1) := ckS_g gdX11_top_0 7 rfl
set_option maxRecDepth 100000 in
theorem z56 : wZ (.fieldLink RX11 115 "MotionFloorModel$Hall" "pending" "I") := ⟨wT5 (List.mem_of_getElem? (i := 46) (by decide +kernel)), Or.inl rfl⟩
set_option maxRecDepth 100000 in
theorem z57 : wZ (.fieldLink RX11 72 "MotionFloorModel$Hall" "row" "[I") := ⟨wT5 (List.mem_of_getElem? (i := 90) (by decide +kernel)), Or.inl rfl⟩
set_option maxRecDepth 100000 in
theorem z58 : wZ (.code yX11_top cX11_top 1 (some .int)) := ⟨wT6 (List.mem_of_getElem? (i := 9) rfl), Or.inl rfl⟩
def f_X11_top (S : HS)  : Int32 × HS := ((S.2 31 ((S.1 6) - 1).toNatClampNeg), S)
def p_X11_top (S : HS)  : Prop := (vp_in ((S.1 6) - 1) 9) ∧ True
def e_X11_top : List Cond := [.fieldLink RX11 72 "MotionFloorModel$Hall" "row" "[I", .fieldLink RX11 115 "MotionFloorModel$Hall" "pending" "I"]
def v_X11_top : List Cond := .code yX11_top cX11_top 1 (some .int) :: (e_X11_top ++ (wsX110 ++ []))
theorem te_X11_top : GoodIn lw_tbl e_X11_top := wGc z57 (wGc z56 (wG0))
theorem t_X11_top : GoodIn lw_tbl v_X11_top := wGc z58 (wGa te_X11_top (wGa zcX11 (wG0)))
set_option maxHeartbeats 4000000 in
set_option maxRecDepth 100000 in
theorem c_X11_top (l : Launch) (G : va_G) (K : Nat → ClassId) (h : Nat) (g : Nat → Nat) (S0 : HS)  (sz : Nat) : Met l yX11_top v_X11_top ({ frames := 0, cells := 0, slots := 0, locals := 0 }) (va_Pc [.ref h] (hS G K h g sz S0 (p_X11_top S0))) (va_Qi (fun (r : Int32) (u : HS) => (r, u) = f_X11_top S0) (hB G K h g (va_A (hW K h g S0) sz)) (va_A (hW K h g S0) sz)) 0 0 (va_A (hW K h g S0) sz) := by
  refine Met.ofW (cc := cX11_top) (maxL := 1) (ret := (some .int)) (by decide) rfl ?_
  intro p e s m args below meth c s₁ B hml hv
  obtain ⟨rfl, ⟨hsz, hP, hK, hD0, hTE⟩, hp⟩ := hv
  have hx := B.exec
  have hb := B.bytes
  have hr := B.returns
  have hts := atoms_spec (ws := v_X11_top) B.pre
  have t_ := t_X11_top
  have mw : ∀ w ∈ e_X11_top, w ∈ v_X11_top := fun w h => List.mem_cons_of_mem _ (List.mem_append_left _ h)
  have hw := fun w (h : w ∈ e_X11_top) => hts w (mw w h)
  have iX11 : ∀ w ∈ wsX110, w ∈ v_X11_top := fun w h => List.mem_cons_of_mem _ (List.mem_append_right _ (List.mem_append_left _ h))
  have hown : s.vm.findClass RX11 = some m.cls := findClass_of_methodNamed B.named
  have hlocks := B.notSynchronized
  subst hsz
  have hD := hD0.self (sz := s.heap.size)
  generalize hAe : va_A (hW K h g S0) s.heap.size = A at hD ⊢
  have hA : ∀ q : Nat, s.heap.size ≤ q → A q := fun q h => by rw [← hAe]; exact Or.inr h
  have hS : va_S A s.heap s.heap [] := va_S.rf
  have hl := lv_entry ([.ref h]) (n := 1) (Nat.le_of_ble_eq_true rfl)
  rw [lg_entry_eq]
  generalize (lg_sl ([.ref h]) ++ List.replicate (1 - (lg_sl ([.ref h])).length) Slot.unset).toArray = ls at hl ⊢
  have hl : lv_has ls 1 [(0, .ref h)] := hl
  refine wGen (fun Q hQ => ?_)
  obtain ⟨X, hX⟩ : ∃ X, f_X11_top S0 = X := ⟨_, rfl⟩
  have B_M : ∀ (S : HS) (H : Heap) (locs : List Loc) (ls : Array Slot), f_X11_top S = X → p_X11_top S → va_P G vwCl (hW K h g S) H → va_D A (hW K h g S) → va_S A s.heap H locs → lv_has ls 1 [(0, .ref h)] → W p l e ({ frames := 0, cells := 0, slots := 0, locals := 0 } : Room) s m #[Value.ref h] below meth c H locs 0 0 Q (F0 m 0 ls []) := by
    intro S H locs ls hE hp hP hD hS hl
    unfold f_X11_top at hE
    unfold p_X11_top at hp
    refine lv_aload_n hx hb dX11_top_0 rfl (lv_at hl 0 rfl) ?_
    refine va_get (D := G) (ci := 8) (v := .ref (g 31)) (C := RX11) (T := TX11) (N := 42) hx hb hts iX11 hown hK hP 0 rfl rfl 31 (by decide) (hw (.fieldLink RX11 72 "MotionFloorModel$Hall" "row" "[I") (List.mem_of_getElem? (i := 0) rfl)) (fun _ h9 => h9) rfl dX11_top_1 ?_
    refine lv_aload_n hx hb dX11_top_4 rfl (lv_at hl 0 rfl) ?_
    refine va_get (D := G) (ci := 8) (v := .int (S.1 6)) (C := RX11) (T := TX11) (N := 42) hx hb hts iX11 hown hK hP 0 rfl rfl 6 (by decide) (hw (.fieldLink RX11 115 "MotionFloorModel$Hall" "pending" "I") (List.mem_of_getElem? (i := 1) rfl)) (fun _ h9 => h9) rfl dX11_top_5 ?_
    refine lv_iconst (v := 1) hx hb dX11_top_8 (by decide) ?_
    refine lv_isub hx hb dX11_top_9 ?_
    obtain ⟨hy1, hp⟩ := hp
    refine va_iald hx hb hK hP 20 0 rfl rfl hy1 dX11_top_10 ?_
    subst hQ
    exact W.iret (v := (S.2 31 ((S.1 6) - 1).toNatClampNeg)) hx hb hr (fun t ht hW => ⟨⟨(S.2 31 ((S.1 6) - 1).toNatClampNeg), S, rfl, hE.trans hX.symm, by rw [ht]; exact hP, hD⟩, hS.F ht⟩) hS.2.2 dX11_top_11
  exact B_M S0 _ _ _ hX hp hP hD hS hl
theorem gdX11_anew_0 : ckS (List.drop 0 cX11_anew.data.toList) 0 [(0, .aload_n 0, 1), (1, .dup, 1), (2, .getfield 148, 3), (5, .iconst 1, 1), (6, .iadd, 1), (7, .putfield 148, 3), (10, .aload_n 0, 1), (11, .getfield 46, 3), (14, .iload_n 1, 1), (15, .aload_n 0, 1), (16, .getfield 148, 3), (19, .iastore, 1), (20, .aload_n 0, 1), (21, .getfield 31, 3), (24, .iload_n 1, 1), (25, .iconst 0, 1), (26, .iastore, 1), (27, .aload_n 0, 1), (28, .getfield 34, 3), (31, .iload_n 1, 1), (32, .iconst 0, 1), (33, .iastore, 1), (34, .aload_n 0, 1), (35, .getfield 52, 3), (38, .iload_n 1, 1), (39, .iconst 0, 1), (40, .bastore, 1), (41, .iconst 0, 1), (42, .istore_n 2, 1), (43, .iload_n 2, 1), (44, .sipush 200, 3), (47, .if_icmp .ge 22, 3), (50, .aload_n 0, 1), (51, .getfield 68, 3), (54, .sipush 200, 3), (57, .iload_n 1, 1), (58, .imul, 1), (59, .iload_n 2, 1), (60, .iadd, 1), (61, .iconst 2, 1)] = true := by decide +kernel
theorem dX11_anew_0 : decode cX11_anew 0 = .ok (.aload_n 0, 1) := ckS_g gdX11_anew_0 0 rfl
theorem dX11_anew_1 : decode cX11_anew 1 = .ok (.dup, 1) := ckS_g gdX11_anew_0 1 rfl
theorem dX11_anew_2 : decode cX11_anew 2 = .ok (.getfield 148, 3) := ckS_g gdX11_anew_0 2 rfl
theorem dX11_anew_5 : decode cX11_anew 5 = .ok (.iconst 1, 1) := ckS_g gdX11_anew_0 3 rfl
theorem dX11_anew_6 : decode cX11_anew 6 = .ok (.iadd, 1) := ckS_g gdX11_anew_0 4 rfl
theorem dX11_anew_7 : decode cX11_anew 7 = .ok (.putfield 148, 3) := ckS_g gdX11_anew_0 5 rfl
theorem dX11_anew_10 : decode cX11_anew 10 = .ok (.aload_n 0, 1) := ckS_g gdX11_anew_0 6 rfl
theorem dX11_anew_11 : decode cX11_anew 11 = .ok (.getfield 46, 3) := ckS_g gdX11_anew_0 7 rfl
theorem dX11_anew_14 : decode cX11_anew 14 = .ok (.iload_n 1, 1) := ckS_g gdX11_anew_0 8 rfl
theorem dX11_anew_15 : decode cX11_anew 15 = .ok (.aload_n 0, 1) := ckS_g gdX11_anew_0 9 rfl
theorem dX11_anew_16 : decode cX11_anew 16 = .ok (.getfield 148, 3) := ckS_g gdX11_anew_0 10 rfl
theorem dX11_anew_19 : decode cX11_anew 19 = .ok (.iastore, 1) := ckS_g gdX11_anew_0 11 rfl
theorem dX11_anew_20 : decode cX11_anew 20 = .ok (.aload_n 0, 1) := ckS_g gdX11_anew_0 12 rfl
theorem dX11_anew_21 : decode cX11_anew 21 = .ok (.getfield 31, 3) := ckS_g gdX11_anew_0 13 rfl
theorem dX11_anew_24 : decode cX11_anew 24 = .ok (.iload_n 1, 1) := ckS_g gdX11_anew_0 14 rfl
theorem dX11_anew_25 : decode cX11_anew 25 = .ok (.iconst 0, 1) := ckS_g gdX11_anew_0 15 rfl
theorem dX11_anew_26 : decode cX11_anew 26 = .ok (.iastore, 1) := ckS_g gdX11_anew_0 16 rfl
theorem dX11_anew_27 : decode cX11_anew 27 = .ok (.aload_n 0, 1) := ckS_g gdX11_anew_0 17 rfl
theorem dX11_anew_28 : decode cX11_anew 28 = .ok (.getfield 34, 3) := ckS_g gdX11_anew_0 18 rfl
theorem dX11_anew_31 : decode cX11_anew 31 = .ok (.iload_n 1, 1) := ckS_g gdX11_anew_0 19 rfl
theorem dX11_anew_32 : decode cX11_anew 32 = .ok (.iconst 0, 1) := ckS_g gdX11_anew_0 20 rfl
theorem dX11_anew_33 : decode cX11_anew 33 = .ok (.iastore, 1) := ckS_g gdX11_anew_0 21 rfl
theorem dX11_anew_34 : decode cX11_anew 34 = .ok (.aload_n 0, 1) := ckS_g gdX11_anew_0 22 rfl
theorem dX11_anew_35 : decode cX11_anew 35 = .ok (.getfield 52, 3) := ckS_g gdX11_anew_0 23 rfl
theorem dX11_anew_38 : decode cX11_anew 38 = .ok (.iload_n 1, 1) := ckS_g gdX11_anew_0 24 rfl
theorem dX11_anew_39 : decode cX11_anew 39 = .ok (.iconst 0, 1) := ckS_g gdX11_anew_0 25 rfl
theorem dX11_anew_40 : decode cX11_anew 40 = .ok (.bastore, 1) := ckS_g gdX11_anew_0 26 rfl
theorem dX11_anew_41 : decode cX11_anew 41 = .ok (.iconst 0, 1) := ckS_g gdX11_anew_0 27 rfl
theorem dX11_anew_42 : decode cX11_anew 42 = .ok (.istore_n 2, 1) := ckS_g gdX11_anew_0 28 rfl
theorem dX11_anew_43 : decode cX11_anew 43 = .ok (.iload_n 2, 1) := ckS_g gdX11_anew_0 29 rfl
theorem dX11_anew_44 : decode cX11_anew 44 = .ok (.sipush 200, 3) := ckS_g gdX11_anew_0 30 rfl
theorem dX11_anew_47 : decode cX11_anew 47 = .ok (.if_icmp .ge 22, 3) := ckS_g gdX11_anew_0 31 rfl
theorem dX11_anew_50 : decode cX11_anew 50 = .ok (.aload_n 0, 1) := ckS_g gdX11_anew_0 32 rfl
theorem dX11_anew_51 : decode cX11_anew 51 = .ok (.getfield 68, 3) := ckS_g gdX11_anew_0 33 rfl
theorem dX11_anew_54 : decode cX11_anew 54 = .ok (.sipush 200, 3) := ckS_g gdX11_anew_0 34 rfl
theorem dX11_anew_57 : decode cX11_anew 57 = .ok (.iload_n 1, 1) := ckS_g gdX11_anew_0 35 rfl
theorem dX11_anew_58 : decode cX11_anew 58 = .ok (.imul, 1) := ckS_g gdX11_anew_0 36 rfl
theorem dX11_anew_59 : decode cX11_anew 59 = .ok (.iload_n 2, 1) := ckS_g gdX11_anew_0 37 rfl
theorem dX11_anew_60 : decode cX11_anew 60 = .ok (.iadd, 1) := ckS_g gdX11_anew_0 38 rfl
theorem dX11_anew_61 : decode cX11_anew 61 = .ok (.iconst 2, 1) := ckS_g gdX11_anew_0 39 rfl
theorem gdX11_anew_62 : ckS (List.drop 62 cX11_anew.data.toList) 62 [(62, .bastore, 1), (63, .iinc 2 1, 3), (66, .goto (-23), 3), (69, .return_, 1)] = true := by decide +kernel
theorem dX11_anew_62 : decode cX11_anew 62 = .ok (.bastore, 1) := ckS_g gdX11_anew_62 0 rfl
theorem dX11_anew_63 : decode cX11_anew 63 = .ok (.iinc 2 1, 3) := ckS_g gdX11_anew_62 1 rfl
theorem dX11_anew_66 : decode cX11_anew 66 = .ok (.goto (-23), 3) := ckS_g gdX11_anew_62 2 rfl
theorem dX11_anew_69 : decode cX11_anew 69 = .ok (.return_, 1) := ckS_g gdX11_anew_62 3 rfl
theorem gdX11_newSlot_0 : ckS (List.drop 0 cX11_newSlot.data.toList) 0 [(0, .iconst 0, 1), (1, .istore_n 2, 1), (2, .aload_n 0, 1), (3, .getfield 19, 3), (6, .iload_n 2, 1), (7, .baload, 1), (8, .ifCond .eq 9, 3), (17, .aload_n 0, 1), (18, .getfield 19, 3), (21, .iload_n 2, 1), (22, .iconst 1, 1), (23, .bastore, 1), (24, .aload_n 0, 1), (25, .getfield 22, 3), (28, .iload_n 2, 1), (29, .iload_n 1, 1), (30, .iastore, 1), (31, .aload_n 0, 1), (32, .getfield 25, 3), (35, .iload_n 2, 1), (36, .iconst (-1), 1), (37, .iastore, 1), (38, .aload_n 0, 1), (39, .getfield 37, 3), (42, .iload_n 2, 1), (43, .iconst 0, 1), (44, .iastore, 1), (45, .aload_n 0, 1), (46, .getfield 40, 3), (49, .iload_n 2, 1), (50, .iconst 0, 1), (51, .iastore, 1), (52, .aload_n 0, 1), (53, .getfield 43, 3), (56, .iload_n 2, 1), (57, .iconst 0, 1), (58, .iastore, 1), (59, .aload_n 0, 1), (60, .getfield 49, 3), (63, .iload_n 2, 1)] = true := by decide +kernel
theorem dX11_newSlot_0 : decode cX11_newSlot 0 = .ok (.iconst 0, 1) := ckS_g gdX11_newSlot_0 0 rfl
theorem dX11_newSlot_1 : decode cX11_newSlot 1 = .ok (.istore_n 2, 1) := ckS_g gdX11_newSlot_0 1 rfl
theorem dX11_newSlot_2 : decode cX11_newSlot 2 = .ok (.aload_n 0, 1) := ckS_g gdX11_newSlot_0 2 rfl
theorem dX11_newSlot_3 : decode cX11_newSlot 3 = .ok (.getfield 19, 3) := ckS_g gdX11_newSlot_0 3 rfl
theorem dX11_newSlot_6 : decode cX11_newSlot 6 = .ok (.iload_n 2, 1) := ckS_g gdX11_newSlot_0 4 rfl
theorem dX11_newSlot_7 : decode cX11_newSlot 7 = .ok (.baload, 1) := ckS_g gdX11_newSlot_0 5 rfl
theorem dX11_newSlot_8 : decode cX11_newSlot 8 = .ok (.ifCond .eq 9, 3) := ckS_g gdX11_newSlot_0 6 rfl
theorem dX11_newSlot_17 : decode cX11_newSlot 17 = .ok (.aload_n 0, 1) := ckS_g gdX11_newSlot_0 7 rfl
theorem dX11_newSlot_18 : decode cX11_newSlot 18 = .ok (.getfield 19, 3) := ckS_g gdX11_newSlot_0 8 rfl
theorem dX11_newSlot_21 : decode cX11_newSlot 21 = .ok (.iload_n 2, 1) := ckS_g gdX11_newSlot_0 9 rfl
theorem dX11_newSlot_22 : decode cX11_newSlot 22 = .ok (.iconst 1, 1) := ckS_g gdX11_newSlot_0 10 rfl
theorem dX11_newSlot_23 : decode cX11_newSlot 23 = .ok (.bastore, 1) := ckS_g gdX11_newSlot_0 11 rfl
theorem dX11_newSlot_24 : decode cX11_newSlot 24 = .ok (.aload_n 0, 1) := ckS_g gdX11_newSlot_0 12 rfl
theorem dX11_newSlot_25 : decode cX11_newSlot 25 = .ok (.getfield 22, 3) := ckS_g gdX11_newSlot_0 13 rfl
theorem dX11_newSlot_28 : decode cX11_newSlot 28 = .ok (.iload_n 2, 1) := ckS_g gdX11_newSlot_0 14 rfl
theorem dX11_newSlot_29 : decode cX11_newSlot 29 = .ok (.iload_n 1, 1) := ckS_g gdX11_newSlot_0 15 rfl
theorem dX11_newSlot_30 : decode cX11_newSlot 30 = .ok (.iastore, 1) := ckS_g gdX11_newSlot_0 16 rfl
theorem dX11_newSlot_31 : decode cX11_newSlot 31 = .ok (.aload_n 0, 1) := ckS_g gdX11_newSlot_0 17 rfl
theorem dX11_newSlot_32 : decode cX11_newSlot 32 = .ok (.getfield 25, 3) := ckS_g gdX11_newSlot_0 18 rfl
theorem dX11_newSlot_35 : decode cX11_newSlot 35 = .ok (.iload_n 2, 1) := ckS_g gdX11_newSlot_0 19 rfl
theorem dX11_newSlot_36 : decode cX11_newSlot 36 = .ok (.iconst (-1), 1) := ckS_g gdX11_newSlot_0 20 rfl
theorem dX11_newSlot_37 : decode cX11_newSlot 37 = .ok (.iastore, 1) := ckS_g gdX11_newSlot_0 21 rfl
theorem dX11_newSlot_38 : decode cX11_newSlot 38 = .ok (.aload_n 0, 1) := ckS_g gdX11_newSlot_0 22 rfl
theorem dX11_newSlot_39 : decode cX11_newSlot 39 = .ok (.getfield 37, 3) := ckS_g gdX11_newSlot_0 23 rfl
theorem dX11_newSlot_42 : decode cX11_newSlot 42 = .ok (.iload_n 2, 1) := ckS_g gdX11_newSlot_0 24 rfl
theorem dX11_newSlot_43 : decode cX11_newSlot 43 = .ok (.iconst 0, 1) := ckS_g gdX11_newSlot_0 25 rfl
theorem dX11_newSlot_44 : decode cX11_newSlot 44 = .ok (.iastore, 1) := ckS_g gdX11_newSlot_0 26 rfl
theorem dX11_newSlot_45 : decode cX11_newSlot 45 = .ok (.aload_n 0, 1) := ckS_g gdX11_newSlot_0 27 rfl
theorem dX11_newSlot_46 : decode cX11_newSlot 46 = .ok (.getfield 40, 3) := ckS_g gdX11_newSlot_0 28 rfl
theorem dX11_newSlot_49 : decode cX11_newSlot 49 = .ok (.iload_n 2, 1) := ckS_g gdX11_newSlot_0 29 rfl
theorem dX11_newSlot_50 : decode cX11_newSlot 50 = .ok (.iconst 0, 1) := ckS_g gdX11_newSlot_0 30 rfl
theorem dX11_newSlot_51 : decode cX11_newSlot 51 = .ok (.iastore, 1) := ckS_g gdX11_newSlot_0 31 rfl
theorem dX11_newSlot_52 : decode cX11_newSlot 52 = .ok (.aload_n 0, 1) := ckS_g gdX11_newSlot_0 32 rfl
theorem dX11_newSlot_53 : decode cX11_newSlot 53 = .ok (.getfield 43, 3) := ckS_g gdX11_newSlot_0 33 rfl
theorem dX11_newSlot_56 : decode cX11_newSlot 56 = .ok (.iload_n 2, 1) := ckS_g gdX11_newSlot_0 34 rfl
theorem dX11_newSlot_57 : decode cX11_newSlot 57 = .ok (.iconst 0, 1) := ckS_g gdX11_newSlot_0 35 rfl
theorem dX11_newSlot_58 : decode cX11_newSlot 58 = .ok (.iastore, 1) := ckS_g gdX11_newSlot_0 36 rfl
theorem dX11_newSlot_59 : decode cX11_newSlot 59 = .ok (.aload_n 0, 1) := ckS_g gdX11_newSlot_0 37 rfl
theorem dX11_newSlot_60 : decode cX11_newSlot 60 = .ok (.getfield 49, 3) := ckS_g gdX11_newSlot_0 38 rfl
theorem dX11_newSlot_63 : decode cX11_newSlot 63 = .ok (.iload_n 2, 1) := ckS_g gdX11_newSlot_0 39 rfl
theorem gdX11_newSlot_64 : ckS (List.drop 64 cX11_newSlot.data.toList) 64 [(64, .iconst 0, 1), (65, .iastore, 1), (66, .aload_n 0, 1), (67, .getfield 55, 3), (70, .iload_n 2, 1), (71, .iconst 0, 1), (72, .bastore, 1), (73, .aload_n 0, 1), (74, .getfield 58, 3), (77, .iload_n 2, 1), (78, .iconst 0, 1), (79, .bastore, 1), (80, .aload_n 0, 1), (81, .getfield 61, 3), (84, .iload_n 2, 1), (85, .iconst 0, 1), (86, .bastore, 1), (87, .aload_n 0, 1), (88, .iload_n 2, 1), (89, .invokevirtual 144, 3)] = true := by decide +kernel
theorem dX11_newSlot_64 : decode cX11_newSlot 64 = .ok (.iconst 0, 1) := ckS_g gdX11_newSlot_64 0 rfl
theorem dX11_newSlot_65 : decode cX11_newSlot 65 = .ok (.iastore, 1) := ckS_g gdX11_newSlot_64 1 rfl
theorem dX11_newSlot_66 : decode cX11_newSlot 66 = .ok (.aload_n 0, 1) := ckS_g gdX11_newSlot_64 2 rfl
theorem dX11_newSlot_67 : decode cX11_newSlot 67 = .ok (.getfield 55, 3) := ckS_g gdX11_newSlot_64 3 rfl
theorem dX11_newSlot_70 : decode cX11_newSlot 70 = .ok (.iload_n 2, 1) := ckS_g gdX11_newSlot_64 4 rfl
theorem dX11_newSlot_71 : decode cX11_newSlot 71 = .ok (.iconst 0, 1) := ckS_g gdX11_newSlot_64 5 rfl
theorem dX11_newSlot_72 : decode cX11_newSlot 72 = .ok (.bastore, 1) := ckS_g gdX11_newSlot_64 6 rfl
theorem dX11_newSlot_73 : decode cX11_newSlot 73 = .ok (.aload_n 0, 1) := ckS_g gdX11_newSlot_64 7 rfl
theorem dX11_newSlot_74 : decode cX11_newSlot 74 = .ok (.getfield 58, 3) := ckS_g gdX11_newSlot_64 8 rfl
theorem dX11_newSlot_77 : decode cX11_newSlot 77 = .ok (.iload_n 2, 1) := ckS_g gdX11_newSlot_64 9 rfl
theorem dX11_newSlot_78 : decode cX11_newSlot 78 = .ok (.iconst 0, 1) := ckS_g gdX11_newSlot_64 10 rfl
theorem dX11_newSlot_79 : decode cX11_newSlot 79 = .ok (.bastore, 1) := ckS_g gdX11_newSlot_64 11 rfl
theorem dX11_newSlot_80 : decode cX11_newSlot 80 = .ok (.aload_n 0, 1) := ckS_g gdX11_newSlot_64 12 rfl
theorem dX11_newSlot_81 : decode cX11_newSlot 81 = .ok (.getfield 61, 3) := ckS_g gdX11_newSlot_64 13 rfl
theorem dX11_newSlot_84 : decode cX11_newSlot 84 = .ok (.iload_n 2, 1) := ckS_g gdX11_newSlot_64 14 rfl
theorem dX11_newSlot_85 : decode cX11_newSlot 85 = .ok (.iconst 0, 1) := ckS_g gdX11_newSlot_64 15 rfl
theorem dX11_newSlot_86 : decode cX11_newSlot 86 = .ok (.bastore, 1) := ckS_g gdX11_newSlot_64 16 rfl
theorem dX11_newSlot_87 : decode cX11_newSlot 87 = .ok (.aload_n 0, 1) := ckS_g gdX11_newSlot_64 17 rfl
theorem dX11_newSlot_88 : decode cX11_newSlot 88 = .ok (.iload_n 2, 1) := ckS_g gdX11_newSlot_64 18 rfl
theorem dX11_newSlot_89 : decode cX11_newSlot 89 = .ok (.invokevirtual 144, 3) := ckS_g gdX11_newSlot_64 19 rfl
set_option maxRecDepth 100000 in
theorem z59 : wZ (.fieldLink RX11 68 "MotionFloorModel$Hall" "ballot" "[B") := ⟨wT5 (List.mem_of_getElem? (i := 87) (by decide +kernel)), Or.inl rfl⟩
set_option maxRecDepth 100000 in
theorem z60 : wZ (.fieldLink RX11 52 "MotionFloorModel$Hall" "closed" "[Z") := ⟨wT5 (List.mem_of_getElem? (i := 78) (by decide +kernel)), Or.inl rfl⟩
set_option maxRecDepth 100000 in
theorem z61 : wZ (.fieldLink RX11 34 "MotionFloorModel$Hall" "speeches" "[I") := ⟨wT5 (List.mem_of_getElem? (i := 68) (by decide +kernel)), Or.inl rfl⟩
set_option maxRecDepth 100000 in
theorem z62 : wZ (.fieldLink RX11 31 "MotionFloorModel$Hall" "floors" "[I") := ⟨wT5 (List.mem_of_getElem? (i := 66) (by decide +kernel)), Or.inl rfl⟩
set_option maxRecDepth 100000 in
theorem z63 : wZ (.fieldLink RX11 46 "MotionFloorModel$Hall" "self" "[I") := ⟨wT5 (List.mem_of_getElem? (i := 76) (by decide +kernel)), Or.inl rfl⟩
set_option maxRecDepth 100000 in
theorem z64 : wZ (.fieldLink RX11 148 "MotionFloorModel$Hall" "born" "I") := ⟨wT5 (List.mem_of_getElem? (i := 89) (by decide +kernel)), Or.inl rfl⟩
set_option maxRecDepth 100000 in
theorem z65 : wZ (.code yX11_anew cX11_anew 3 none) := ⟨wT6 (List.mem_of_getElem? (i := 68) rfl), Or.inl rfl⟩
def st_X11_anew_43 (S : HS) (x1 x2 : Int32) : (Int32 × HS) ⊕ (HS × Int32 × Int32) := if 200 ≤ x2 then Sum.inl ((0, S)) else Sum.inr ((sA S 29 ((200 * x1) + x2).toNatClampNeg (vp_nar .byte 2)), x1, (x2 + 1))
def ps_X11_anew_43 (S : HS) (x1 x2 : Int32) : Prop := (if 200 ≤ x2 then True else (vp_in ((200 * x1) + x2) 18000) ∧ True)
def lp_X11_anew_43 : Nat → HS → Int32 → Int32 → Int32 × HS
  | 0, S, _, _ => (0, S)
  | n + 1, S, x1, x2 => match st_X11_anew_43 S x1 x2 with
    | Sum.inl r => r
    | Sum.inr q => lp_X11_anew_43 n q.1 q.2.1 q.2.2
def lq_X11_anew_43 : Nat → HS → Int32 → Int32 → Prop
  | 0, _, _, _ => False
  | n + 1, S, x1, x2 => ps_X11_anew_43 S x1 x2 ∧ (match st_X11_anew_43 S x1 x2 with
    | Sum.inl _ => True
    | Sum.inr q => lq_X11_anew_43 n q.1 q.2.1 q.2.2)
def f_X11_anew (S : HS) (x1 : Int32) : Int32 × HS := (lp_X11_anew_43 100000 (sA (sA (sA (sA (sI S 30 ((S.1 30) + 1)) 22 x1.toNatClampNeg ((sI S 30 ((S.1 30) + 1)).1 30)) 17 x1.toNatClampNeg 0) 18 x1.toNatClampNeg 0) 24 x1.toNatClampNeg (vp_nar .boolean 0)) x1 0)
def p_X11_anew (S : HS) (x1 : Int32) : Prop := (vp_in x1 90) ∧ (vp_in x1 90) ∧ (vp_in x1 90) ∧ (vp_in x1 90) ∧ (lq_X11_anew_43 100000 (sA (sA (sA (sA (sI S 30 ((S.1 30) + 1)) 22 x1.toNatClampNeg ((sI S 30 ((S.1 30) + 1)).1 30)) 17 x1.toNatClampNeg 0) 18 x1.toNatClampNeg 0) 24 x1.toNatClampNeg (vp_nar .boolean 0)) x1 0)
def e_X11_anew : List Cond := [.fieldLink RX11 148 "MotionFloorModel$Hall" "born" "I", .fieldLink RX11 46 "MotionFloorModel$Hall" "self" "[I", .fieldLink RX11 31 "MotionFloorModel$Hall" "floors" "[I", .fieldLink RX11 34 "MotionFloorModel$Hall" "speeches" "[I", .fieldLink RX11 52 "MotionFloorModel$Hall" "closed" "[Z", .fieldLink RX11 68 "MotionFloorModel$Hall" "ballot" "[B"]
def v_X11_anew : List Cond := .code yX11_anew cX11_anew 3 none :: (e_X11_anew ++ (wsX110 ++ []))
theorem te_X11_anew : GoodIn lw_tbl e_X11_anew := wGc z64 (wGc z63 (wGc z62 (wGc z61 (wGc z60 (wGc z59 (wG0))))))
theorem t_X11_anew : GoodIn lw_tbl v_X11_anew := wGc z65 (wGa te_X11_anew (wGa zcX11 (wG0)))
set_option maxHeartbeats 4000000 in
set_option maxRecDepth 100000 in
theorem c_X11_anew (l : Launch) (G : va_G) (K : Nat → ClassId) (h : Nat) (g : Nat → Nat) (S0 : HS) (a1 : Int32) (sz : Nat) : Met l yX11_anew v_X11_anew ({ frames := 0, cells := 0, slots := 0, locals := 0 }) (va_Pc [.ref h, .int a1] (hS G K h g sz S0 (p_X11_anew S0 a1))) (va_Qv (fun u : HS => (0, u) = f_X11_anew S0 a1) (hB G K h g (va_A (hW K h g S0) sz)) (va_A (hW K h g S0) sz)) 0 0 (va_A (hW K h g S0) sz) := by
  refine Met.ofW (cc := cX11_anew) (maxL := 3) (ret := none) (by decide) rfl ?_
  intro p e s m args below meth c s₁ B hml hv
  obtain ⟨rfl, ⟨hsz, hP, hK, hD0, hTE⟩, hp⟩ := hv
  have hx := B.exec
  have hb := B.bytes
  have hr := B.returns
  have hts := atoms_spec (ws := v_X11_anew) B.pre
  have t_ := t_X11_anew
  have mw : ∀ w ∈ e_X11_anew, w ∈ v_X11_anew := fun w h => List.mem_cons_of_mem _ (List.mem_append_left _ h)
  have hw := fun w (h : w ∈ e_X11_anew) => hts w (mw w h)
  have iX11 : ∀ w ∈ wsX110, w ∈ v_X11_anew := fun w h => List.mem_cons_of_mem _ (List.mem_append_right _ (List.mem_append_left _ h))
  have hown : s.vm.findClass RX11 = some m.cls := findClass_of_methodNamed B.named
  have hlocks := B.notSynchronized
  subst hsz
  have hD := hD0.self (sz := s.heap.size)
  generalize hAe : va_A (hW K h g S0) s.heap.size = A at hD ⊢
  have hA : ∀ q : Nat, s.heap.size ≤ q → A q := fun q h => by rw [← hAe]; exact Or.inr h
  have hS : va_S A s.heap s.heap [] := va_S.rf
  have hl := lv_entry ([.ref h, .int a1]) (n := 3) (Nat.le_of_ble_eq_true rfl)
  rw [lg_entry_eq]
  generalize (lg_sl ([.ref h, .int a1]) ++ List.replicate (3 - (lg_sl ([.ref h, .int a1])).length) Slot.unset).toArray = ls at hl ⊢
  have hl : lv_has ls 3 [(0, .ref h), (1, .int a1)] := hl
  refine wGen (fun Q hQ => ?_)
  obtain ⟨X, hX⟩ : ∃ X, f_X11_anew S0 a1 = X := ⟨_, rfl⟩
  have L_43 : ∀ (n : Nat) (S : HS) (x1 x2 : Int32) (H : Heap) (locs : List Loc) (ls : Array Slot), lp_X11_anew_43 n S x1 x2 = X → lq_X11_anew_43 n S x1 x2 → va_P G vwCl (hW K h g S) H → va_D A (hW K h g S) → va_S A s.heap H locs → lv_has ls 3 [(0, .ref h), (1, .int x1), (2, .int x2)] → W p l e ({ frames := 0, cells := 0, slots := 0, locals := 0 } : Room) s m #[Value.ref h, Value.int a1] below meth c H locs 0 0 Q (F0 m 43 ls []) := by
    intro n1
    induction n1 with
    | zero => intro S x1 x2 H locs ls hE hp; exact False.elim hp
    | succ n1 ih1 =>
      intro S x1 x2 H locs ls hO1 hp hP hD hS hl
      rw [lp_X11_anew_43] at hO1
      rw [lq_X11_anew_43] at hp
      obtain ⟨hp, hq1⟩ := hp
      generalize hE : st_X11_anew_43 S x1 x2 = Y1 at hO1 hq1
      unfold st_X11_anew_43 at hE
      unfold ps_X11_anew_43 at hp
      refine lv_iload_n hx hb dX11_anew_43 rfl (lv_at hl 2 rfl) ?_
      refine lv_sipush (v := 200) hx hb dX11_anew_44 (by decide) ?_
      refine lv_icmp_ge (tgt := 69) hx hb dX11_anew_47 (by decide) (fun c5 => ?_) (fun c5 => ?_)
      · rw [if_pos c5] at hE hp
        subst hE
        have hE := hO1
        dsimp only at hE
        subst hQ
        exact W.vret hx hb hr (fun t ht hW => ⟨⟨S, rfl, hE.trans hX.symm, by rw [ht]; exact hP, hD⟩, hS.F ht⟩) hS.2.2 dX11_anew_69
      · rw [if_neg c5] at hE hp
        refine lv_aload_n hx hb dX11_anew_50 rfl (lv_at hl 0 rfl) ?_
        refine va_get (D := G) (ci := 8) (v := .ref (g 29)) (C := RX11) (T := TX11) (N := 42) hx hb hts iX11 hown hK hP 0 rfl rfl 29 (by decide) (hw (.fieldLink RX11 68 "MotionFloorModel$Hall" "ballot" "[B") (List.mem_of_getElem? (i := 5) rfl)) (fun _ h9 => h9) rfl dX11_anew_51 ?_
        refine lv_sipush (v := 200) hx hb dX11_anew_54 (by decide) ?_
        refine lv_iload_n hx hb dX11_anew_57 rfl (lv_at hl 1 rfl) ?_
        refine lv_imul hx hb dX11_anew_58 ?_
        refine lv_iload_n hx hb dX11_anew_59 rfl (lv_at hl 2 rfl) ?_
        refine lv_iadd hx hb dX11_anew_60 ?_
        refine lv_iconst (v := 2) hx hb dX11_anew_61 (by decide) ?_
        obtain ⟨hy6, hp⟩ := hp
        refine va_bast hx hb hK hP hD hS 19 2 rfl rfl hy6 dX11_anew_62 (fun H locs hP hD hS => ?_)
        rw [sA_29] at hP hD
        refine lv_iinc (v := (x2 + 1)) (lv' := [(2, .int (x2 + 1)), (0, .ref h), (1, .int x1)]) hx hb dX11_anew_63 hl (k := 2) rfl rfl (by decide) rfl (fun ls hl => ?_)
        refine lv_goto (tgt := 43) hx hb dX11_anew_66 (by decide) ?_
        subst hE
        dsimp only at hO1 hq1
        exact ih1 (sA S 29 ((200 * x1) + x2).toNatClampNeg (vp_nar .byte 2)) x1 (x2 + 1) _ _ _ hO1 hq1 hP hD hS (lv_sub hl [1, 2, 0] rfl)
  have B_M : ∀ (S : HS) (x1 : Int32) (H : Heap) (locs : List Loc) (ls : Array Slot), f_X11_anew S x1 = X → p_X11_anew S x1 → va_P G vwCl (hW K h g S) H → va_D A (hW K h g S) → va_S A s.heap H locs → lv_has ls 3 [(0, .ref h), (1, .int x1)] → W p l e ({ frames := 0, cells := 0, slots := 0, locals := 0 } : Room) s m #[Value.ref h, Value.int a1] below meth c H locs 0 0 Q (F0 m 0 ls []) := by
    intro S x1 H locs ls hE hp hP hD hS hl
    unfold f_X11_anew at hE
    unfold p_X11_anew at hp
    refine lv_aload_n hx hb dX11_anew_0 rfl (lv_at hl 0 rfl) ?_
    refine lv_dup hx hb dX11_anew_1 rfl ?_
    refine va_get (D := G) (ci := 8) (v := .int (S.1 30)) (C := RX11) (T := TX11) (N := 42) hx hb hts iX11 hown hK hP 0 rfl rfl 30 (by decide) (hw (.fieldLink RX11 148 "MotionFloorModel$Hall" "born" "I") (List.mem_of_getElem? (i := 0) rfl)) (fun _ h9 => h9) rfl dX11_anew_2 ?_
    refine lv_iconst (v := 1) hx hb dX11_anew_5 (by decide) ?_
    refine lv_iadd hx hb dX11_anew_6 ?_
    refine va_put (D := G) (ci := 8) (v := .int ((S.1 30) + 1)) (ty := .int) (C := RX11) (T := TX11) (N := 42) hx hb hts iX11 tyX11 tyX11_ok nmX11 hown hK hP hD hS 0 rfl rfl 30 (by decide) (hw (.fieldLink RX11 148 "MotionFloorModel$Hall" "born" "I") (List.mem_of_getElem? (i := 0) rfl)) (fun _ h9 => h9) rfl (by decide +kernel) rfl rfl (Nat.le_of_ble_eq_true rfl) dX11_anew_7 (fun H locs hP hD hS => ?_)
    rw [sI_30] at hP hD
    refine lv_aload_n hx hb dX11_anew_10 rfl (lv_at hl 0 rfl) ?_
    refine va_get (D := G) (ci := 8) (v := .ref (g 22)) (C := RX11) (T := TX11) (N := 42) hx hb hts iX11 hown hK hP 0 rfl rfl 22 (by decide) (hw (.fieldLink RX11 46 "MotionFloorModel$Hall" "self" "[I") (List.mem_of_getElem? (i := 1) rfl)) (fun _ h9 => h9) rfl dX11_anew_11 ?_
    refine lv_iload_n hx hb dX11_anew_14 rfl (lv_at hl 1 rfl) ?_
    refine lv_aload_n hx hb dX11_anew_15 rfl (lv_at hl 0 rfl) ?_
    refine va_get (D := G) (ci := 8) (v := .int ((sI S 30 ((S.1 30) + 1)).1 30)) (C := RX11) (T := TX11) (N := 42) hx hb hts iX11 hown hK hP 0 rfl rfl 30 (by decide) (hw (.fieldLink RX11 148 "MotionFloorModel$Hall" "born" "I") (List.mem_of_getElem? (i := 0) rfl)) (fun _ h9 => h9) rfl dX11_anew_16 ?_
    obtain ⟨hy1, hp⟩ := hp
    refine va_iast hx hb hK hP hD hS 12 0 rfl rfl hy1 dX11_anew_19 (fun H locs hP hD hS => ?_)
    rw [sA_22] at hP hD
    refine lv_aload_n hx hb dX11_anew_20 rfl (lv_at hl 0 rfl) ?_
    refine va_get (D := G) (ci := 8) (v := .ref (g 17)) (C := RX11) (T := TX11) (N := 42) hx hb hts iX11 hown hK hP 0 rfl rfl 17 (by decide) (hw (.fieldLink RX11 31 "MotionFloorModel$Hall" "floors" "[I") (List.mem_of_getElem? (i := 2) rfl)) (fun _ h9 => h9) rfl dX11_anew_21 ?_
    refine lv_iload_n hx hb dX11_anew_24 rfl (lv_at hl 1 rfl) ?_
    refine lv_iconst (v := 0) hx hb dX11_anew_25 (by decide) ?_
    obtain ⟨hy2, hp⟩ := hp
    refine va_iast hx hb hK hP hD hS 7 0 rfl rfl hy2 dX11_anew_26 (fun H locs hP hD hS => ?_)
    rw [sA_17] at hP hD
    refine lv_aload_n hx hb dX11_anew_27 rfl (lv_at hl 0 rfl) ?_
    refine va_get (D := G) (ci := 8) (v := .ref (g 18)) (C := RX11) (T := TX11) (N := 42) hx hb hts iX11 hown hK hP 0 rfl rfl 18 (by decide) (hw (.fieldLink RX11 34 "MotionFloorModel$Hall" "speeches" "[I") (List.mem_of_getElem? (i := 3) rfl)) (fun _ h9 => h9) rfl dX11_anew_28 ?_
    refine lv_iload_n hx hb dX11_anew_31 rfl (lv_at hl 1 rfl) ?_
    refine lv_iconst (v := 0) hx hb dX11_anew_32 (by decide) ?_
    obtain ⟨hy3, hp⟩ := hp
    refine va_iast hx hb hK hP hD hS 8 0 rfl rfl hy3 dX11_anew_33 (fun H locs hP hD hS => ?_)
    rw [sA_18] at hP hD
    refine lv_aload_n hx hb dX11_anew_34 rfl (lv_at hl 0 rfl) ?_
    refine va_get (D := G) (ci := 8) (v := .ref (g 24)) (C := RX11) (T := TX11) (N := 42) hx hb hts iX11 hown hK hP 0 rfl rfl 24 (by decide) (hw (.fieldLink RX11 52 "MotionFloorModel$Hall" "closed" "[Z") (List.mem_of_getElem? (i := 4) rfl)) (fun _ h9 => h9) rfl dX11_anew_35 ?_
    refine lv_iload_n hx hb dX11_anew_38 rfl (lv_at hl 1 rfl) ?_
    refine lv_iconst (v := 0) hx hb dX11_anew_39 (by decide) ?_
    obtain ⟨hy4, hp⟩ := hp
    refine va_zast hx hb hK hP hD hS 14 1 rfl rfl hy4 dX11_anew_40 (fun H locs hP hD hS => ?_)
    rw [sA_24] at hP hD
    refine lv_iconst (v := 0) hx hb dX11_anew_41 (by decide) ?_
    refine lv_istore_n (lv' := [(2, .int 0), (0, .ref h), (1, .int x1)]) hx hb dX11_anew_42 rfl hl (by decide) rfl (fun ls hl => ?_)
    exact L_43 100000 (sA (sA (sA (sA (sI S 30 ((S.1 30) + 1)) 22 x1.toNatClampNeg ((sI S 30 ((S.1 30) + 1)).1 30)) 17 x1.toNatClampNeg 0) 18 x1.toNatClampNeg 0) 24 x1.toNatClampNeg (vp_nar .boolean 0)) x1 0 _ _ _ hE hp hP hD hS (lv_sub hl [1, 2, 0] rfl)
  exact B_M S0 a1 _ _ _ hX hp hP hD hS hl
theorem gdX11_newSlot_11 : ckS (List.drop 11 cX11_newSlot.data.toList) 11 [(11, .iinc 2 1, 3), (14, .goto (-12), 3), (92, .aload_n 0, 1), (93, .getfield 28, 3), (96, .iload_n 2, 1), (97, .iconst (-1), 1), (98, .iastore, 1), (99, .iload_n 2, 1), (100, .ireturn, 1)] = true := by decide +kernel
theorem dX11_newSlot_11 : decode cX11_newSlot 11 = .ok (.iinc 2 1, 3) := ckS_g gdX11_newSlot_11 0 rfl
theorem dX11_newSlot_14 : decode cX11_newSlot 14 = .ok (.goto (-12), 3) := ckS_g gdX11_newSlot_11 1 rfl
theorem dX11_newSlot_92 : decode cX11_newSlot 92 = .ok (.aload_n 0, 1) := ckS_g gdX11_newSlot_11 2 rfl
theorem dX11_newSlot_93 : decode cX11_newSlot 93 = .ok (.getfield 28, 3) := ckS_g gdX11_newSlot_11 3 rfl
theorem dX11_newSlot_96 : decode cX11_newSlot 96 = .ok (.iload_n 2, 1) := ckS_g gdX11_newSlot_11 4 rfl
theorem dX11_newSlot_97 : decode cX11_newSlot 97 = .ok (.iconst (-1), 1) := ckS_g gdX11_newSlot_11 5 rfl
theorem dX11_newSlot_98 : decode cX11_newSlot 98 = .ok (.iastore, 1) := ckS_g gdX11_newSlot_11 6 rfl
theorem dX11_newSlot_99 : decode cX11_newSlot 99 = .ok (.iload_n 2, 1) := ckS_g gdX11_newSlot_11 7 rfl
theorem dX11_newSlot_100 : decode cX11_newSlot 100 = .ok (.ireturn, 1) := ckS_g gdX11_newSlot_11 8 rfl
set_option maxRecDepth 100000 in
theorem z66 : wZ (.fieldLink RX11 28 "MotionFloorModel$Hall" "seconder" "[I") := ⟨wT5 (List.mem_of_getElem? (i := 64) (by decide +kernel)), Or.inl rfl⟩
set_option maxRecDepth 100000 in
theorem z67 : wZ (.selects RX11 yX11_anew yX11_anew) := ⟨List.mem_append_left _ (List.mem_of_getElem? (i := 16) (by decide +kernel)), Or.inl rfl⟩
set_option maxRecDepth 100000 in
theorem z68 : wZ (.instanceMethod yX11_anew) := ⟨wT6 (List.mem_of_getElem? (i := 67) (by decide +kernel)), Or.inl rfl⟩
set_option maxRecDepth 100000 in
theorem z69 : wZ (.methodLink RX11 144 yX11_anew) := ⟨wT6 (List.mem_of_getElem? (i := 65) (by decide +kernel)), Or.inl rfl⟩
set_option maxRecDepth 100000 in
theorem z70 : wZ (.fieldLink RX11 61 "MotionFloorModel$Hall" "letter" "[Z") := ⟨wT5 (List.mem_of_getElem? (i := 83) (by decide +kernel)), Or.inl rfl⟩
set_option maxRecDepth 100000 in
theorem z71 : wZ (.fieldLink RX11 58 "MotionFloorModel$Hall" "outside" "[Z") := ⟨wT5 (List.mem_of_getElem? (i := 81) (by decide +kernel)), Or.inl rfl⟩
set_option maxRecDepth 100000 in
theorem z72 : wZ (.fieldLink RX11 55 "MotionFloorModel$Hall" "laid" "[Z") := ⟨wT5 (List.mem_of_getElem? (i := 80) (by decide +kernel)), Or.inl rfl⟩
set_option maxRecDepth 100000 in
theorem z73 : wZ (.fieldLink RX11 49 "MotionFloorModel$Hall" "subject" "[I") := ⟨wT5 (List.mem_of_getElem? (i := 77) (by decide +kernel)), Or.inl rfl⟩
set_option maxRecDepth 100000 in
theorem z74 : wZ (.fieldLink RX11 43 "MotionFloorModel$Hall" "to" "[I") := ⟨wT5 (List.mem_of_getElem? (i := 74) (by decide +kernel)), Or.inl rfl⟩
set_option maxRecDepth 100000 in
theorem z75 : wZ (.fieldLink RX11 40 "MotionFloorModel$Hall" "from" "[I") := ⟨wT5 (List.mem_of_getElem? (i := 72) (by decide +kernel)), Or.inl rfl⟩
set_option maxRecDepth 100000 in
theorem z76 : wZ (.fieldLink RX11 37 "MotionFloorModel$Hall" "words" "[I") := ⟨wT5 (List.mem_of_getElem? (i := 70) (by decide +kernel)), Or.inl rfl⟩
set_option maxRecDepth 100000 in
theorem z77 : wZ (.fieldLink RX11 25 "MotionFloorModel$Hall" "mover" "[I") := ⟨wT5 (List.mem_of_getElem? (i := 62) (by decide +kernel)), Or.inl rfl⟩
set_option maxRecDepth 100000 in
theorem z78 : wZ (.fieldLink RX11 22 "MotionFloorModel$Hall" "kind" "[I") := ⟨wT5 (List.mem_of_getElem? (i := 60) (by decide +kernel)), Or.inl rfl⟩
set_option maxRecDepth 100000 in
theorem z79 : wZ (.fieldLink RX11 19 "MotionFloorModel$Hall" "used" "[Z") := ⟨wT5 (List.mem_of_getElem? (i := 59) (by decide +kernel)), Or.inl rfl⟩
set_option maxRecDepth 100000 in
theorem z80 : wZ (.code yX11_newSlot cX11_newSlot 3 (some .int)) := ⟨wT6 (List.mem_of_getElem? (i := 64) rfl), Or.inl rfl⟩
def b_X11_newSlot_a92 (S : HS) (x1 x2 : Int32) : Int32 × HS := (x2, (sA S 16 x2.toNatClampNeg (-1)))
def q_X11_newSlot_a92 (S : HS) (x1 x2 : Int32) : Prop := (vp_in x2 90) ∧ True
def st_X11_newSlot_2 (S : HS) (x1 x2 : Int32) : (Int32 × HS) ⊕ (HS × Int32 × Int32) := if (S.2 13 x2.toNatClampNeg) = 0 then Sum.inl ((b_X11_newSlot_a92 (f_X11_anew (sA (sA (sA (sA (sA (sA (sA (sA (sA (sA S 13 x2.toNatClampNeg (vp_nar .boolean 1)) 14 x2.toNatClampNeg x1) 15 x2.toNatClampNeg (-1)) 19 x2.toNatClampNeg 0) 20 x2.toNatClampNeg 0) 21 x2.toNatClampNeg 0) 23 x2.toNatClampNeg 0) 25 x2.toNatClampNeg (vp_nar .boolean 0)) 26 x2.toNatClampNeg (vp_nar .boolean 0)) 27 x2.toNatClampNeg (vp_nar .boolean 0)) x2).2 x1 x2)) else Sum.inr (S, x1, (x2 + 1))
def ps_X11_newSlot_2 (S : HS) (x1 x2 : Int32) : Prop := (vp_in x2 90) ∧ (if (S.2 13 x2.toNatClampNeg) = 0 then (vp_in x2 90) ∧ (vp_in x2 90) ∧ (vp_in x2 90) ∧ (vp_in x2 90) ∧ (vp_in x2 90) ∧ (vp_in x2 90) ∧ (vp_in x2 90) ∧ (vp_in x2 90) ∧ (vp_in x2 90) ∧ (vp_in x2 90) ∧ (p_X11_anew (sA (sA (sA (sA (sA (sA (sA (sA (sA (sA S 13 x2.toNatClampNeg (vp_nar .boolean 1)) 14 x2.toNatClampNeg x1) 15 x2.toNatClampNeg (-1)) 19 x2.toNatClampNeg 0) 20 x2.toNatClampNeg 0) 21 x2.toNatClampNeg 0) 23 x2.toNatClampNeg 0) 25 x2.toNatClampNeg (vp_nar .boolean 0)) 26 x2.toNatClampNeg (vp_nar .boolean 0)) 27 x2.toNatClampNeg (vp_nar .boolean 0)) x2) ∧ (q_X11_newSlot_a92 (f_X11_anew (sA (sA (sA (sA (sA (sA (sA (sA (sA (sA S 13 x2.toNatClampNeg (vp_nar .boolean 1)) 14 x2.toNatClampNeg x1) 15 x2.toNatClampNeg (-1)) 19 x2.toNatClampNeg 0) 20 x2.toNatClampNeg 0) 21 x2.toNatClampNeg 0) 23 x2.toNatClampNeg 0) 25 x2.toNatClampNeg (vp_nar .boolean 0)) 26 x2.toNatClampNeg (vp_nar .boolean 0)) 27 x2.toNatClampNeg (vp_nar .boolean 0)) x2).2 x1 x2) else True)
def lp_X11_newSlot_2 : Nat → HS → Int32 → Int32 → Int32 × HS
  | 0, S, _, _ => (0, S)
  | n + 1, S, x1, x2 => match st_X11_newSlot_2 S x1 x2 with
    | Sum.inl r => r
    | Sum.inr q => lp_X11_newSlot_2 n q.1 q.2.1 q.2.2
def lq_X11_newSlot_2 : Nat → HS → Int32 → Int32 → Prop
  | 0, _, _, _ => False
  | n + 1, S, x1, x2 => ps_X11_newSlot_2 S x1 x2 ∧ (match st_X11_newSlot_2 S x1 x2 with
    | Sum.inl _ => True
    | Sum.inr q => lq_X11_newSlot_2 n q.1 q.2.1 q.2.2)
def f_X11_newSlot (S : HS) (x1 : Int32) : Int32 × HS := (lp_X11_newSlot_2 100000 S x1 0)
def p_X11_newSlot (S : HS) (x1 : Int32) : Prop := (lq_X11_newSlot_2 100000 S x1 0)
def e_X11_newSlot : List Cond := [.fieldLink RX11 19 "MotionFloorModel$Hall" "used" "[Z", .fieldLink RX11 22 "MotionFloorModel$Hall" "kind" "[I", .fieldLink RX11 25 "MotionFloorModel$Hall" "mover" "[I", .fieldLink RX11 37 "MotionFloorModel$Hall" "words" "[I", .fieldLink RX11 40 "MotionFloorModel$Hall" "from" "[I", .fieldLink RX11 43 "MotionFloorModel$Hall" "to" "[I", .fieldLink RX11 49 "MotionFloorModel$Hall" "subject" "[I", .fieldLink RX11 55 "MotionFloorModel$Hall" "laid" "[Z", .fieldLink RX11 58 "MotionFloorModel$Hall" "outside" "[Z", .fieldLink RX11 61 "MotionFloorModel$Hall" "letter" "[Z", .methodLink RX11 144 yX11_anew, .instanceMethod yX11_anew, .selects RX11 yX11_anew yX11_anew, .initialized RX11, .fieldLink RX11 28 "MotionFloorModel$Hall" "seconder" "[I"]
def v_X11_newSlot : List Cond := .code yX11_newSlot cX11_newSlot 3 (some .int) :: (e_X11_newSlot ++ (wsX110 ++ (v_X11_anew ++ [])))
theorem te_X11_newSlot : GoodIn lw_tbl e_X11_newSlot := wGc z79 (wGc z78 (wGc z77 (wGc z76 (wGc z75 (wGc z74 (wGc z73 (wGc z72 (wGc z71 (wGc z70 (wGc z69 (wGc z68 (wGc z67 (wGc z51 (wGc z66 (wG0)))))))))))))))
theorem t_X11_newSlot : GoodIn lw_tbl v_X11_newSlot := wGc z80 (wGa te_X11_newSlot (wGa zcX11 (wGa t_X11_anew (wG0))))
set_option maxHeartbeats 4000000 in
set_option maxRecDepth 100000 in
theorem c_X11_newSlot (l : Launch) (G : va_G) (K : Nat → ClassId) (h : Nat) (g : Nat → Nat) (S0 : HS) (a1 : Int32) (sz : Nat) : Met l yX11_newSlot v_X11_newSlot ({ frames := 1, cells := 0, slots := 0, locals := 22 }) (va_Pc [.ref h, .int a1] (hS G K h g sz S0 (p_X11_newSlot S0 a1))) (va_Qi (fun (r : Int32) (u : HS) => (r, u) = f_X11_newSlot S0 a1) (hB G K h g (va_A (hW K h g S0) sz)) (va_A (hW K h g S0) sz)) 0 0 (va_A (hW K h g S0) sz) := by
  refine Met.ofW (cc := cX11_newSlot) (maxL := 3) (ret := (some .int)) (by decide) rfl ?_
  intro p e s m args below meth c s₁ B hml hv
  obtain ⟨rfl, ⟨hsz, hP, hK, hD0, hTE⟩, hp⟩ := hv
  have hx := B.exec
  have hb := B.bytes
  have hr := B.returns
  have hts := atoms_spec (ws := v_X11_newSlot) B.pre
  have t_ := t_X11_newSlot
  have mw : ∀ w ∈ e_X11_newSlot, w ∈ v_X11_newSlot := fun w h => List.mem_cons_of_mem _ (List.mem_append_left _ h)
  have hw := fun w (h : w ∈ e_X11_newSlot) => hts w (mw w h)
  have iX11 : ∀ w ∈ wsX110, w ∈ v_X11_newSlot := fun w h => List.mem_cons_of_mem _ (List.mem_append_right _ (List.mem_append_left _ h))
  have j_X11_anew : ∀ w ∈ v_X11_anew, w ∈ v_X11_newSlot := fun w h => List.mem_cons_of_mem _ (List.mem_append_right _ (List.mem_append_right _ (List.mem_append_left _ h)))
  have hown : s.vm.findClass RX11 = some m.cls := findClass_of_methodNamed B.named
  have hlocks := B.notSynchronized
  subst hsz
  have hD := hD0.self (sz := s.heap.size)
  generalize hAe : va_A (hW K h g S0) s.heap.size = A at hD ⊢
  have hA : ∀ q : Nat, s.heap.size ≤ q → A q := fun q h => by rw [← hAe]; exact Or.inr h
  have hS : va_S A s.heap s.heap [] := va_S.rf
  have hl := lv_entry ([.ref h, .int a1]) (n := 3) (Nat.le_of_ble_eq_true rfl)
  rw [lg_entry_eq]
  generalize (lg_sl ([.ref h, .int a1]) ++ List.replicate (3 - (lg_sl ([.ref h, .int a1])).length) Slot.unset).toArray = ls at hl ⊢
  have hl : lv_has ls 3 [(0, .ref h), (1, .int a1)] := hl
  refine wGen (fun Q hQ => ?_)
  obtain ⟨X, hX⟩ : ∃ X, f_X11_newSlot S0 a1 = X := ⟨_, rfl⟩
  have L_2 : ∀ (n : Nat) (S : HS) (x1 x2 : Int32) (H : Heap) (locs : List Loc) (ls : Array Slot), lp_X11_newSlot_2 n S x1 x2 = X → lq_X11_newSlot_2 n S x1 x2 → va_P G vwCl (hW K h g S) H → va_D A (hW K h g S) → va_S A s.heap H locs → lv_has ls 3 [(0, .ref h), (1, .int x1), (2, .int x2)] → W p l e ({ frames := 1, cells := 0, slots := 0, locals := 22 } : Room) s m #[Value.ref h, Value.int a1] below meth c H locs 0 0 Q (F0 m 2 ls []) := by
    intro n1
    induction n1 with
    | zero => intro S x1 x2 H locs ls hE hp; exact False.elim hp
    | succ n1 ih1 =>
      intro S x1 x2 H locs ls hO1 hp hP hD hS hl
      rw [lp_X11_newSlot_2] at hO1
      rw [lq_X11_newSlot_2] at hp
      obtain ⟨hp, hq1⟩ := hp
      generalize hE : st_X11_newSlot_2 S x1 x2 = Y1 at hO1 hq1
      unfold st_X11_newSlot_2 at hE
      unfold ps_X11_newSlot_2 at hp
      refine lv_aload_n hx hb dX11_newSlot_2 rfl (lv_at hl 0 rfl) ?_
      refine va_get (D := G) (ci := 8) (v := .ref (g 13)) (C := RX11) (T := TX11) (N := 42) hx hb hts iX11 hown hK hP 0 rfl rfl 13 (by decide) (hw (.fieldLink RX11 19 "MotionFloorModel$Hall" "used" "[Z") (List.mem_of_getElem? (i := 0) rfl)) (fun _ h9 => h9) rfl dX11_newSlot_3 ?_
      refine lv_iload_n hx hb dX11_newSlot_6 rfl (lv_at hl 2 rfl) ?_
      obtain ⟨hy1, hp⟩ := hp
      refine va_zald hx hb hK hP 3 1 rfl rfl hy1 dX11_newSlot_7 ?_
      refine lv_if_eq (tgt := 17) hx hb dX11_newSlot_8 (by decide) (fun c2 => ?_) (fun c2 => ?_)
      · rw [if_pos c2] at hE hp
        subst hE
        have hE := hO1
        dsimp only at hE
        refine lv_aload_n hx hb dX11_newSlot_17 rfl (lv_at hl 0 rfl) ?_
        refine va_get (D := G) (ci := 8) (v := .ref (g 13)) (C := RX11) (T := TX11) (N := 42) hx hb hts iX11 hown hK hP 0 rfl rfl 13 (by decide) (hw (.fieldLink RX11 19 "MotionFloorModel$Hall" "used" "[Z") (List.mem_of_getElem? (i := 0) rfl)) (fun _ h9 => h9) rfl dX11_newSlot_18 ?_
        refine lv_iload_n hx hb dX11_newSlot_21 rfl (lv_at hl 2 rfl) ?_
        refine lv_iconst (v := 1) hx hb dX11_newSlot_22 (by decide) ?_
        obtain ⟨hy3, hp⟩ := hp
        refine va_zast hx hb hK hP hD hS 3 1 rfl rfl hy3 dX11_newSlot_23 (fun H locs hP hD hS => ?_)
        rw [sA_13] at hP hD
        refine lv_aload_n hx hb dX11_newSlot_24 rfl (lv_at hl 0 rfl) ?_
        refine va_get (D := G) (ci := 8) (v := .ref (g 14)) (C := RX11) (T := TX11) (N := 42) hx hb hts iX11 hown hK hP 0 rfl rfl 14 (by decide) (hw (.fieldLink RX11 22 "MotionFloorModel$Hall" "kind" "[I") (List.mem_of_getElem? (i := 1) rfl)) (fun _ h9 => h9) rfl dX11_newSlot_25 ?_
        refine lv_iload_n hx hb dX11_newSlot_28 rfl (lv_at hl 2 rfl) ?_
        refine lv_iload_n hx hb dX11_newSlot_29 rfl (lv_at hl 1 rfl) ?_
        obtain ⟨hy4, hp⟩ := hp
        refine va_iast hx hb hK hP hD hS 4 0 rfl rfl hy4 dX11_newSlot_30 (fun H locs hP hD hS => ?_)
        rw [sA_14] at hP hD
        refine lv_aload_n hx hb dX11_newSlot_31 rfl (lv_at hl 0 rfl) ?_
        refine va_get (D := G) (ci := 8) (v := .ref (g 15)) (C := RX11) (T := TX11) (N := 42) hx hb hts iX11 hown hK hP 0 rfl rfl 15 (by decide) (hw (.fieldLink RX11 25 "MotionFloorModel$Hall" "mover" "[I") (List.mem_of_getElem? (i := 2) rfl)) (fun _ h9 => h9) rfl dX11_newSlot_32 ?_
        refine lv_iload_n hx hb dX11_newSlot_35 rfl (lv_at hl 2 rfl) ?_
        refine lv_iconst (v := (-1)) hx hb dX11_newSlot_36 (by decide) ?_
        obtain ⟨hy5, hp⟩ := hp
        refine va_iast hx hb hK hP hD hS 5 0 rfl rfl hy5 dX11_newSlot_37 (fun H locs hP hD hS => ?_)
        rw [sA_15] at hP hD
        refine lv_aload_n hx hb dX11_newSlot_38 rfl (lv_at hl 0 rfl) ?_
        refine va_get (D := G) (ci := 8) (v := .ref (g 19)) (C := RX11) (T := TX11) (N := 42) hx hb hts iX11 hown hK hP 0 rfl rfl 19 (by decide) (hw (.fieldLink RX11 37 "MotionFloorModel$Hall" "words" "[I") (List.mem_of_getElem? (i := 3) rfl)) (fun _ h9 => h9) rfl dX11_newSlot_39 ?_
        refine lv_iload_n hx hb dX11_newSlot_42 rfl (lv_at hl 2 rfl) ?_
        refine lv_iconst (v := 0) hx hb dX11_newSlot_43 (by decide) ?_
        obtain ⟨hy6, hp⟩ := hp
        refine va_iast hx hb hK hP hD hS 9 0 rfl rfl hy6 dX11_newSlot_44 (fun H locs hP hD hS => ?_)
        rw [sA_19] at hP hD
        refine lv_aload_n hx hb dX11_newSlot_45 rfl (lv_at hl 0 rfl) ?_
        refine va_get (D := G) (ci := 8) (v := .ref (g 20)) (C := RX11) (T := TX11) (N := 42) hx hb hts iX11 hown hK hP 0 rfl rfl 20 (by decide) (hw (.fieldLink RX11 40 "MotionFloorModel$Hall" "from" "[I") (List.mem_of_getElem? (i := 4) rfl)) (fun _ h9 => h9) rfl dX11_newSlot_46 ?_
        refine lv_iload_n hx hb dX11_newSlot_49 rfl (lv_at hl 2 rfl) ?_
        refine lv_iconst (v := 0) hx hb dX11_newSlot_50 (by decide) ?_
        obtain ⟨hy7, hp⟩ := hp
        refine va_iast hx hb hK hP hD hS 10 0 rfl rfl hy7 dX11_newSlot_51 (fun H locs hP hD hS => ?_)
        rw [sA_20] at hP hD
        refine lv_aload_n hx hb dX11_newSlot_52 rfl (lv_at hl 0 rfl) ?_
        refine va_get (D := G) (ci := 8) (v := .ref (g 21)) (C := RX11) (T := TX11) (N := 42) hx hb hts iX11 hown hK hP 0 rfl rfl 21 (by decide) (hw (.fieldLink RX11 43 "MotionFloorModel$Hall" "to" "[I") (List.mem_of_getElem? (i := 5) rfl)) (fun _ h9 => h9) rfl dX11_newSlot_53 ?_
        refine lv_iload_n hx hb dX11_newSlot_56 rfl (lv_at hl 2 rfl) ?_
        refine lv_iconst (v := 0) hx hb dX11_newSlot_57 (by decide) ?_
        obtain ⟨hy8, hp⟩ := hp
        refine va_iast hx hb hK hP hD hS 11 0 rfl rfl hy8 dX11_newSlot_58 (fun H locs hP hD hS => ?_)
        rw [sA_21] at hP hD
        refine lv_aload_n hx hb dX11_newSlot_59 rfl (lv_at hl 0 rfl) ?_
        refine va_get (D := G) (ci := 8) (v := .ref (g 23)) (C := RX11) (T := TX11) (N := 42) hx hb hts iX11 hown hK hP 0 rfl rfl 23 (by decide) (hw (.fieldLink RX11 49 "MotionFloorModel$Hall" "subject" "[I") (List.mem_of_getElem? (i := 6) rfl)) (fun _ h9 => h9) rfl dX11_newSlot_60 ?_
        refine lv_iload_n hx hb dX11_newSlot_63 rfl (lv_at hl 2 rfl) ?_
        refine lv_iconst (v := 0) hx hb dX11_newSlot_64 (by decide) ?_
        obtain ⟨hy9, hp⟩ := hp
        refine va_iast hx hb hK hP hD hS 13 0 rfl rfl hy9 dX11_newSlot_65 (fun H locs hP hD hS => ?_)
        rw [sA_23] at hP hD
        refine lv_aload_n hx hb dX11_newSlot_66 rfl (lv_at hl 0 rfl) ?_
        refine va_get (D := G) (ci := 8) (v := .ref (g 25)) (C := RX11) (T := TX11) (N := 42) hx hb hts iX11 hown hK hP 0 rfl rfl 25 (by decide) (hw (.fieldLink RX11 55 "MotionFloorModel$Hall" "laid" "[Z") (List.mem_of_getElem? (i := 7) rfl)) (fun _ h9 => h9) rfl dX11_newSlot_67 ?_
        refine lv_iload_n hx hb dX11_newSlot_70 rfl (lv_at hl 2 rfl) ?_
        refine lv_iconst (v := 0) hx hb dX11_newSlot_71 (by decide) ?_
        obtain ⟨hy10, hp⟩ := hp
        refine va_zast hx hb hK hP hD hS 15 1 rfl rfl hy10 dX11_newSlot_72 (fun H locs hP hD hS => ?_)
        rw [sA_25] at hP hD
        refine lv_aload_n hx hb dX11_newSlot_73 rfl (lv_at hl 0 rfl) ?_
        refine va_get (D := G) (ci := 8) (v := .ref (g 26)) (C := RX11) (T := TX11) (N := 42) hx hb hts iX11 hown hK hP 0 rfl rfl 26 (by decide) (hw (.fieldLink RX11 58 "MotionFloorModel$Hall" "outside" "[Z") (List.mem_of_getElem? (i := 8) rfl)) (fun _ h9 => h9) rfl dX11_newSlot_74 ?_
        refine lv_iload_n hx hb dX11_newSlot_77 rfl (lv_at hl 2 rfl) ?_
        refine lv_iconst (v := 0) hx hb dX11_newSlot_78 (by decide) ?_
        obtain ⟨hy11, hp⟩ := hp
        refine va_zast hx hb hK hP hD hS 16 1 rfl rfl hy11 dX11_newSlot_79 (fun H locs hP hD hS => ?_)
        rw [sA_26] at hP hD
        refine lv_aload_n hx hb dX11_newSlot_80 rfl (lv_at hl 0 rfl) ?_
        refine va_get (D := G) (ci := 8) (v := .ref (g 27)) (C := RX11) (T := TX11) (N := 42) hx hb hts iX11 hown hK hP 0 rfl rfl 27 (by decide) (hw (.fieldLink RX11 61 "MotionFloorModel$Hall" "letter" "[Z") (List.mem_of_getElem? (i := 9) rfl)) (fun _ h9 => h9) rfl dX11_newSlot_81 ?_
        refine lv_iload_n hx hb dX11_newSlot_84 rfl (lv_at hl 2 rfl) ?_
        refine lv_iconst (v := 0) hx hb dX11_newSlot_85 (by decide) ?_
        obtain ⟨hy12, hp⟩ := hp
        refine va_zast hx hb hK hP hD hS 17 1 rfl rfl hy12 dX11_newSlot_86 (fun H locs hP hD hS => ?_)
        rw [sA_27] at hP hD
        refine lv_aload_n hx hb dX11_newSlot_87 rfl (lv_at hl 0 rfl) ?_
        refine lv_iload_n hx hb dX11_newSlot_88 rfl (lv_at hl 2 rfl) ?_
        obtain ⟨hy13, hp⟩ := hp
        refine hGov (va_runV (As := [.int x2]) (rest := []) ⟨hx, hb, hml, hown, hts⟩ (c_X11_anew l G K h g (sA (sA (sA (sA (sA (sA (sA (sA (sA (sA S 13 x2.toNatClampNeg (vp_nar .boolean 1)) 14 x2.toNatClampNeg x1) 15 x2.toNatClampNeg (-1)) 19 x2.toNatClampNeg 0) 20 x2.toNatClampNeg 0) 21 x2.toNatClampNeg 0) 23 x2.toNatClampNeg 0) 25 x2.toNatClampNeg (vp_nar .boolean 0)) 26 x2.toNatClampNeg (vp_nar .boolean 0)) 27 x2.toNatClampNeg (vp_nar .boolean 0)) x2 _) (cwV 1 hts (wGV t_ (mw (.methodLink RX11 144 yX11_anew) (List.mem_of_getElem? (i := 10) rfl)) (mw (.instanceMethod yX11_anew) (List.mem_of_getElem? (i := 11) rfl)) (mw (.selects RX11 yX11_anew yX11_anew) (List.mem_of_getElem? (i := 12) rfl)) (mw (.initialized RX11) (List.mem_of_getElem? (i := 13) rfl)) j_X11_anew) rfl rfl rfl (by decide +kernel) ⟨Nat.le_of_ble_eq_true rfl, Nat.le_of_ble_eq_true rfl⟩) (hPV hK hTE hP hD hy13) rfl rfl hl.1 rfl (lv_room (Nat.le_of_ble_eq_true rfl)) dX11_newSlot_89 ⟨Nat.le_of_ble_eq_true rfl, Nat.le_of_ble_eq_true rfl⟩) hP hD hS hA (fun u14 H locs hv hP hD hS => ?_)
        rw [← hv] at hE hp
        dsimp only at hE hp
        unfold b_X11_newSlot_a92 at hE
        unfold q_X11_newSlot_a92 at hp
        refine lv_aload_n hx hb dX11_newSlot_92 rfl (lv_at hl 0 rfl) ?_
        refine va_get (D := G) (ci := 8) (v := .ref (g 16)) (C := RX11) (T := TX11) (N := 42) hx hb hts iX11 hown hK hP 0 rfl rfl 16 (by decide) (hw (.fieldLink RX11 28 "MotionFloorModel$Hall" "seconder" "[I") (List.mem_of_getElem? (i := 14) rfl)) (fun _ h9 => h9) rfl dX11_newSlot_93 ?_
        refine lv_iload_n hx hb dX11_newSlot_96 rfl (lv_at hl 2 rfl) ?_
        refine lv_iconst (v := (-1)) hx hb dX11_newSlot_97 (by decide) ?_
        obtain ⟨hy16, hp⟩ := hp
        refine va_iast hx hb hK hP hD hS 6 0 rfl rfl hy16 dX11_newSlot_98 (fun H locs hP hD hS => ?_)
        rw [sA_16] at hP hD
        refine lv_iload_n hx hb dX11_newSlot_99 rfl (lv_at hl 2 rfl) ?_
        subst hQ
        exact W.iret (v := x2) hx hb hr (fun t ht hW => ⟨⟨x2, (sA u14 16 x2.toNatClampNeg (-1)), rfl, hE.trans hX.symm, by rw [ht]; exact hP, hD⟩, hS.F ht⟩) hS.2.2 dX11_newSlot_100
      · rw [if_neg c2] at hE hp
        refine lv_iinc (v := (x2 + 1)) (lv' := [(2, .int (x2 + 1)), (0, .ref h), (1, .int x1)]) hx hb dX11_newSlot_11 hl (k := 2) rfl rfl (by decide) rfl (fun ls hl => ?_)
        refine lv_goto (tgt := 2) hx hb dX11_newSlot_14 (by decide) ?_
        subst hE
        dsimp only at hO1 hq1
        exact ih1 S x1 (x2 + 1) _ _ _ hO1 hq1 hP hD hS (lv_sub hl [1, 2, 0] rfl)
  have B_M : ∀ (S : HS) (x1 : Int32) (H : Heap) (locs : List Loc) (ls : Array Slot), f_X11_newSlot S x1 = X → p_X11_newSlot S x1 → va_P G vwCl (hW K h g S) H → va_D A (hW K h g S) → va_S A s.heap H locs → lv_has ls 3 [(0, .ref h), (1, .int x1)] → W p l e ({ frames := 1, cells := 0, slots := 0, locals := 22 } : Room) s m #[Value.ref h, Value.int a1] below meth c H locs 0 0 Q (F0 m 0 ls []) := by
    intro S x1 H locs ls hE hp hP hD hS hl
    unfold f_X11_newSlot at hE
    unfold p_X11_newSlot at hp
    refine lv_iconst (v := 0) hx hb dX11_newSlot_0 (by decide) ?_
    refine lv_istore_n (lv' := [(2, .int 0), (0, .ref h), (1, .int x1)]) hx hb dX11_newSlot_1 rfl hl (by decide) rfl (fun ls hl => ?_)
    exact L_2 100000 S x1 0 _ _ _ hE hp hP hD hS (lv_sub hl [1, 2, 0] rfl)
  exact B_M S0 a1 _ _ _ hX hp hP hD hS hl
theorem gdX11_free_0 : ckS (List.drop 0 cX11_free.data.toList) 0 [(0, .iconst 0, 1), (1, .istore_n 1, 1), (2, .iload_n 1, 1), (3, .bipush 8, 2), (5, .if_icmp .ge 20, 3), (8, .aload_n 0, 1), (9, .getfield 81, 3), (12, .iload_n 1, 1), (13, .iaload, 1), (14, .ifCond .ne 5, 3), (17, .iload_n 1, 1), (18, .ireturn, 1), (19, .iinc 1 1, 3), (22, .goto (-20), 3), (25, .iconst (-1), 1), (26, .ireturn, 1)] = true := by decide +kernel
theorem dX11_free_0 : decode cX11_free 0 = .ok (.iconst 0, 1) := ckS_g gdX11_free_0 0 rfl
theorem dX11_free_1 : decode cX11_free 1 = .ok (.istore_n 1, 1) := ckS_g gdX11_free_0 1 rfl
theorem dX11_free_2 : decode cX11_free 2 = .ok (.iload_n 1, 1) := ckS_g gdX11_free_0 2 rfl
theorem dX11_free_3 : decode cX11_free 3 = .ok (.bipush 8, 2) := ckS_g gdX11_free_0 3 rfl
theorem dX11_free_5 : decode cX11_free 5 = .ok (.if_icmp .ge 20, 3) := ckS_g gdX11_free_0 4 rfl
theorem dX11_free_8 : decode cX11_free 8 = .ok (.aload_n 0, 1) := ckS_g gdX11_free_0 5 rfl
theorem dX11_free_9 : decode cX11_free 9 = .ok (.getfield 81, 3) := ckS_g gdX11_free_0 6 rfl
theorem dX11_free_12 : decode cX11_free 12 = .ok (.iload_n 1, 1) := ckS_g gdX11_free_0 7 rfl
theorem dX11_free_13 : decode cX11_free 13 = .ok (.iaload, 1) := ckS_g gdX11_free_0 8 rfl
theorem dX11_free_14 : decode cX11_free 14 = .ok (.ifCond .ne 5, 3) := ckS_g gdX11_free_0 9 rfl
theorem dX11_free_17 : decode cX11_free 17 = .ok (.iload_n 1, 1) := ckS_g gdX11_free_0 10 rfl
theorem dX11_free_18 : decode cX11_free 18 = .ok (.ireturn, 1) := ckS_g gdX11_free_0 11 rfl
theorem dX11_free_19 : decode cX11_free 19 = .ok (.iinc 1 1, 3) := ckS_g gdX11_free_0 12 rfl
theorem dX11_free_22 : decode cX11_free 22 = .ok (.goto (-20), 3) := ckS_g gdX11_free_0 13 rfl
theorem dX11_free_25 : decode cX11_free 25 = .ok (.iconst (-1), 1) := ckS_g gdX11_free_0 14 rfl
theorem dX11_free_26 : decode cX11_free 26 = .ok (.ireturn, 1) := ckS_g gdX11_free_0 15 rfl
set_option maxRecDepth 100000 in
theorem z81 : wZ (.fieldLink RX11 81 "MotionFloorModel$Hall" "lying" "[I") := ⟨wT5 (List.mem_of_getElem? (i := 96) (by decide +kernel)), Or.inl rfl⟩
set_option maxRecDepth 100000 in
theorem z82 : wZ (.code yX11_free cX11_free 2 (some .int)) := ⟨wT6 (List.mem_of_getElem? (i := 48) rfl), Or.inl rfl⟩
def st_X11_free_2 (S : HS) (x1 : Int32) : (Int32 × HS) ⊕ (HS × Int32) := if 8 ≤ x1 then Sum.inl (((-1), S)) else if (S.2 34 x1.toNatClampNeg) = 0 then Sum.inl ((x1, S)) else Sum.inr (S, (x1 + 1))
def ps_X11_free_2 (S : HS) (x1 : Int32) : Prop := (if 8 ≤ x1 then True else (vp_in x1 8) ∧ (if (S.2 34 x1.toNatClampNeg) = 0 then True else True))
def lp_X11_free_2 : Nat → HS → Int32 → Int32 × HS
  | 0, S, _ => (0, S)
  | n + 1, S, x1 => match st_X11_free_2 S x1 with
    | Sum.inl r => r
    | Sum.inr q => lp_X11_free_2 n q.1 q.2
def lq_X11_free_2 : Nat → HS → Int32 → Prop
  | 0, _, _ => False
  | n + 1, S, x1 => ps_X11_free_2 S x1 ∧ (match st_X11_free_2 S x1 with
    | Sum.inl _ => True
    | Sum.inr q => lq_X11_free_2 n q.1 q.2)
def f_X11_free (S : HS)  : Int32 × HS := (lp_X11_free_2 100000 S 0)
def p_X11_free (S : HS)  : Prop := (lq_X11_free_2 100000 S 0)
def e_X11_free : List Cond := [.fieldLink RX11 81 "MotionFloorModel$Hall" "lying" "[I"]
def v_X11_free : List Cond := .code yX11_free cX11_free 2 (some .int) :: (e_X11_free ++ (wsX110 ++ []))
theorem te_X11_free : GoodIn lw_tbl e_X11_free := wGc z81 (wG0)
theorem t_X11_free : GoodIn lw_tbl v_X11_free := wGc z82 (wGa te_X11_free (wGa zcX11 (wG0)))
set_option maxHeartbeats 4000000 in
set_option maxRecDepth 100000 in
theorem c_X11_free (l : Launch) (G : va_G) (K : Nat → ClassId) (h : Nat) (g : Nat → Nat) (S0 : HS)  (sz : Nat) : Met l yX11_free v_X11_free ({ frames := 0, cells := 0, slots := 0, locals := 0 }) (va_Pc [.ref h] (hS G K h g sz S0 (p_X11_free S0))) (va_Qi (fun (r : Int32) (u : HS) => (r, u) = f_X11_free S0) (hB G K h g (va_A (hW K h g S0) sz)) (va_A (hW K h g S0) sz)) 0 0 (va_A (hW K h g S0) sz) := by
  refine Met.ofW (cc := cX11_free) (maxL := 2) (ret := (some .int)) (by decide) rfl ?_
  intro p e s m args below meth c s₁ B hml hv
  obtain ⟨rfl, ⟨hsz, hP, hK, hD0, hTE⟩, hp⟩ := hv
  have hx := B.exec
  have hb := B.bytes
  have hr := B.returns
  have hts := atoms_spec (ws := v_X11_free) B.pre
  have t_ := t_X11_free
  have mw : ∀ w ∈ e_X11_free, w ∈ v_X11_free := fun w h => List.mem_cons_of_mem _ (List.mem_append_left _ h)
  have hw := fun w (h : w ∈ e_X11_free) => hts w (mw w h)
  have iX11 : ∀ w ∈ wsX110, w ∈ v_X11_free := fun w h => List.mem_cons_of_mem _ (List.mem_append_right _ (List.mem_append_left _ h))
  have hown : s.vm.findClass RX11 = some m.cls := findClass_of_methodNamed B.named
  have hlocks := B.notSynchronized
  subst hsz
  have hD := hD0.self (sz := s.heap.size)
  generalize hAe : va_A (hW K h g S0) s.heap.size = A at hD ⊢
  have hA : ∀ q : Nat, s.heap.size ≤ q → A q := fun q h => by rw [← hAe]; exact Or.inr h
  have hS : va_S A s.heap s.heap [] := va_S.rf
  have hl := lv_entry ([.ref h]) (n := 2) (Nat.le_of_ble_eq_true rfl)
  rw [lg_entry_eq]
  generalize (lg_sl ([.ref h]) ++ List.replicate (2 - (lg_sl ([.ref h])).length) Slot.unset).toArray = ls at hl ⊢
  have hl : lv_has ls 2 [(0, .ref h)] := hl
  refine wGen (fun Q hQ => ?_)
  obtain ⟨X, hX⟩ : ∃ X, f_X11_free S0 = X := ⟨_, rfl⟩
  have L_2 : ∀ (n : Nat) (S : HS) (x1 : Int32) (H : Heap) (locs : List Loc) (ls : Array Slot), lp_X11_free_2 n S x1 = X → lq_X11_free_2 n S x1 → va_P G vwCl (hW K h g S) H → va_D A (hW K h g S) → va_S A s.heap H locs → lv_has ls 2 [(0, .ref h), (1, .int x1)] → W p l e ({ frames := 0, cells := 0, slots := 0, locals := 0 } : Room) s m #[Value.ref h] below meth c H locs 0 0 Q (F0 m 2 ls []) := by
    intro n1
    induction n1 with
    | zero => intro S x1 H locs ls hE hp; exact False.elim hp
    | succ n1 ih1 =>
      intro S x1 H locs ls hO1 hp hP hD hS hl
      rw [lp_X11_free_2] at hO1
      rw [lq_X11_free_2] at hp
      obtain ⟨hp, hq1⟩ := hp
      generalize hE : st_X11_free_2 S x1 = Y1 at hO1 hq1
      unfold st_X11_free_2 at hE
      unfold ps_X11_free_2 at hp
      refine lv_iload_n hx hb dX11_free_2 rfl (lv_at hl 1 rfl) ?_
      refine lv_bipush (v := 8) hx hb dX11_free_3 (by decide) ?_
      refine lv_icmp_ge (tgt := 25) hx hb dX11_free_5 (by decide) (fun c1 => ?_) (fun c1 => ?_)
      · rw [if_pos c1] at hE hp
        subst hE
        have hE := hO1
        dsimp only at hE
        refine lv_iconst (v := (-1)) hx hb dX11_free_25 (by decide) ?_
        subst hQ
        exact W.iret (v := (-1)) hx hb hr (fun t ht hW => ⟨⟨(-1), S, rfl, hE.trans hX.symm, by rw [ht]; exact hP, hD⟩, hS.F ht⟩) hS.2.2 dX11_free_26
      · rw [if_neg c1] at hE hp
        refine lv_aload_n hx hb dX11_free_8 rfl (lv_at hl 0 rfl) ?_
        refine va_get (D := G) (ci := 8) (v := .ref (g 34)) (C := RX11) (T := TX11) (N := 42) hx hb hts iX11 hown hK hP 0 rfl rfl 34 (by decide) (hw (.fieldLink RX11 81 "MotionFloorModel$Hall" "lying" "[I") (List.mem_of_getElem? (i := 0) rfl)) (fun _ h9 => h9) rfl dX11_free_9 ?_
        refine lv_iload_n hx hb dX11_free_12 rfl (lv_at hl 1 rfl) ?_
        obtain ⟨hy2, hp⟩ := hp
        refine va_iald hx hb hK hP 23 0 rfl rfl hy2 dX11_free_13 ?_
        refine lv_if_ne (tgt := 19) hx hb dX11_free_14 (by decide) (fun c3 => ?_) (fun c3 => ?_)
        · rw [if_neg c3] at hE hp
          refine lv_iinc (v := (x1 + 1)) (lv' := [(1, .int (x1 + 1)), (0, .ref h)]) hx hb dX11_free_19 hl (k := 1) rfl rfl (by decide) rfl (fun ls hl => ?_)
          refine lv_goto (tgt := 2) hx hb dX11_free_22 (by decide) ?_
          subst hE
          dsimp only at hO1 hq1
          exact ih1 S (x1 + 1) _ _ _ hO1 hq1 hP hD hS (lv_sub hl [1, 0] rfl)
        · rw [if_pos c3] at hE hp
          subst hE
          have hE := hO1
          dsimp only at hE
          refine lv_iload_n hx hb dX11_free_17 rfl (lv_at hl 1 rfl) ?_
          subst hQ
          exact W.iret (v := x1) hx hb hr (fun t ht hW => ⟨⟨x1, S, rfl, hE.trans hX.symm, by rw [ht]; exact hP, hD⟩, hS.F ht⟩) hS.2.2 dX11_free_18
  have B_M : ∀ (S : HS) (H : Heap) (locs : List Loc) (ls : Array Slot), f_X11_free S = X → p_X11_free S → va_P G vwCl (hW K h g S) H → va_D A (hW K h g S) → va_S A s.heap H locs → lv_has ls 2 [(0, .ref h)] → W p l e ({ frames := 0, cells := 0, slots := 0, locals := 0 } : Room) s m #[Value.ref h] below meth c H locs 0 0 Q (F0 m 0 ls []) := by
    intro S H locs ls hE hp hP hD hS hl
    unfold f_X11_free at hE
    unfold p_X11_free at hp
    refine lv_iconst (v := 0) hx hb dX11_free_0 (by decide) ?_
    refine lv_istore_n (lv' := [(1, .int 0), (0, .ref h)]) hx hb dX11_free_1 rfl hl (by decide) rfl (fun ls hl => ?_)
    exact L_2 100000 S 0 _ _ _ hE hp hP hD hS (lv_sub hl [1, 0] rfl)
  exact B_M S0 _ _ _ hX hp hP hD hS hl
theorem gdX11_freePlaces_0 : ckS (List.drop 0 cX11_freePlaces.data.toList) 0 [(0, .iconst 0, 1), (1, .istore_n 1, 1), (2, .iconst 0, 1), (3, .istore_n 2, 1), (4, .iload_n 2, 1), (5, .bipush 8, 2), (7, .if_icmp .ge 26, 3), (10, .iload_n 1, 1), (11, .aload_n 0, 1), (12, .getfield 81, 3), (15, .iload_n 2, 1), (16, .iaload, 1), (17, .ifCond .ne 7, 3), (20, .iconst 1, 1), (21, .goto 4, 3), (24, .iconst 0, 1), (25, .iadd, 1), (26, .istore_n 1, 1), (27, .iinc 2 1, 3), (30, .goto (-26), 3), (33, .iload_n 1, 1), (34, .ireturn, 1)] = true := by decide +kernel
theorem dX11_freePlaces_0 : decode cX11_freePlaces 0 = .ok (.iconst 0, 1) := ckS_g gdX11_freePlaces_0 0 rfl
theorem dX11_freePlaces_1 : decode cX11_freePlaces 1 = .ok (.istore_n 1, 1) := ckS_g gdX11_freePlaces_0 1 rfl
theorem dX11_freePlaces_2 : decode cX11_freePlaces 2 = .ok (.iconst 0, 1) := ckS_g gdX11_freePlaces_0 2 rfl
theorem dX11_freePlaces_3 : decode cX11_freePlaces 3 = .ok (.istore_n 2, 1) := ckS_g gdX11_freePlaces_0 3 rfl
theorem dX11_freePlaces_4 : decode cX11_freePlaces 4 = .ok (.iload_n 2, 1) := ckS_g gdX11_freePlaces_0 4 rfl
theorem dX11_freePlaces_5 : decode cX11_freePlaces 5 = .ok (.bipush 8, 2) := ckS_g gdX11_freePlaces_0 5 rfl
theorem dX11_freePlaces_7 : decode cX11_freePlaces 7 = .ok (.if_icmp .ge 26, 3) := ckS_g gdX11_freePlaces_0 6 rfl
theorem dX11_freePlaces_10 : decode cX11_freePlaces 10 = .ok (.iload_n 1, 1) := ckS_g gdX11_freePlaces_0 7 rfl
theorem dX11_freePlaces_11 : decode cX11_freePlaces 11 = .ok (.aload_n 0, 1) := ckS_g gdX11_freePlaces_0 8 rfl
theorem dX11_freePlaces_12 : decode cX11_freePlaces 12 = .ok (.getfield 81, 3) := ckS_g gdX11_freePlaces_0 9 rfl
theorem dX11_freePlaces_15 : decode cX11_freePlaces 15 = .ok (.iload_n 2, 1) := ckS_g gdX11_freePlaces_0 10 rfl
theorem dX11_freePlaces_16 : decode cX11_freePlaces 16 = .ok (.iaload, 1) := ckS_g gdX11_freePlaces_0 11 rfl
theorem dX11_freePlaces_17 : decode cX11_freePlaces 17 = .ok (.ifCond .ne 7, 3) := ckS_g gdX11_freePlaces_0 12 rfl
theorem dX11_freePlaces_20 : decode cX11_freePlaces 20 = .ok (.iconst 1, 1) := ckS_g gdX11_freePlaces_0 13 rfl
theorem dX11_freePlaces_21 : decode cX11_freePlaces 21 = .ok (.goto 4, 3) := ckS_g gdX11_freePlaces_0 14 rfl
theorem dX11_freePlaces_24 : decode cX11_freePlaces 24 = .ok (.iconst 0, 1) := ckS_g gdX11_freePlaces_0 15 rfl
theorem dX11_freePlaces_25 : decode cX11_freePlaces 25 = .ok (.iadd, 1) := ckS_g gdX11_freePlaces_0 16 rfl
theorem dX11_freePlaces_26 : decode cX11_freePlaces 26 = .ok (.istore_n 1, 1) := ckS_g gdX11_freePlaces_0 17 rfl
theorem dX11_freePlaces_27 : decode cX11_freePlaces 27 = .ok (.iinc 2 1, 3) := ckS_g gdX11_freePlaces_0 18 rfl
theorem dX11_freePlaces_30 : decode cX11_freePlaces 30 = .ok (.goto (-26), 3) := ckS_g gdX11_freePlaces_0 19 rfl
theorem dX11_freePlaces_33 : decode cX11_freePlaces 33 = .ok (.iload_n 1, 1) := ckS_g gdX11_freePlaces_0 20 rfl
theorem dX11_freePlaces_34 : decode cX11_freePlaces 34 = .ok (.ireturn, 1) := ckS_g gdX11_freePlaces_0 21 rfl
set_option maxRecDepth 100000 in
theorem z83 : wZ (.code yX11_freePlaces cX11_freePlaces 3 (some .int)) := ⟨wT6 (List.mem_of_getElem? (i := 36) rfl), Or.inl rfl⟩
def b_X11_freePlaces_25 (S : HS) (x1 x2 y0 y1 : Int32) : (Int32 × HS) ⊕ (HS × Int32 × Int32) := Sum.inr (S, (y1 + y0), (x2 + 1))
def q_X11_freePlaces_25 (S : HS) (x1 x2 y0 y1 : Int32) : Prop := True
def st_X11_freePlaces_4 (S : HS) (x1 x2 : Int32) : (Int32 × HS) ⊕ (HS × Int32 × Int32) := if 8 ≤ x2 then Sum.inl ((x1, S)) else if (S.2 34 x2.toNatClampNeg) = 0 then (b_X11_freePlaces_25 S x1 x2 1 x1) else (b_X11_freePlaces_25 S x1 x2 0 x1)
def ps_X11_freePlaces_4 (S : HS) (x1 x2 : Int32) : Prop := (if 8 ≤ x2 then True else (vp_in x2 8) ∧ (if (S.2 34 x2.toNatClampNeg) = 0 then (q_X11_freePlaces_25 S x1 x2 1 x1) else (q_X11_freePlaces_25 S x1 x2 0 x1)))
def lp_X11_freePlaces_4 : Nat → HS → Int32 → Int32 → Int32 × HS
  | 0, S, _, _ => (0, S)
  | n + 1, S, x1, x2 => match st_X11_freePlaces_4 S x1 x2 with
    | Sum.inl r => r
    | Sum.inr q => lp_X11_freePlaces_4 n q.1 q.2.1 q.2.2
def lq_X11_freePlaces_4 : Nat → HS → Int32 → Int32 → Prop
  | 0, _, _, _ => False
  | n + 1, S, x1, x2 => ps_X11_freePlaces_4 S x1 x2 ∧ (match st_X11_freePlaces_4 S x1 x2 with
    | Sum.inl _ => True
    | Sum.inr q => lq_X11_freePlaces_4 n q.1 q.2.1 q.2.2)
def f_X11_freePlaces (S : HS)  : Int32 × HS := (lp_X11_freePlaces_4 100000 S 0 0)
def p_X11_freePlaces (S : HS)  : Prop := (lq_X11_freePlaces_4 100000 S 0 0)
def e_X11_freePlaces : List Cond := [.fieldLink RX11 81 "MotionFloorModel$Hall" "lying" "[I"]
def v_X11_freePlaces : List Cond := .code yX11_freePlaces cX11_freePlaces 3 (some .int) :: (e_X11_freePlaces ++ (wsX110 ++ []))
theorem te_X11_freePlaces : GoodIn lw_tbl e_X11_freePlaces := wGc z81 (wG0)
theorem t_X11_freePlaces : GoodIn lw_tbl v_X11_freePlaces := wGc z83 (wGa te_X11_freePlaces (wGa zcX11 (wG0)))
set_option maxHeartbeats 4000000 in
set_option maxRecDepth 100000 in
theorem c_X11_freePlaces (l : Launch) (G : va_G) (K : Nat → ClassId) (h : Nat) (g : Nat → Nat) (S0 : HS)  (sz : Nat) : Met l yX11_freePlaces v_X11_freePlaces ({ frames := 0, cells := 0, slots := 0, locals := 0 }) (va_Pc [.ref h] (hS G K h g sz S0 (p_X11_freePlaces S0))) (va_Qi (fun (r : Int32) (u : HS) => (r, u) = f_X11_freePlaces S0) (hB G K h g (va_A (hW K h g S0) sz)) (va_A (hW K h g S0) sz)) 0 0 (va_A (hW K h g S0) sz) := by
  refine Met.ofW (cc := cX11_freePlaces) (maxL := 3) (ret := (some .int)) (by decide) rfl ?_
  intro p e s m args below meth c s₁ B hml hv
  obtain ⟨rfl, ⟨hsz, hP, hK, hD0, hTE⟩, hp⟩ := hv
  have hx := B.exec
  have hb := B.bytes
  have hr := B.returns
  have hts := atoms_spec (ws := v_X11_freePlaces) B.pre
  have t_ := t_X11_freePlaces
  have mw : ∀ w ∈ e_X11_freePlaces, w ∈ v_X11_freePlaces := fun w h => List.mem_cons_of_mem _ (List.mem_append_left _ h)
  have hw := fun w (h : w ∈ e_X11_freePlaces) => hts w (mw w h)
  have iX11 : ∀ w ∈ wsX110, w ∈ v_X11_freePlaces := fun w h => List.mem_cons_of_mem _ (List.mem_append_right _ (List.mem_append_left _ h))
  have hown : s.vm.findClass RX11 = some m.cls := findClass_of_methodNamed B.named
  have hlocks := B.notSynchronized
  subst hsz
  have hD := hD0.self (sz := s.heap.size)
  generalize hAe : va_A (hW K h g S0) s.heap.size = A at hD ⊢
  have hA : ∀ q : Nat, s.heap.size ≤ q → A q := fun q h => by rw [← hAe]; exact Or.inr h
  have hS : va_S A s.heap s.heap [] := va_S.rf
  have hl := lv_entry ([.ref h]) (n := 3) (Nat.le_of_ble_eq_true rfl)
  rw [lg_entry_eq]
  generalize (lg_sl ([.ref h]) ++ List.replicate (3 - (lg_sl ([.ref h])).length) Slot.unset).toArray = ls at hl ⊢
  have hl : lv_has ls 3 [(0, .ref h)] := hl
  refine wGen (fun Q hQ => ?_)
  obtain ⟨X, hX⟩ : ∃ X, f_X11_freePlaces S0 = X := ⟨_, rfl⟩
  have L_4 : ∀ (n : Nat) (S : HS) (x1 x2 : Int32) (H : Heap) (locs : List Loc) (ls : Array Slot), lp_X11_freePlaces_4 n S x1 x2 = X → lq_X11_freePlaces_4 n S x1 x2 → va_P G vwCl (hW K h g S) H → va_D A (hW K h g S) → va_S A s.heap H locs → lv_has ls 3 [(0, .ref h), (1, .int x1), (2, .int x2)] → W p l e ({ frames := 0, cells := 0, slots := 0, locals := 0 } : Room) s m #[Value.ref h] below meth c H locs 0 0 Q (F0 m 4 ls []) := by
    intro n1
    induction n1 with
    | zero => intro S x1 x2 H locs ls hE hp; exact False.elim hp
    | succ n1 ih1 =>
      intro S x1 x2 H locs ls hO1 hp hP hD hS hl
      rw [lp_X11_freePlaces_4] at hO1
      rw [lq_X11_freePlaces_4] at hp
      obtain ⟨hp, hq1⟩ := hp
      generalize hE : st_X11_freePlaces_4 S x1 x2 = Y1 at hO1 hq1
      unfold st_X11_freePlaces_4 at hE
      unfold ps_X11_freePlaces_4 at hp
      have B_25 : ∀ (S : HS) (x1 x2 y0 y1 : Int32) (H : Heap) (locs : List Loc) (ls : Array Slot), b_X11_freePlaces_25 S x1 x2 y0 y1 = Y1 → q_X11_freePlaces_25 S x1 x2 y0 y1 → va_P G vwCl (hW K h g S) H → va_D A (hW K h g S) → va_S A s.heap H locs → lv_has ls 3 [(0, .ref h), (1, .int x1), (2, .int x2)] → W p l e ({ frames := 0, cells := 0, slots := 0, locals := 0 } : Room) s m #[Value.ref h] below meth c H locs 0 0 Q (F0 m 25 ls [.int y0, .int y1]) := by
        intro S x1 x2 y0 y1 H locs ls hE hp hP hD hS hl
        unfold b_X11_freePlaces_25 at hE
        unfold q_X11_freePlaces_25 at hp
        refine lv_iadd hx hb dX11_freePlaces_25 ?_
        refine lv_istore_n (lv' := [(1, .int (y1 + y0)), (0, .ref h), (2, .int x2)]) hx hb dX11_freePlaces_26 rfl hl (by decide) rfl (fun ls hl => ?_)
        refine lv_iinc (v := (x2 + 1)) (lv' := [(2, .int (x2 + 1)), (1, .int (y1 + y0)), (0, .ref h)]) hx hb dX11_freePlaces_27 hl (k := 2) rfl rfl (by decide) rfl (fun ls hl => ?_)
        refine lv_goto (tgt := 4) hx hb dX11_freePlaces_30 (by decide) ?_
        subst hE
        dsimp only at hO1 hq1
        exact ih1 S (y1 + y0) (x2 + 1) _ _ _ hO1 hq1 hP hD hS (lv_sub hl [2, 1, 0] rfl)
      refine lv_iload_n hx hb dX11_freePlaces_4 rfl (lv_at hl 2 rfl) ?_
      refine lv_bipush (v := 8) hx hb dX11_freePlaces_5 (by decide) ?_
      refine lv_icmp_ge (tgt := 33) hx hb dX11_freePlaces_7 (by decide) (fun c1 => ?_) (fun c1 => ?_)
      · rw [if_pos c1] at hE hp
        subst hE
        have hE := hO1
        dsimp only at hE
        refine lv_iload_n hx hb dX11_freePlaces_33 rfl (lv_at hl 1 rfl) ?_
        subst hQ
        exact W.iret (v := x1) hx hb hr (fun t ht hW => ⟨⟨x1, S, rfl, hE.trans hX.symm, by rw [ht]; exact hP, hD⟩, hS.F ht⟩) hS.2.2 dX11_freePlaces_34
      · rw [if_neg c1] at hE hp
        refine lv_iload_n hx hb dX11_freePlaces_10 rfl (lv_at hl 1 rfl) ?_
        refine lv_aload_n hx hb dX11_freePlaces_11 rfl (lv_at hl 0 rfl) ?_
        refine va_get (D := G) (ci := 8) (v := .ref (g 34)) (C := RX11) (T := TX11) (N := 42) hx hb hts iX11 hown hK hP 0 rfl rfl 34 (by decide) (hw (.fieldLink RX11 81 "MotionFloorModel$Hall" "lying" "[I") (List.mem_of_getElem? (i := 0) rfl)) (fun _ h9 => h9) rfl dX11_freePlaces_12 ?_
        refine lv_iload_n hx hb dX11_freePlaces_15 rfl (lv_at hl 2 rfl) ?_
        obtain ⟨hy2, hp⟩ := hp
        refine va_iald hx hb hK hP 23 0 rfl rfl hy2 dX11_freePlaces_16 ?_
        refine lv_if_ne (tgt := 24) hx hb dX11_freePlaces_17 (by decide) (fun c3 => ?_) (fun c3 => ?_)
        · rw [if_neg c3] at hE hp
          refine lv_iconst (v := 0) hx hb dX11_freePlaces_24 (by decide) ?_
          exact B_25 S x1 x2 0 x1 _ _ _ hE hp hP hD hS (lv_sub hl [0, 1, 2] rfl)
        · rw [if_pos c3] at hE hp
          refine lv_iconst (v := 1) hx hb dX11_freePlaces_20 (by decide) ?_
          refine lv_goto (tgt := 25) hx hb dX11_freePlaces_21 (by decide) ?_
          exact B_25 S x1 x2 1 x1 _ _ _ hE hp hP hD hS (lv_sub hl [0, 1, 2] rfl)
  have B_M : ∀ (S : HS) (H : Heap) (locs : List Loc) (ls : Array Slot), f_X11_freePlaces S = X → p_X11_freePlaces S → va_P G vwCl (hW K h g S) H → va_D A (hW K h g S) → va_S A s.heap H locs → lv_has ls 3 [(0, .ref h)] → W p l e ({ frames := 0, cells := 0, slots := 0, locals := 0 } : Room) s m #[Value.ref h] below meth c H locs 0 0 Q (F0 m 0 ls []) := by
    intro S H locs ls hE hp hP hD hS hl
    unfold f_X11_freePlaces at hE
    unfold p_X11_freePlaces at hp
    refine lv_iconst (v := 0) hx hb dX11_freePlaces_0 (by decide) ?_
    refine lv_istore_n (lv' := [(1, .int 0), (0, .ref h)]) hx hb dX11_freePlaces_1 rfl hl (by decide) rfl (fun ls hl => ?_)
    refine lv_iconst (v := 0) hx hb dX11_freePlaces_2 (by decide) ?_
    refine lv_istore_n (lv' := [(2, .int 0), (1, .int 0), (0, .ref h)]) hx hb dX11_freePlaces_3 rfl hl (by decide) rfl (fun ls hl => ?_)
    exact L_4 100000 S 0 0 _ _ _ hE hp hP hD hS (lv_sub hl [2, 1, 0] rfl)
  exact B_M S0 _ _ _ hX hp hP hD hS hl
