theorem gdX2_arrive_0 : ckS (List.drop 0 cX2_arrive.data.toList) 0 [(0, .aload_n 0, 1), (1, .iload_n 1, 1), (2, .invokevirtual 53, 3), (5, .ifCond .eq 29, 3), (8, .aload_n 0, 1), (9, .getfield 9, 3), (12, .iload_n 1, 1), (13, .baload, 1), (14, .ifCond .ne 20, 3), (17, .aload_n 0, 1), (18, .getfield 9, 3), (21, .iload_n 1, 1), (22, .iconst 1, 1), (23, .bastore, 1), (24, .aload_n 0, 1), (25, .dup, 1), (26, .getfield 41, 3), (29, .iconst 1, 1), (30, .iadd, 1), (31, .putfield 41, 3), (34, .aload_n 0, 1), (35, .getfield 41, 3), (38, .ireturn, 1)] = true := by decide +kernel
theorem dX2_arrive_0 : decode cX2_arrive 0 = .ok (.aload_n 0, 1) := ckS_g gdX2_arrive_0 0 rfl
theorem dX2_arrive_1 : decode cX2_arrive 1 = .ok (.iload_n 1, 1) := ckS_g gdX2_arrive_0 1 rfl
theorem dX2_arrive_2 : decode cX2_arrive 2 = .ok (.invokevirtual 53, 3) := ckS_g gdX2_arrive_0 2 rfl
theorem dX2_arrive_5 : decode cX2_arrive 5 = .ok (.ifCond .eq 29, 3) := ckS_g gdX2_arrive_0 3 rfl
theorem dX2_arrive_8 : decode cX2_arrive 8 = .ok (.aload_n 0, 1) := ckS_g gdX2_arrive_0 4 rfl
theorem dX2_arrive_9 : decode cX2_arrive 9 = .ok (.getfield 9, 3) := ckS_g gdX2_arrive_0 5 rfl
theorem dX2_arrive_12 : decode cX2_arrive 12 = .ok (.iload_n 1, 1) := ckS_g gdX2_arrive_0 6 rfl
theorem dX2_arrive_13 : decode cX2_arrive 13 = .ok (.baload, 1) := ckS_g gdX2_arrive_0 7 rfl
theorem dX2_arrive_14 : decode cX2_arrive 14 = .ok (.ifCond .ne 20, 3) := ckS_g gdX2_arrive_0 8 rfl
theorem dX2_arrive_17 : decode cX2_arrive 17 = .ok (.aload_n 0, 1) := ckS_g gdX2_arrive_0 9 rfl
theorem dX2_arrive_18 : decode cX2_arrive 18 = .ok (.getfield 9, 3) := ckS_g gdX2_arrive_0 10 rfl
theorem dX2_arrive_21 : decode cX2_arrive 21 = .ok (.iload_n 1, 1) := ckS_g gdX2_arrive_0 11 rfl
theorem dX2_arrive_22 : decode cX2_arrive 22 = .ok (.iconst 1, 1) := ckS_g gdX2_arrive_0 12 rfl
theorem dX2_arrive_23 : decode cX2_arrive 23 = .ok (.bastore, 1) := ckS_g gdX2_arrive_0 13 rfl
theorem dX2_arrive_24 : decode cX2_arrive 24 = .ok (.aload_n 0, 1) := ckS_g gdX2_arrive_0 14 rfl
theorem dX2_arrive_25 : decode cX2_arrive 25 = .ok (.dup, 1) := ckS_g gdX2_arrive_0 15 rfl
theorem dX2_arrive_26 : decode cX2_arrive 26 = .ok (.getfield 41, 3) := ckS_g gdX2_arrive_0 16 rfl
theorem dX2_arrive_29 : decode cX2_arrive 29 = .ok (.iconst 1, 1) := ckS_g gdX2_arrive_0 17 rfl
theorem dX2_arrive_30 : decode cX2_arrive 30 = .ok (.iadd, 1) := ckS_g gdX2_arrive_0 18 rfl
theorem dX2_arrive_31 : decode cX2_arrive 31 = .ok (.putfield 41, 3) := ckS_g gdX2_arrive_0 19 rfl
theorem dX2_arrive_34 : decode cX2_arrive 34 = .ok (.aload_n 0, 1) := ckS_g gdX2_arrive_0 20 rfl
theorem dX2_arrive_35 : decode cX2_arrive 35 = .ok (.getfield 41, 3) := ckS_g gdX2_arrive_0 21 rfl
theorem dX2_arrive_38 : decode cX2_arrive 38 = .ok (.ireturn, 1) := ckS_g gdX2_arrive_0 22 rfl
set_option maxRecDepth 100000 in
theorem z328 : wZ (.initialized RX2) := ⟨wT1 (List.mem_of_getElem? (i := 3) (by decide +kernel)), Or.inl rfl⟩
set_option maxRecDepth 100000 in
theorem z329 : wZ (.selects RX2 yX2_has yX2_has) := ⟨wT2 (List.mem_of_getElem? (i := 60) (by decide +kernel)), Or.inl rfl⟩
set_option maxRecDepth 100000 in
theorem z330 : wZ (.instanceMethod yX2_has) := ⟨wT2 (List.mem_of_getElem? (i := 59) (by decide +kernel)), Or.inl rfl⟩
set_option maxRecDepth 100000 in
theorem z331 : wZ (.methodLink RX2 53 yX2_has) := ⟨wT2 (List.mem_of_getElem? (i := 202) (by decide +kernel)), Or.inl rfl⟩
set_option maxRecDepth 100000 in
theorem z332 : wZ (.code yX2_arrive cX2_arrive 2 (some .int)) := ⟨wT2 (List.mem_of_getElem? (i := 201) rfl), Or.inl rfl⟩
def b_X2_arrive_34 (S : HS) (x1 : Int32) : Int32 × HS := ((S.1 2), S)
def q_X2_arrive_34 (S : HS) (x1 : Int32) : Prop := True
def b_X2_arrive_a5 (S : HS) (x1 y0 : Int32) : Int32 × HS := if y0 = 0 then (b_X2_arrive_34 S x1) else if (S.2 1 x1.toNatClampNeg) = 0 then (b_X2_arrive_34 (sI (sA S 1 x1.toNatClampNeg (vp_nar .boolean 1)) 2 (((sA S 1 x1.toNatClampNeg (vp_nar .boolean 1)).1 2) + 1)) x1) else (b_X2_arrive_34 S x1)
def q_X2_arrive_a5 (S : HS) (x1 y0 : Int32) : Prop := (if y0 = 0 then (q_X2_arrive_34 S x1) else (vp_in x1 200) ∧ (if (S.2 1 x1.toNatClampNeg) = 0 then (vp_in x1 200) ∧ (q_X2_arrive_34 (sI (sA S 1 x1.toNatClampNeg (vp_nar .boolean 1)) 2 (((sA S 1 x1.toNatClampNeg (vp_nar .boolean 1)).1 2) + 1)) x1) else (q_X2_arrive_34 S x1)))
def f_X2_arrive (S : HS) (x1 : Int32) : Int32 × HS := (b_X2_arrive_a5 (f_X2_has S x1).2 x1 (f_X2_has S x1).1)
def p_X2_arrive (S : HS) (x1 : Int32) : Prop := (p_X2_has S x1) ∧ (q_X2_arrive_a5 (f_X2_has S x1).2 x1 (f_X2_has S x1).1)
def e_X2_arrive : List Cond := [.methodLink RX2 53 yX2_has, .instanceMethod yX2_has, .selects RX2 yX2_has yX2_has, .initialized RX2, .fieldLink RX2 41 "MotionFloor$House" "present" "I", .fieldLink RX2 9 "MotionFloor$House" "there" "[Z"]
def v_X2_arrive : List Cond := .code yX2_arrive cX2_arrive 2 (some .int) :: (e_X2_arrive ++ (wsX20 ++ (v_X2_has ++ [])))
theorem te_X2_arrive : GoodIn lw_tbl e_X2_arrive := wGc z331 (wGc z330 (wGc z329 (wGc z328 (wGc z326 (wGc z319 (wG0))))))
theorem t_X2_arrive : GoodIn lw_tbl v_X2_arrive := wGc z332 (wGa te_X2_arrive (wGa zcX2 (wGa t_X2_has (wG0))))
set_option maxHeartbeats 4000000 in
set_option maxRecDepth 100000 in
theorem c_X2_arrive (l : Launch) (G : va_G) (K : Nat → ClassId) (h : Nat) (g : Nat → Nat) (S0 : HS) (a1 : Int32) (sz : Nat) : Met l yX2_arrive v_X2_arrive ({ frames := 1, cells := 0, slots := 0, locals := 21 }) (va_Pc [.ref h, .int a1] (hoS G K h g sz S0 (p_X2_arrive S0 a1))) (va_Qi (fun (r : Int32) (u : HS) => (r, u) = f_X2_arrive S0 a1) (hoB G K h g (va_A (hoW K h g S0) sz)) (va_A (hoW K h g S0) sz)) 0 0 (va_A (hoW K h g S0) sz) := by
  refine Met.ofW (cc := cX2_arrive) (maxL := 2) (ret := (some .int)) (by decide) rfl ?_
  intro p e s m args below meth c s₁ B hml hv
  obtain ⟨rfl, ⟨hsz, hP, hK, hD0, hTE⟩, hp⟩ := hv
  have hx := B.exec
  have hb := B.bytes
  have hr := B.returns
  have hts := atoms_spec (ws := v_X2_arrive) B.pre
  have t_ := t_X2_arrive
  have mw : ∀ w ∈ e_X2_arrive, w ∈ v_X2_arrive := fun w h => List.mem_cons_of_mem _ (List.mem_append_left _ h)
  have hw := fun w (h : w ∈ e_X2_arrive) => hts w (mw w h)
  have iX2 : ∀ w ∈ wsX20, w ∈ v_X2_arrive := fun w h => List.mem_cons_of_mem _ (List.mem_append_right _ (List.mem_append_left _ h))
  have j_X2_has : ∀ w ∈ v_X2_has, w ∈ v_X2_arrive := fun w h => List.mem_cons_of_mem _ (List.mem_append_right _ (List.mem_append_right _ (List.mem_append_left _ h)))
  have hown : s.vm.findClass RX2 = some m.cls := findClass_of_methodNamed B.named
  have hlocks := B.notSynchronized
  subst hsz
  have hD := hD0.self (sz := s.heap.size)
  generalize hAe : va_A (hoW K h g S0) s.heap.size = A at hD ⊢
  have hA : ∀ q : Nat, s.heap.size ≤ q → A q := fun q h => by rw [← hAe]; exact Or.inr h
  have hS : va_S A s.heap s.heap [] := va_S.rf
  have hl := lv_entry ([.ref h, .int a1]) (n := 2) (Nat.le_of_ble_eq_true rfl)
  rw [lg_entry_eq]
  generalize (lg_sl ([.ref h, .int a1]) ++ List.replicate (2 - (lg_sl ([.ref h, .int a1])).length) Slot.unset).toArray = ls at hl ⊢
  have hl : lv_has ls 2 [(0, .ref h), (1, .int a1)] := hl
  refine wGen (fun Q hQ => ?_)
  obtain ⟨X, hX⟩ : ∃ X, f_X2_arrive S0 a1 = X := ⟨_, rfl⟩
  have B_34 : ∀ (S : HS) (x1 : Int32) (H : Heap) (locs : List Loc) (ls : Array Slot), b_X2_arrive_34 S x1 = X → q_X2_arrive_34 S x1 → va_P G vwCl (hoW K h g S) H → va_D A (hoW K h g S) → va_S A s.heap H locs → lv_has ls 2 [(0, .ref h), (1, .int x1)] → W p l e ({ frames := 1, cells := 0, slots := 0, locals := 21 } : Room) s m #[Value.ref h, Value.int a1] below meth c H locs 0 0 Q (F0 m 34 ls []) := by
    intro S x1 H locs ls hE hp hP hD hS hl
    unfold b_X2_arrive_34 at hE
    unfold q_X2_arrive_34 at hp
    refine lv_aload_n hx hb dX2_arrive_34 rfl (lv_at hl 0 rfl) ?_
    refine va_get (D := G) (ci := 1) (v := .int (S.1 2)) (C := RX2) (T := TX2) (N := 8) hx hb hts iX2 hown hK hP 0 rfl rfl 2 (by decide) (hw (.fieldLink RX2 41 "MotionFloor$House" "present" "I") (List.mem_of_getElem? (i := 4) rfl)) (fun _ h9 => h9) rfl dX2_arrive_35 ?_
    subst hQ
    exact W.iret (v := (S.1 2)) hx hb hr (fun t ht hW => ⟨⟨(S.1 2), S, rfl, hE.trans hX.symm, by rw [ht]; exact hP, hD⟩, hS.F ht⟩) hS.2.2 dX2_arrive_38
  have B_M : ∀ (S : HS) (x1 : Int32) (H : Heap) (locs : List Loc) (ls : Array Slot), f_X2_arrive S x1 = X → p_X2_arrive S x1 → va_P G vwCl (hoW K h g S) H → va_D A (hoW K h g S) → va_S A s.heap H locs → lv_has ls 2 [(0, .ref h), (1, .int x1)] → W p l e ({ frames := 1, cells := 0, slots := 0, locals := 21 } : Room) s m #[Value.ref h, Value.int a1] below meth c H locs 0 0 Q (F0 m 0 ls []) := by
    intro S x1 H locs ls hE hp hP hD hS hl
    unfold f_X2_arrive at hE
    unfold p_X2_arrive at hp
    refine lv_aload_n hx hb dX2_arrive_0 rfl (lv_at hl 0 rfl) ?_
    refine lv_iload_n hx hb dX2_arrive_1 rfl (lv_at hl 1 rfl) ?_
    obtain ⟨hy1, hp⟩ := hp
    refine hoGoi (va_runV (As := [.int x1]) (rest := []) ⟨hx, hb, hml, hown, hts⟩ (c_X2_has l G K h g S x1 _) (cwV 1 hts (wGV t_ (mw (.methodLink RX2 53 yX2_has) (List.mem_of_getElem? (i := 0) rfl)) (mw (.instanceMethod yX2_has) (List.mem_of_getElem? (i := 1) rfl)) (mw (.selects RX2 yX2_has yX2_has) (List.mem_of_getElem? (i := 2) rfl)) (mw (.initialized RX2) (List.mem_of_getElem? (i := 3) rfl)) j_X2_has) rfl rfl rfl (by decide +kernel) ⟨Nat.le_of_ble_eq_true rfl, Nat.le_of_ble_eq_true rfl⟩) (hoPV hK hTE hP hD hy1) rfl rfl hl.1 rfl (lv_room (Nat.le_of_ble_eq_true rfl)) dX2_arrive_2 ⟨Nat.le_of_ble_eq_true rfl, Nat.le_of_ble_eq_true rfl⟩) hP hD hS hA (fun r3 u2 H locs hv hP hD hS => ?_)
    rw [← hv] at hE hp
    dsimp only at hE hp
    unfold b_X2_arrive_a5 at hE
    unfold q_X2_arrive_a5 at hp
    refine lv_if_eq (tgt := 34) hx hb dX2_arrive_5 (by decide) (fun c4 => ?_) (fun c4 => ?_)
    · rw [if_pos c4] at hE hp
      exact B_34 u2 x1 _ _ _ hE hp hP hD hS (lv_sub hl [0, 1] rfl)
    · rw [if_neg c4] at hE hp
      refine lv_aload_n hx hb dX2_arrive_8 rfl (lv_at hl 0 rfl) ?_
      refine va_get (D := G) (ci := 1) (v := .ref (g 1)) (C := RX2) (T := TX2) (N := 8) hx hb hts iX2 hown hK hP 0 rfl rfl 1 (by decide) (hw (.fieldLink RX2 9 "MotionFloor$House" "there" "[Z") (List.mem_of_getElem? (i := 5) rfl)) (fun _ h9 => h9) rfl dX2_arrive_9 ?_
      refine lv_iload_n hx hb dX2_arrive_12 rfl (lv_at hl 1 rfl) ?_
      obtain ⟨hy5, hp⟩ := hp
      refine va_zald hx hb hK hP 1 1 rfl rfl hy5 dX2_arrive_13 ?_
      refine lv_if_ne (tgt := 34) hx hb dX2_arrive_14 (by decide) (fun c6 => ?_) (fun c6 => ?_)
      · rw [if_neg c6] at hE hp
        exact B_34 u2 x1 _ _ _ hE hp hP hD hS (lv_sub hl [0, 1] rfl)
      · rw [if_pos c6] at hE hp
        refine lv_aload_n hx hb dX2_arrive_17 rfl (lv_at hl 0 rfl) ?_
        refine va_get (D := G) (ci := 1) (v := .ref (g 1)) (C := RX2) (T := TX2) (N := 8) hx hb hts iX2 hown hK hP 0 rfl rfl 1 (by decide) (hw (.fieldLink RX2 9 "MotionFloor$House" "there" "[Z") (List.mem_of_getElem? (i := 5) rfl)) (fun _ h9 => h9) rfl dX2_arrive_18 ?_
        refine lv_iload_n hx hb dX2_arrive_21 rfl (lv_at hl 1 rfl) ?_
        refine lv_iconst (v := 1) hx hb dX2_arrive_22 (by decide) ?_
        obtain ⟨hy7, hp⟩ := hp
        refine va_zast hx hb hK hP hD hS 1 1 rfl rfl hy7 dX2_arrive_23 (fun H locs hP hD hS => ?_)
        rw [hoA_1] at hP hD
        refine lv_aload_n hx hb dX2_arrive_24 rfl (lv_at hl 0 rfl) ?_
        refine lv_dup hx hb dX2_arrive_25 rfl ?_
        refine va_get (D := G) (ci := 1) (v := .int ((sA u2 1 x1.toNatClampNeg (vp_nar .boolean 1)).1 2)) (C := RX2) (T := TX2) (N := 8) hx hb hts iX2 hown hK hP 0 rfl rfl 2 (by decide) (hw (.fieldLink RX2 41 "MotionFloor$House" "present" "I") (List.mem_of_getElem? (i := 4) rfl)) (fun _ h9 => h9) rfl dX2_arrive_26 ?_
        refine lv_iconst (v := 1) hx hb dX2_arrive_29 (by decide) ?_
        refine lv_iadd hx hb dX2_arrive_30 ?_
        refine va_put (D := G) (ci := 1) (v := .int (((sA u2 1 x1.toNatClampNeg (vp_nar .boolean 1)).1 2) + 1)) (ty := .int) (C := RX2) (T := TX2) (N := 8) hx hb hts iX2 tyX2 tyX2_ok nmX2 hown hK hP hD hS 0 rfl rfl 2 (by decide) (hw (.fieldLink RX2 41 "MotionFloor$House" "present" "I") (List.mem_of_getElem? (i := 4) rfl)) (fun _ h9 => h9) rfl (by decide +kernel) rfl rfl (Nat.le_of_ble_eq_true rfl) dX2_arrive_31 (fun H locs hP hD hS => ?_)
        rw [hoI_2] at hP hD
        exact B_34 (sI (sA u2 1 x1.toNatClampNeg (vp_nar .boolean 1)) 2 (((sA u2 1 x1.toNatClampNeg (vp_nar .boolean 1)).1 2) + 1)) x1 _ _ _ hE hp hP hD hS (lv_sub hl [0, 1] rfl)
  exact B_M S0 a1 _ _ _ hX hp hP hD hS hl
theorem gdX2_leave_0 : ckS (List.drop 0 cX2_leave.data.toList) 0 [(0, .aload_n 0, 1), (1, .iload_n 1, 1), (2, .invokevirtual 57, 3), (5, .ifCond .eq 20, 3), (25, .aload_n 0, 1), (26, .iload_n 1, 1), (27, .invokevirtual 60, 3)] = true := by decide +kernel
theorem dX2_leave_0 : decode cX2_leave 0 = .ok (.aload_n 0, 1) := ckS_g gdX2_leave_0 0 rfl
theorem dX2_leave_1 : decode cX2_leave 1 = .ok (.iload_n 1, 1) := ckS_g gdX2_leave_0 1 rfl
theorem dX2_leave_2 : decode cX2_leave 2 = .ok (.invokevirtual 57, 3) := ckS_g gdX2_leave_0 2 rfl
theorem dX2_leave_5 : decode cX2_leave 5 = .ok (.ifCond .eq 20, 3) := ckS_g gdX2_leave_0 3 rfl
theorem dX2_leave_25 : decode cX2_leave 25 = .ok (.aload_n 0, 1) := ckS_g gdX2_leave_0 4 rfl
theorem dX2_leave_26 : decode cX2_leave 26 = .ok (.iload_n 1, 1) := ckS_g gdX2_leave_0 5 rfl
theorem dX2_leave_27 : decode cX2_leave 27 = .ok (.invokevirtual 60, 3) := ckS_g gdX2_leave_0 6 rfl
theorem gdX2_silence_0 : ckS (List.drop 0 cX2_silence.data.toList) 0 [(0, .aload_n 0, 1), (1, .iload_n 1, 1), (2, .invokevirtual 64, 3), (5, .ifCond .eq 8, 3), (8, .aload_n 0, 1), (9, .iconst (-1), 1), (10, .putfield 44, 3), (13, .return_, 1)] = true := by decide +kernel
theorem dX2_silence_0 : decode cX2_silence 0 = .ok (.aload_n 0, 1) := ckS_g gdX2_silence_0 0 rfl
theorem dX2_silence_1 : decode cX2_silence 1 = .ok (.iload_n 1, 1) := ckS_g gdX2_silence_0 1 rfl
theorem dX2_silence_2 : decode cX2_silence 2 = .ok (.invokevirtual 64, 3) := ckS_g gdX2_silence_0 2 rfl
theorem dX2_silence_5 : decode cX2_silence 5 = .ok (.ifCond .eq 8, 3) := ckS_g gdX2_silence_0 3 rfl
theorem dX2_silence_8 : decode cX2_silence 8 = .ok (.aload_n 0, 1) := ckS_g gdX2_silence_0 4 rfl
theorem dX2_silence_9 : decode cX2_silence 9 = .ok (.iconst (-1), 1) := ckS_g gdX2_silence_0 5 rfl
theorem dX2_silence_10 : decode cX2_silence 10 = .ok (.putfield 44, 3) := ckS_g gdX2_silence_0 6 rfl
theorem dX2_silence_13 : decode cX2_silence 13 = .ok (.return_, 1) := ckS_g gdX2_silence_0 7 rfl
set_option maxRecDepth 100000 in
theorem z333 : wZ (.selects RX2 yX2_hasFloor yX2_hasFloor) := ⟨wT2 (List.mem_of_getElem? (i := 88) (by decide +kernel)), Or.inl rfl⟩
set_option maxRecDepth 100000 in
theorem z334 : wZ (.instanceMethod yX2_hasFloor) := ⟨wT2 (List.mem_of_getElem? (i := 87) (by decide +kernel)), Or.inl rfl⟩
set_option maxRecDepth 100000 in
theorem z335 : wZ (.methodLink RX2 64 yX2_hasFloor) := ⟨wT2 (List.mem_of_getElem? (i := 212) (by decide +kernel)), Or.inl rfl⟩
set_option maxRecDepth 100000 in
theorem z336 : wZ (.code yX2_silence cX2_silence 2 none) := ⟨wT2 (List.mem_of_getElem? (i := 211) rfl), Or.inl rfl⟩
def b_X2_silence_13 (S : HS) (x1 : Int32) : Int32 × HS := (0, S)
def q_X2_silence_13 (S : HS) (x1 : Int32) : Prop := True
def b_X2_silence_a5 (S : HS) (x1 y0 : Int32) : Int32 × HS := if y0 = 0 then (b_X2_silence_13 S x1) else (b_X2_silence_13 (sI S 6 (-1)) x1)
def q_X2_silence_a5 (S : HS) (x1 y0 : Int32) : Prop := (if y0 = 0 then (q_X2_silence_13 S x1) else (q_X2_silence_13 (sI S 6 (-1)) x1))
def f_X2_silence (S : HS) (x1 : Int32) : Int32 × HS := (b_X2_silence_a5 (f_X2_hasFloor S x1).2 x1 (f_X2_hasFloor S x1).1)
def p_X2_silence (S : HS) (x1 : Int32) : Prop := (p_X2_hasFloor S x1) ∧ (q_X2_silence_a5 (f_X2_hasFloor S x1).2 x1 (f_X2_hasFloor S x1).1)
def e_X2_silence : List Cond := [.methodLink RX2 64 yX2_hasFloor, .instanceMethod yX2_hasFloor, .selects RX2 yX2_hasFloor yX2_hasFloor, .initialized RX2, .fieldLink RX2 44 "MotionFloor$House" "speaker" "I"]
def v_X2_silence : List Cond := .code yX2_silence cX2_silence 2 none :: (e_X2_silence ++ (wsX20 ++ (v_X2_hasFloor ++ [])))
theorem te_X2_silence : GoodIn lw_tbl e_X2_silence := wGc z335 (wGc z334 (wGc z333 (wGc z328 (wGc z323 (wG0)))))
theorem t_X2_silence : GoodIn lw_tbl v_X2_silence := wGc z336 (wGa te_X2_silence (wGa zcX2 (wGa t_X2_hasFloor (wG0))))
set_option maxHeartbeats 4000000 in
set_option maxRecDepth 100000 in
theorem c_X2_silence (l : Launch) (G : va_G) (K : Nat → ClassId) (h : Nat) (g : Nat → Nat) (S0 : HS) (a1 : Int32) (sz : Nat) : Met l yX2_silence v_X2_silence ({ frames := 1, cells := 0, slots := 0, locals := 21 }) (va_Pc [.ref h, .int a1] (hoS G K h g sz S0 (p_X2_silence S0 a1))) (va_Qv (fun u : HS => (0, u) = f_X2_silence S0 a1) (hoB G K h g (va_A (hoW K h g S0) sz)) (va_A (hoW K h g S0) sz)) 0 0 (va_A (hoW K h g S0) sz) := by
  refine Met.ofW (cc := cX2_silence) (maxL := 2) (ret := none) (by decide) rfl ?_
  intro p e s m args below meth c s₁ B hml hv
  obtain ⟨rfl, ⟨hsz, hP, hK, hD0, hTE⟩, hp⟩ := hv
  have hx := B.exec
  have hb := B.bytes
  have hr := B.returns
  have hts := atoms_spec (ws := v_X2_silence) B.pre
  have t_ := t_X2_silence
  have mw : ∀ w ∈ e_X2_silence, w ∈ v_X2_silence := fun w h => List.mem_cons_of_mem _ (List.mem_append_left _ h)
  have hw := fun w (h : w ∈ e_X2_silence) => hts w (mw w h)
  have iX2 : ∀ w ∈ wsX20, w ∈ v_X2_silence := fun w h => List.mem_cons_of_mem _ (List.mem_append_right _ (List.mem_append_left _ h))
  have j_X2_hasFloor : ∀ w ∈ v_X2_hasFloor, w ∈ v_X2_silence := fun w h => List.mem_cons_of_mem _ (List.mem_append_right _ (List.mem_append_right _ (List.mem_append_left _ h)))
  have hown : s.vm.findClass RX2 = some m.cls := findClass_of_methodNamed B.named
  have hlocks := B.notSynchronized
  subst hsz
  have hD := hD0.self (sz := s.heap.size)
  generalize hAe : va_A (hoW K h g S0) s.heap.size = A at hD ⊢
  have hA : ∀ q : Nat, s.heap.size ≤ q → A q := fun q h => by rw [← hAe]; exact Or.inr h
  have hS : va_S A s.heap s.heap [] := va_S.rf
  have hl := lv_entry ([.ref h, .int a1]) (n := 2) (Nat.le_of_ble_eq_true rfl)
  rw [lg_entry_eq]
  generalize (lg_sl ([.ref h, .int a1]) ++ List.replicate (2 - (lg_sl ([.ref h, .int a1])).length) Slot.unset).toArray = ls at hl ⊢
  have hl : lv_has ls 2 [(0, .ref h), (1, .int a1)] := hl
  refine wGen (fun Q hQ => ?_)
  obtain ⟨X, hX⟩ : ∃ X, f_X2_silence S0 a1 = X := ⟨_, rfl⟩
  have B_13 : ∀ (S : HS) (x1 : Int32) (H : Heap) (locs : List Loc) (ls : Array Slot), b_X2_silence_13 S x1 = X → q_X2_silence_13 S x1 → va_P G vwCl (hoW K h g S) H → va_D A (hoW K h g S) → va_S A s.heap H locs → lv_has ls 2 [(0, .ref h), (1, .int x1)] → W p l e ({ frames := 1, cells := 0, slots := 0, locals := 21 } : Room) s m #[Value.ref h, Value.int a1] below meth c H locs 0 0 Q (F0 m 13 ls []) := by
    intro S x1 H locs ls hE hp hP hD hS hl
    unfold b_X2_silence_13 at hE
    unfold q_X2_silence_13 at hp
    subst hQ
    exact W.vret hx hb hr (fun t ht hW => ⟨⟨S, rfl, hE.trans hX.symm, by rw [ht]; exact hP, hD⟩, hS.F ht⟩) hS.2.2 dX2_silence_13
  have B_M : ∀ (S : HS) (x1 : Int32) (H : Heap) (locs : List Loc) (ls : Array Slot), f_X2_silence S x1 = X → p_X2_silence S x1 → va_P G vwCl (hoW K h g S) H → va_D A (hoW K h g S) → va_S A s.heap H locs → lv_has ls 2 [(0, .ref h), (1, .int x1)] → W p l e ({ frames := 1, cells := 0, slots := 0, locals := 21 } : Room) s m #[Value.ref h, Value.int a1] below meth c H locs 0 0 Q (F0 m 0 ls []) := by
    intro S x1 H locs ls hE hp hP hD hS hl
    unfold f_X2_silence at hE
    unfold p_X2_silence at hp
    refine lv_aload_n hx hb dX2_silence_0 rfl (lv_at hl 0 rfl) ?_
    refine lv_iload_n hx hb dX2_silence_1 rfl (lv_at hl 1 rfl) ?_
    obtain ⟨hy1, hp⟩ := hp
    refine hoGoi (va_runV (As := [.int x1]) (rest := []) ⟨hx, hb, hml, hown, hts⟩ (c_X2_hasFloor l G K h g S x1 _) (cwV 1 hts (wGV t_ (mw (.methodLink RX2 64 yX2_hasFloor) (List.mem_of_getElem? (i := 0) rfl)) (mw (.instanceMethod yX2_hasFloor) (List.mem_of_getElem? (i := 1) rfl)) (mw (.selects RX2 yX2_hasFloor yX2_hasFloor) (List.mem_of_getElem? (i := 2) rfl)) (mw (.initialized RX2) (List.mem_of_getElem? (i := 3) rfl)) j_X2_hasFloor) rfl rfl rfl (by decide +kernel) ⟨Nat.le_of_ble_eq_true rfl, Nat.le_of_ble_eq_true rfl⟩) (hoPV hK hTE hP hD hy1) rfl rfl hl.1 rfl (lv_room (Nat.le_of_ble_eq_true rfl)) dX2_silence_2 ⟨Nat.le_of_ble_eq_true rfl, Nat.le_of_ble_eq_true rfl⟩) hP hD hS hA (fun r3 u2 H locs hv hP hD hS => ?_)
    rw [← hv] at hE hp
    dsimp only at hE hp
    unfold b_X2_silence_a5 at hE
    unfold q_X2_silence_a5 at hp
    refine lv_if_eq (tgt := 13) hx hb dX2_silence_5 (by decide) (fun c4 => ?_) (fun c4 => ?_)
    · rw [if_pos c4] at hE hp
      exact B_13 u2 x1 _ _ _ hE hp hP hD hS (lv_sub hl [0, 1] rfl)
    · rw [if_neg c4] at hE hp
      refine lv_aload_n hx hb dX2_silence_8 rfl (lv_at hl 0 rfl) ?_
      refine lv_iconst (v := (-1)) hx hb dX2_silence_9 (by decide) ?_
      refine va_put (D := G) (ci := 1) (v := .int (-1)) (ty := .int) (C := RX2) (T := TX2) (N := 8) hx hb hts iX2 tyX2 tyX2_ok nmX2 hown hK hP hD hS 0 rfl rfl 6 (by decide) (hw (.fieldLink RX2 44 "MotionFloor$House" "speaker" "I") (List.mem_of_getElem? (i := 4) rfl)) (fun _ h9 => h9) rfl (by decide +kernel) rfl rfl (Nat.le_of_ble_eq_true rfl) dX2_silence_10 (fun H locs hP hD hS => ?_)
      rw [hoI_6] at hP hD
      exact B_13 (sI u2 6 (-1)) x1 _ _ _ hE hp hP hD hS (lv_sub hl [0, 1] rfl)
  exact B_M S0 a1 _ _ _ hX hp hP hD hS hl
theorem gdX2_leave_8 : ckS (List.drop 8 cX2_leave.data.toList) 8 [(8, .aload_n 0, 1), (9, .getfield 9, 3), (12, .iload_n 1, 1), (13, .iconst 0, 1), (14, .bastore, 1), (15, .aload_n 0, 1), (16, .dup, 1), (17, .getfield 41, 3), (20, .iconst 1, 1), (21, .isub, 1), (22, .putfield 41, 3), (30, .aload_n 0, 1), (31, .getfield 41, 3), (34, .ireturn, 1)] = true := by decide +kernel
theorem dX2_leave_8 : decode cX2_leave 8 = .ok (.aload_n 0, 1) := ckS_g gdX2_leave_8 0 rfl
theorem dX2_leave_9 : decode cX2_leave 9 = .ok (.getfield 9, 3) := ckS_g gdX2_leave_8 1 rfl
theorem dX2_leave_12 : decode cX2_leave 12 = .ok (.iload_n 1, 1) := ckS_g gdX2_leave_8 2 rfl
theorem dX2_leave_13 : decode cX2_leave 13 = .ok (.iconst 0, 1) := ckS_g gdX2_leave_8 3 rfl
theorem dX2_leave_14 : decode cX2_leave 14 = .ok (.bastore, 1) := ckS_g gdX2_leave_8 4 rfl
theorem dX2_leave_15 : decode cX2_leave 15 = .ok (.aload_n 0, 1) := ckS_g gdX2_leave_8 5 rfl
theorem dX2_leave_16 : decode cX2_leave 16 = .ok (.dup, 1) := ckS_g gdX2_leave_8 6 rfl
theorem dX2_leave_17 : decode cX2_leave 17 = .ok (.getfield 41, 3) := ckS_g gdX2_leave_8 7 rfl
theorem dX2_leave_20 : decode cX2_leave 20 = .ok (.iconst 1, 1) := ckS_g gdX2_leave_8 8 rfl
theorem dX2_leave_21 : decode cX2_leave 21 = .ok (.isub, 1) := ckS_g gdX2_leave_8 9 rfl
theorem dX2_leave_22 : decode cX2_leave 22 = .ok (.putfield 41, 3) := ckS_g gdX2_leave_8 10 rfl
theorem dX2_leave_30 : decode cX2_leave 30 = .ok (.aload_n 0, 1) := ckS_g gdX2_leave_8 11 rfl
theorem dX2_leave_31 : decode cX2_leave 31 = .ok (.getfield 41, 3) := ckS_g gdX2_leave_8 12 rfl
theorem dX2_leave_34 : decode cX2_leave 34 = .ok (.ireturn, 1) := ckS_g gdX2_leave_8 13 rfl
set_option maxRecDepth 100000 in
theorem z337 : wZ (.selects RX2 yX2_silence yX2_silence) := ⟨wT2 (List.mem_of_getElem? (i := 210) (by decide +kernel)), Or.inl rfl⟩
set_option maxRecDepth 100000 in
theorem z338 : wZ (.instanceMethod yX2_silence) := ⟨wT2 (List.mem_of_getElem? (i := 209) (by decide +kernel)), Or.inl rfl⟩
set_option maxRecDepth 100000 in
theorem z339 : wZ (.methodLink RX2 60 yX2_silence) := ⟨wT2 (List.mem_of_getElem? (i := 208) (by decide +kernel)), Or.inl rfl⟩
set_option maxRecDepth 100000 in
theorem z340 : wZ (.selects RX2 yX2_isThere yX2_isThere) := ⟨wT2 (List.mem_of_getElem? (i := 64) (by decide +kernel)), Or.inl rfl⟩
set_option maxRecDepth 100000 in
theorem z341 : wZ (.instanceMethod yX2_isThere) := ⟨wT2 (List.mem_of_getElem? (i := 63) (by decide +kernel)), Or.inl rfl⟩
set_option maxRecDepth 100000 in
theorem z342 : wZ (.methodLink RX2 57 yX2_isThere) := ⟨wT2 (List.mem_of_getElem? (i := 207) (by decide +kernel)), Or.inl rfl⟩
set_option maxRecDepth 100000 in
theorem z343 : wZ (.code yX2_leave cX2_leave 2 (some .int)) := ⟨wT2 (List.mem_of_getElem? (i := 206) rfl), Or.inl rfl⟩
def b_X2_leave_a30 (S : HS) (x1 : Int32) : Int32 × HS := ((S.1 2), S)
def q_X2_leave_a30 (S : HS) (x1 : Int32) : Prop := True
def b_X2_leave_25 (S : HS) (x1 : Int32) : Int32 × HS := (b_X2_leave_a30 (f_X2_silence S x1).2 x1)
def q_X2_leave_25 (S : HS) (x1 : Int32) : Prop := (p_X2_silence S x1) ∧ (q_X2_leave_a30 (f_X2_silence S x1).2 x1)
def b_X2_leave_a5 (S : HS) (x1 y0 : Int32) : Int32 × HS := if y0 = 0 then (b_X2_leave_25 S x1) else (b_X2_leave_25 (sI (sA S 1 x1.toNatClampNeg (vp_nar .boolean 0)) 2 (((sA S 1 x1.toNatClampNeg (vp_nar .boolean 0)).1 2) - 1)) x1)
def q_X2_leave_a5 (S : HS) (x1 y0 : Int32) : Prop := (if y0 = 0 then (q_X2_leave_25 S x1) else (vp_in x1 200) ∧ (q_X2_leave_25 (sI (sA S 1 x1.toNatClampNeg (vp_nar .boolean 0)) 2 (((sA S 1 x1.toNatClampNeg (vp_nar .boolean 0)).1 2) - 1)) x1))
def f_X2_leave (S : HS) (x1 : Int32) : Int32 × HS := (b_X2_leave_a5 (f_X2_isThere S x1).2 x1 (f_X2_isThere S x1).1)
def p_X2_leave (S : HS) (x1 : Int32) : Prop := (p_X2_isThere S x1) ∧ (q_X2_leave_a5 (f_X2_isThere S x1).2 x1 (f_X2_isThere S x1).1)
def e_X2_leave : List Cond := [.methodLink RX2 57 yX2_isThere, .instanceMethod yX2_isThere, .selects RX2 yX2_isThere yX2_isThere, .initialized RX2, .methodLink RX2 60 yX2_silence, .instanceMethod yX2_silence, .selects RX2 yX2_silence yX2_silence, .fieldLink RX2 41 "MotionFloor$House" "present" "I", .fieldLink RX2 9 "MotionFloor$House" "there" "[Z"]
def v_X2_leave : List Cond := .code yX2_leave cX2_leave 2 (some .int) :: (e_X2_leave ++ (wsX20 ++ (v_X2_isThere ++ (v_X2_silence ++ []))))
theorem te_X2_leave : GoodIn lw_tbl e_X2_leave := wGc z342 (wGc z341 (wGc z340 (wGc z328 (wGc z339 (wGc z338 (wGc z337 (wGc z326 (wGc z319 (wG0)))))))))
theorem t_X2_leave : GoodIn lw_tbl v_X2_leave := wGc z343 (wGa te_X2_leave (wGa zcX2 (wGa t_X2_isThere (wGa t_X2_silence (wG0)))))
set_option maxHeartbeats 4000000 in
set_option maxRecDepth 100000 in
theorem c_X2_leave (l : Launch) (G : va_G) (K : Nat → ClassId) (h : Nat) (g : Nat → Nat) (S0 : HS) (a1 : Int32) (sz : Nat) : Met l yX2_leave v_X2_leave ({ frames := 2, cells := 0, slots := 0, locals := 42 }) (va_Pc [.ref h, .int a1] (hoS G K h g sz S0 (p_X2_leave S0 a1))) (va_Qi (fun (r : Int32) (u : HS) => (r, u) = f_X2_leave S0 a1) (hoB G K h g (va_A (hoW K h g S0) sz)) (va_A (hoW K h g S0) sz)) 0 0 (va_A (hoW K h g S0) sz) := by
  refine Met.ofW (cc := cX2_leave) (maxL := 2) (ret := (some .int)) (by decide) rfl ?_
  intro p e s m args below meth c s₁ B hml hv
  obtain ⟨rfl, ⟨hsz, hP, hK, hD0, hTE⟩, hp⟩ := hv
  have hx := B.exec
  have hb := B.bytes
  have hr := B.returns
  have hts := atoms_spec (ws := v_X2_leave) B.pre
  have t_ := t_X2_leave
  have mw : ∀ w ∈ e_X2_leave, w ∈ v_X2_leave := fun w h => List.mem_cons_of_mem _ (List.mem_append_left _ h)
  have hw := fun w (h : w ∈ e_X2_leave) => hts w (mw w h)
  have iX2 : ∀ w ∈ wsX20, w ∈ v_X2_leave := fun w h => List.mem_cons_of_mem _ (List.mem_append_right _ (List.mem_append_left _ h))
  have j_X2_isThere : ∀ w ∈ v_X2_isThere, w ∈ v_X2_leave := fun w h => List.mem_cons_of_mem _ (List.mem_append_right _ (List.mem_append_right _ (List.mem_append_left _ h)))
  have j_X2_silence : ∀ w ∈ v_X2_silence, w ∈ v_X2_leave := fun w h => List.mem_cons_of_mem _ (List.mem_append_right _ (List.mem_append_right _ (List.mem_append_right _ (List.mem_append_left _ h))))
  have hown : s.vm.findClass RX2 = some m.cls := findClass_of_methodNamed B.named
  have hlocks := B.notSynchronized
  subst hsz
  have hD := hD0.self (sz := s.heap.size)
  generalize hAe : va_A (hoW K h g S0) s.heap.size = A at hD ⊢
  have hA : ∀ q : Nat, s.heap.size ≤ q → A q := fun q h => by rw [← hAe]; exact Or.inr h
  have hS : va_S A s.heap s.heap [] := va_S.rf
  have hl := lv_entry ([.ref h, .int a1]) (n := 2) (Nat.le_of_ble_eq_true rfl)
  rw [lg_entry_eq]
  generalize (lg_sl ([.ref h, .int a1]) ++ List.replicate (2 - (lg_sl ([.ref h, .int a1])).length) Slot.unset).toArray = ls at hl ⊢
  have hl : lv_has ls 2 [(0, .ref h), (1, .int a1)] := hl
  refine wGen (fun Q hQ => ?_)
  obtain ⟨X, hX⟩ : ∃ X, f_X2_leave S0 a1 = X := ⟨_, rfl⟩
  have B_25 : ∀ (S : HS) (x1 : Int32) (H : Heap) (locs : List Loc) (ls : Array Slot), b_X2_leave_25 S x1 = X → q_X2_leave_25 S x1 → va_P G vwCl (hoW K h g S) H → va_D A (hoW K h g S) → va_S A s.heap H locs → lv_has ls 2 [(0, .ref h), (1, .int x1)] → W p l e ({ frames := 2, cells := 0, slots := 0, locals := 42 } : Room) s m #[Value.ref h, Value.int a1] below meth c H locs 0 0 Q (F0 m 25 ls []) := by
    intro S x1 H locs ls hE hp hP hD hS hl
    unfold b_X2_leave_25 at hE
    unfold q_X2_leave_25 at hp
    refine lv_aload_n hx hb dX2_leave_25 rfl (lv_at hl 0 rfl) ?_
    refine lv_iload_n hx hb dX2_leave_26 rfl (lv_at hl 1 rfl) ?_
    obtain ⟨hy5, hp⟩ := hp
    refine hoGov (va_runV (As := [.int x1]) (rest := []) ⟨hx, hb, hml, hown, hts⟩ (c_X2_silence l G K h g S x1 _) (cwV 1 hts (wGV t_ (mw (.methodLink RX2 60 yX2_silence) (List.mem_of_getElem? (i := 4) rfl)) (mw (.instanceMethod yX2_silence) (List.mem_of_getElem? (i := 5) rfl)) (mw (.selects RX2 yX2_silence yX2_silence) (List.mem_of_getElem? (i := 6) rfl)) (mw (.initialized RX2) (List.mem_of_getElem? (i := 3) rfl)) j_X2_silence) rfl rfl rfl (by decide +kernel) ⟨Nat.le_of_ble_eq_true rfl, Nat.le_of_ble_eq_true rfl⟩) (hoPV hK hTE hP hD hy5) rfl rfl hl.1 rfl (lv_room (Nat.le_of_ble_eq_true rfl)) dX2_leave_27 ⟨Nat.le_of_ble_eq_true rfl, Nat.le_of_ble_eq_true rfl⟩) hP hD hS hA (fun u6 H locs hv hP hD hS => ?_)
    rw [← hv] at hE hp
    dsimp only at hE hp
    unfold b_X2_leave_a30 at hE
    unfold q_X2_leave_a30 at hp
    refine lv_aload_n hx hb dX2_leave_30 rfl (lv_at hl 0 rfl) ?_
    refine va_get (D := G) (ci := 1) (v := .int (u6.1 2)) (C := RX2) (T := TX2) (N := 8) hx hb hts iX2 hown hK hP 0 rfl rfl 2 (by decide) (hw (.fieldLink RX2 41 "MotionFloor$House" "present" "I") (List.mem_of_getElem? (i := 7) rfl)) (fun _ h9 => h9) rfl dX2_leave_31 ?_
    subst hQ
    exact W.iret (v := (u6.1 2)) hx hb hr (fun t ht hW => ⟨⟨(u6.1 2), u6, rfl, hE.trans hX.symm, by rw [ht]; exact hP, hD⟩, hS.F ht⟩) hS.2.2 dX2_leave_34
  have B_M : ∀ (S : HS) (x1 : Int32) (H : Heap) (locs : List Loc) (ls : Array Slot), f_X2_leave S x1 = X → p_X2_leave S x1 → va_P G vwCl (hoW K h g S) H → va_D A (hoW K h g S) → va_S A s.heap H locs → lv_has ls 2 [(0, .ref h), (1, .int x1)] → W p l e ({ frames := 2, cells := 0, slots := 0, locals := 42 } : Room) s m #[Value.ref h, Value.int a1] below meth c H locs 0 0 Q (F0 m 0 ls []) := by
    intro S x1 H locs ls hE hp hP hD hS hl
    unfold f_X2_leave at hE
    unfold p_X2_leave at hp
    refine lv_aload_n hx hb dX2_leave_0 rfl (lv_at hl 0 rfl) ?_
    refine lv_iload_n hx hb dX2_leave_1 rfl (lv_at hl 1 rfl) ?_
    obtain ⟨hy1, hp⟩ := hp
    refine hoGoi (va_runV (As := [.int x1]) (rest := []) ⟨hx, hb, hml, hown, hts⟩ (c_X2_isThere l G K h g S x1 _) (cwV 1 hts (wGV t_ (mw (.methodLink RX2 57 yX2_isThere) (List.mem_of_getElem? (i := 0) rfl)) (mw (.instanceMethod yX2_isThere) (List.mem_of_getElem? (i := 1) rfl)) (mw (.selects RX2 yX2_isThere yX2_isThere) (List.mem_of_getElem? (i := 2) rfl)) (mw (.initialized RX2) (List.mem_of_getElem? (i := 3) rfl)) j_X2_isThere) rfl rfl rfl (by decide +kernel) ⟨Nat.le_of_ble_eq_true rfl, Nat.le_of_ble_eq_true rfl⟩) (hoPV hK hTE hP hD hy1) rfl rfl hl.1 rfl (lv_room (Nat.le_of_ble_eq_true rfl)) dX2_leave_2 ⟨Nat.le_of_ble_eq_true rfl, Nat.le_of_ble_eq_true rfl⟩) hP hD hS hA (fun r3 u2 H locs hv hP hD hS => ?_)
    rw [← hv] at hE hp
    dsimp only at hE hp
    unfold b_X2_leave_a5 at hE
    unfold q_X2_leave_a5 at hp
    refine lv_if_eq (tgt := 25) hx hb dX2_leave_5 (by decide) (fun c4 => ?_) (fun c4 => ?_)
    · rw [if_pos c4] at hE hp
      exact B_25 u2 x1 _ _ _ hE hp hP hD hS (lv_sub hl [0, 1] rfl)
    · rw [if_neg c4] at hE hp
      refine lv_aload_n hx hb dX2_leave_8 rfl (lv_at hl 0 rfl) ?_
      refine va_get (D := G) (ci := 1) (v := .ref (g 1)) (C := RX2) (T := TX2) (N := 8) hx hb hts iX2 hown hK hP 0 rfl rfl 1 (by decide) (hw (.fieldLink RX2 9 "MotionFloor$House" "there" "[Z") (List.mem_of_getElem? (i := 8) rfl)) (fun _ h9 => h9) rfl dX2_leave_9 ?_
      refine lv_iload_n hx hb dX2_leave_12 rfl (lv_at hl 1 rfl) ?_
      refine lv_iconst (v := 0) hx hb dX2_leave_13 (by decide) ?_
      obtain ⟨hy8, hp⟩ := hp
      refine va_zast hx hb hK hP hD hS 1 1 rfl rfl hy8 dX2_leave_14 (fun H locs hP hD hS => ?_)
      rw [hoA_1] at hP hD
      refine lv_aload_n hx hb dX2_leave_15 rfl (lv_at hl 0 rfl) ?_
      refine lv_dup hx hb dX2_leave_16 rfl ?_
      refine va_get (D := G) (ci := 1) (v := .int ((sA u2 1 x1.toNatClampNeg (vp_nar .boolean 0)).1 2)) (C := RX2) (T := TX2) (N := 8) hx hb hts iX2 hown hK hP 0 rfl rfl 2 (by decide) (hw (.fieldLink RX2 41 "MotionFloor$House" "present" "I") (List.mem_of_getElem? (i := 7) rfl)) (fun _ h9 => h9) rfl dX2_leave_17 ?_
      refine lv_iconst (v := 1) hx hb dX2_leave_20 (by decide) ?_
      refine lv_isub hx hb dX2_leave_21 ?_
      refine va_put (D := G) (ci := 1) (v := .int (((sA u2 1 x1.toNatClampNeg (vp_nar .boolean 0)).1 2) - 1)) (ty := .int) (C := RX2) (T := TX2) (N := 8) hx hb hts iX2 tyX2 tyX2_ok nmX2 hown hK hP hD hS 0 rfl rfl 2 (by decide) (hw (.fieldLink RX2 41 "MotionFloor$House" "present" "I") (List.mem_of_getElem? (i := 7) rfl)) (fun _ h9 => h9) rfl (by decide +kernel) rfl rfl (Nat.le_of_ble_eq_true rfl) dX2_leave_22 (fun H locs hP hD hS => ?_)
      rw [hoI_2] at hP hD
      exact B_25 (sI (sA u2 1 x1.toNatClampNeg (vp_nar .boolean 0)) 2 (((sA u2 1 x1.toNatClampNeg (vp_nar .boolean 0)).1 2) - 1)) x1 _ _ _ hE hp hP hD hS (lv_sub hl [0, 1] rfl)
  exact B_M S0 a1 _ _ _ hX hp hP hD hS hl
theorem gdX2_takeChair_0 : ckS (List.drop 0 cX2_takeChair.data.toList) 0 [(0, .aload_n 0, 1), (1, .iload_n 1, 1), (2, .putfield 29, 3), (5, .aload_n 0, 1), (6, .iload_n 1, 1), (7, .invokevirtual 60, 3), (10, .iload_n 1, 1), (11, .ireturn, 1)] = true := by decide +kernel
theorem dX2_takeChair_0 : decode cX2_takeChair 0 = .ok (.aload_n 0, 1) := ckS_g gdX2_takeChair_0 0 rfl
theorem dX2_takeChair_1 : decode cX2_takeChair 1 = .ok (.iload_n 1, 1) := ckS_g gdX2_takeChair_0 1 rfl
theorem dX2_takeChair_2 : decode cX2_takeChair 2 = .ok (.putfield 29, 3) := ckS_g gdX2_takeChair_0 2 rfl
theorem dX2_takeChair_5 : decode cX2_takeChair 5 = .ok (.aload_n 0, 1) := ckS_g gdX2_takeChair_0 3 rfl
theorem dX2_takeChair_6 : decode cX2_takeChair 6 = .ok (.iload_n 1, 1) := ckS_g gdX2_takeChair_0 4 rfl
theorem dX2_takeChair_7 : decode cX2_takeChair 7 = .ok (.invokevirtual 60, 3) := ckS_g gdX2_takeChair_0 5 rfl
theorem dX2_takeChair_10 : decode cX2_takeChair 10 = .ok (.iload_n 1, 1) := ckS_g gdX2_takeChair_0 6 rfl
theorem dX2_takeChair_11 : decode cX2_takeChair 11 = .ok (.ireturn, 1) := ckS_g gdX2_takeChair_0 7 rfl
set_option maxRecDepth 100000 in
theorem z344 : wZ (.fieldLink RX2 29 "MotionFloor$House" "chair" "I") := ⟨wT1 (List.mem_of_getElem? (i := 42) (by decide +kernel)), Or.inl rfl⟩
set_option maxRecDepth 100000 in
theorem z345 : wZ (.code yX2_takeChair cX2_takeChair 2 (some .int)) := ⟨wT2 (List.mem_of_getElem? (i := 216) rfl), Or.inl rfl⟩
def b_X2_takeChair_a10 (S : HS) (x1 : Int32) : Int32 × HS := (x1, S)
def q_X2_takeChair_a10 (S : HS) (x1 : Int32) : Prop := True
def f_X2_takeChair (S : HS) (x1 : Int32) : Int32 × HS := (b_X2_takeChair_a10 (f_X2_silence (sI S 3 x1) x1).2 x1)
def p_X2_takeChair (S : HS) (x1 : Int32) : Prop := (p_X2_silence (sI S 3 x1) x1) ∧ (q_X2_takeChair_a10 (f_X2_silence (sI S 3 x1) x1).2 x1)
def e_X2_takeChair : List Cond := [.fieldLink RX2 29 "MotionFloor$House" "chair" "I", .methodLink RX2 60 yX2_silence, .instanceMethod yX2_silence, .selects RX2 yX2_silence yX2_silence, .initialized RX2]
def v_X2_takeChair : List Cond := .code yX2_takeChair cX2_takeChair 2 (some .int) :: (e_X2_takeChair ++ (wsX20 ++ (v_X2_silence ++ [])))
theorem te_X2_takeChair : GoodIn lw_tbl e_X2_takeChair := wGc z344 (wGc z339 (wGc z338 (wGc z337 (wGc z328 (wG0)))))
theorem t_X2_takeChair : GoodIn lw_tbl v_X2_takeChair := wGc z345 (wGa te_X2_takeChair (wGa zcX2 (wGa t_X2_silence (wG0))))
set_option maxHeartbeats 4000000 in
set_option maxRecDepth 100000 in
theorem c_X2_takeChair (l : Launch) (G : va_G) (K : Nat → ClassId) (h : Nat) (g : Nat → Nat) (S0 : HS) (a1 : Int32) (sz : Nat) : Met l yX2_takeChair v_X2_takeChair ({ frames := 2, cells := 0, slots := 0, locals := 42 }) (va_Pc [.ref h, .int a1] (hoS G K h g sz S0 (p_X2_takeChair S0 a1))) (va_Qi (fun (r : Int32) (u : HS) => (r, u) = f_X2_takeChair S0 a1) (hoB G K h g (va_A (hoW K h g S0) sz)) (va_A (hoW K h g S0) sz)) 0 0 (va_A (hoW K h g S0) sz) := by
  refine Met.ofW (cc := cX2_takeChair) (maxL := 2) (ret := (some .int)) (by decide) rfl ?_
  intro p e s m args below meth c s₁ B hml hv
  obtain ⟨rfl, ⟨hsz, hP, hK, hD0, hTE⟩, hp⟩ := hv
  have hx := B.exec
  have hb := B.bytes
  have hr := B.returns
  have hts := atoms_spec (ws := v_X2_takeChair) B.pre
  have t_ := t_X2_takeChair
  have mw : ∀ w ∈ e_X2_takeChair, w ∈ v_X2_takeChair := fun w h => List.mem_cons_of_mem _ (List.mem_append_left _ h)
  have hw := fun w (h : w ∈ e_X2_takeChair) => hts w (mw w h)
  have iX2 : ∀ w ∈ wsX20, w ∈ v_X2_takeChair := fun w h => List.mem_cons_of_mem _ (List.mem_append_right _ (List.mem_append_left _ h))
  have j_X2_silence : ∀ w ∈ v_X2_silence, w ∈ v_X2_takeChair := fun w h => List.mem_cons_of_mem _ (List.mem_append_right _ (List.mem_append_right _ (List.mem_append_left _ h)))
  have hown : s.vm.findClass RX2 = some m.cls := findClass_of_methodNamed B.named
  have hlocks := B.notSynchronized
  subst hsz
  have hD := hD0.self (sz := s.heap.size)
  generalize hAe : va_A (hoW K h g S0) s.heap.size = A at hD ⊢
  have hA : ∀ q : Nat, s.heap.size ≤ q → A q := fun q h => by rw [← hAe]; exact Or.inr h
  have hS : va_S A s.heap s.heap [] := va_S.rf
  have hl := lv_entry ([.ref h, .int a1]) (n := 2) (Nat.le_of_ble_eq_true rfl)
  rw [lg_entry_eq]
  generalize (lg_sl ([.ref h, .int a1]) ++ List.replicate (2 - (lg_sl ([.ref h, .int a1])).length) Slot.unset).toArray = ls at hl ⊢
  have hl : lv_has ls 2 [(0, .ref h), (1, .int a1)] := hl
  refine wGen (fun Q hQ => ?_)
  obtain ⟨X, hX⟩ : ∃ X, f_X2_takeChair S0 a1 = X := ⟨_, rfl⟩
  have B_M : ∀ (S : HS) (x1 : Int32) (H : Heap) (locs : List Loc) (ls : Array Slot), f_X2_takeChair S x1 = X → p_X2_takeChair S x1 → va_P G vwCl (hoW K h g S) H → va_D A (hoW K h g S) → va_S A s.heap H locs → lv_has ls 2 [(0, .ref h), (1, .int x1)] → W p l e ({ frames := 2, cells := 0, slots := 0, locals := 42 } : Room) s m #[Value.ref h, Value.int a1] below meth c H locs 0 0 Q (F0 m 0 ls []) := by
    intro S x1 H locs ls hE hp hP hD hS hl
    unfold f_X2_takeChair at hE
    unfold p_X2_takeChair at hp
    refine lv_aload_n hx hb dX2_takeChair_0 rfl (lv_at hl 0 rfl) ?_
    refine lv_iload_n hx hb dX2_takeChair_1 rfl (lv_at hl 1 rfl) ?_
    refine va_put (D := G) (ci := 1) (v := .int x1) (ty := .int) (C := RX2) (T := TX2) (N := 8) hx hb hts iX2 tyX2 tyX2_ok nmX2 hown hK hP hD hS 0 rfl rfl 3 (by decide) (hw (.fieldLink RX2 29 "MotionFloor$House" "chair" "I") (List.mem_of_getElem? (i := 0) rfl)) (fun _ h9 => h9) rfl (by decide +kernel) rfl rfl (Nat.le_of_ble_eq_true rfl) dX2_takeChair_2 (fun H locs hP hD hS => ?_)
    rw [hoI_3] at hP hD
    refine lv_aload_n hx hb dX2_takeChair_5 rfl (lv_at hl 0 rfl) ?_
    refine lv_iload_n hx hb dX2_takeChair_6 rfl (lv_at hl 1 rfl) ?_
    obtain ⟨hy1, hp⟩ := hp
    refine hoGov (va_runV (As := [.int x1]) (rest := []) ⟨hx, hb, hml, hown, hts⟩ (c_X2_silence l G K h g (sI S 3 x1) x1 _) (cwV 1 hts (wGV t_ (mw (.methodLink RX2 60 yX2_silence) (List.mem_of_getElem? (i := 1) rfl)) (mw (.instanceMethod yX2_silence) (List.mem_of_getElem? (i := 2) rfl)) (mw (.selects RX2 yX2_silence yX2_silence) (List.mem_of_getElem? (i := 3) rfl)) (mw (.initialized RX2) (List.mem_of_getElem? (i := 4) rfl)) j_X2_silence) rfl rfl rfl (by decide +kernel) ⟨Nat.le_of_ble_eq_true rfl, Nat.le_of_ble_eq_true rfl⟩) (hoPV hK hTE hP hD hy1) rfl rfl hl.1 rfl (lv_room (Nat.le_of_ble_eq_true rfl)) dX2_takeChair_7 ⟨Nat.le_of_ble_eq_true rfl, Nat.le_of_ble_eq_true rfl⟩) hP hD hS hA (fun u2 H locs hv hP hD hS => ?_)
    rw [← hv] at hE hp
    dsimp only at hE hp
    unfold b_X2_takeChair_a10 at hE
    unfold q_X2_takeChair_a10 at hp
    refine lv_iload_n hx hb dX2_takeChair_10 rfl (lv_at hl 1 rfl) ?_
    subst hQ
    exact W.iret (v := x1) hx hb hr (fun t ht hW => ⟨⟨x1, u2, rfl, hE.trans hX.symm, by rw [ht]; exact hP, hD⟩, hS.F ht⟩) hS.2.2 dX2_takeChair_11
  exact B_M S0 a1 _ _ _ hX hp hP hD hS hl
theorem gdX2_empty_0 : ckS (List.drop 0 cX2_empty.data.toList) 0 [(0, .iconst 0, 1), (1, .istore_n 1, 1), (2, .iload_n 1, 1), (3, .aload_n 0, 1), (4, .getfield 9, 3), (7, .arraylength, 1), (8, .if_icmp .ge 16, 3), (11, .aload_n 0, 1), (12, .getfield 9, 3), (15, .iload_n 1, 1), (16, .iconst 0, 1), (17, .bastore, 1), (18, .iinc 1 1, 3), (21, .goto (-19), 3), (24, .aload_n 0, 1), (25, .iconst 0, 1), (26, .putfield 41, 3), (29, .aload_n 0, 1), (30, .iconst (-1), 1), (31, .putfield 44, 3), (34, .return_, 1)] = true := by decide +kernel
theorem dX2_empty_0 : decode cX2_empty 0 = .ok (.iconst 0, 1) := ckS_g gdX2_empty_0 0 rfl
theorem dX2_empty_1 : decode cX2_empty 1 = .ok (.istore_n 1, 1) := ckS_g gdX2_empty_0 1 rfl
theorem dX2_empty_2 : decode cX2_empty 2 = .ok (.iload_n 1, 1) := ckS_g gdX2_empty_0 2 rfl
theorem dX2_empty_3 : decode cX2_empty 3 = .ok (.aload_n 0, 1) := ckS_g gdX2_empty_0 3 rfl
theorem dX2_empty_4 : decode cX2_empty 4 = .ok (.getfield 9, 3) := ckS_g gdX2_empty_0 4 rfl
theorem dX2_empty_7 : decode cX2_empty 7 = .ok (.arraylength, 1) := ckS_g gdX2_empty_0 5 rfl
theorem dX2_empty_8 : decode cX2_empty 8 = .ok (.if_icmp .ge 16, 3) := ckS_g gdX2_empty_0 6 rfl
theorem dX2_empty_11 : decode cX2_empty 11 = .ok (.aload_n 0, 1) := ckS_g gdX2_empty_0 7 rfl
theorem dX2_empty_12 : decode cX2_empty 12 = .ok (.getfield 9, 3) := ckS_g gdX2_empty_0 8 rfl
theorem dX2_empty_15 : decode cX2_empty 15 = .ok (.iload_n 1, 1) := ckS_g gdX2_empty_0 9 rfl
theorem dX2_empty_16 : decode cX2_empty 16 = .ok (.iconst 0, 1) := ckS_g gdX2_empty_0 10 rfl
theorem dX2_empty_17 : decode cX2_empty 17 = .ok (.bastore, 1) := ckS_g gdX2_empty_0 11 rfl
theorem dX2_empty_18 : decode cX2_empty 18 = .ok (.iinc 1 1, 3) := ckS_g gdX2_empty_0 12 rfl
theorem dX2_empty_21 : decode cX2_empty 21 = .ok (.goto (-19), 3) := ckS_g gdX2_empty_0 13 rfl
theorem dX2_empty_24 : decode cX2_empty 24 = .ok (.aload_n 0, 1) := ckS_g gdX2_empty_0 14 rfl
theorem dX2_empty_25 : decode cX2_empty 25 = .ok (.iconst 0, 1) := ckS_g gdX2_empty_0 15 rfl
theorem dX2_empty_26 : decode cX2_empty 26 = .ok (.putfield 41, 3) := ckS_g gdX2_empty_0 16 rfl
theorem dX2_empty_29 : decode cX2_empty 29 = .ok (.aload_n 0, 1) := ckS_g gdX2_empty_0 17 rfl
theorem dX2_empty_30 : decode cX2_empty 30 = .ok (.iconst (-1), 1) := ckS_g gdX2_empty_0 18 rfl
theorem dX2_empty_31 : decode cX2_empty 31 = .ok (.putfield 44, 3) := ckS_g gdX2_empty_0 19 rfl
theorem dX2_empty_34 : decode cX2_empty 34 = .ok (.return_, 1) := ckS_g gdX2_empty_0 20 rfl
set_option maxRecDepth 100000 in
theorem z346 : wZ (.code yX2_empty cX2_empty 2 none) := ⟨wT1 (List.mem_of_getElem? (i := 173) rfl), Or.inl rfl⟩
def st_X2_empty_2 (S : HS) (x1 : Int32) : (Int32 × HS) ⊕ (HS × Int32) := if 200 ≤ x1 then Sum.inl ((0, (sI (sI S 2 0) 6 (-1)))) else Sum.inr ((sA S 1 x1.toNatClampNeg (vp_nar .boolean 0)), (x1 + 1))
def ps_X2_empty_2 (S : HS) (x1 : Int32) : Prop := (if 200 ≤ x1 then True else (vp_in x1 200) ∧ True)
def lp_X2_empty_2 : Nat → HS → Int32 → Int32 × HS
  | 0, S, _ => (0, S)
  | n + 1, S, x1 => match st_X2_empty_2 S x1 with
    | Sum.inl r => r
    | Sum.inr q => lp_X2_empty_2 n q.1 q.2
def lq_X2_empty_2 : Nat → HS → Int32 → Prop
  | 0, _, _ => False
  | n + 1, S, x1 => ps_X2_empty_2 S x1 ∧ (match st_X2_empty_2 S x1 with
    | Sum.inl _ => True
    | Sum.inr q => lq_X2_empty_2 n q.1 q.2)
def f_X2_empty (S : HS)  : Int32 × HS := (lp_X2_empty_2 100000 S 0)
def p_X2_empty (S : HS)  : Prop := (lq_X2_empty_2 100000 S 0)
def e_X2_empty : List Cond := [.fieldLink RX2 9 "MotionFloor$House" "there" "[Z", .fieldLink RX2 41 "MotionFloor$House" "present" "I", .fieldLink RX2 44 "MotionFloor$House" "speaker" "I"]
def v_X2_empty : List Cond := .code yX2_empty cX2_empty 2 none :: (e_X2_empty ++ (wsX20 ++ []))
theorem te_X2_empty : GoodIn lw_tbl e_X2_empty := wGc z319 (wGc z326 (wGc z323 (wG0)))
theorem t_X2_empty : GoodIn lw_tbl v_X2_empty := wGc z346 (wGa te_X2_empty (wGa zcX2 (wG0)))
set_option maxHeartbeats 4000000 in
set_option maxRecDepth 100000 in
theorem c_X2_empty (l : Launch) (G : va_G) (K : Nat → ClassId) (h : Nat) (g : Nat → Nat) (S0 : HS)  (sz : Nat) : Met l yX2_empty v_X2_empty ({ frames := 0, cells := 0, slots := 0, locals := 0 }) (va_Pc [.ref h] (hoS G K h g sz S0 (p_X2_empty S0))) (va_Qv (fun u : HS => (0, u) = f_X2_empty S0) (hoB G K h g (va_A (hoW K h g S0) sz)) (va_A (hoW K h g S0) sz)) 0 0 (va_A (hoW K h g S0) sz) := by
  refine Met.ofW (cc := cX2_empty) (maxL := 2) (ret := none) (by decide) rfl ?_
  intro p e s m args below meth c s₁ B hml hv
  obtain ⟨rfl, ⟨hsz, hP, hK, hD0, hTE⟩, hp⟩ := hv
  have hx := B.exec
  have hb := B.bytes
  have hr := B.returns
  have hts := atoms_spec (ws := v_X2_empty) B.pre
  have t_ := t_X2_empty
  have mw : ∀ w ∈ e_X2_empty, w ∈ v_X2_empty := fun w h => List.mem_cons_of_mem _ (List.mem_append_left _ h)
  have hw := fun w (h : w ∈ e_X2_empty) => hts w (mw w h)
  have iX2 : ∀ w ∈ wsX20, w ∈ v_X2_empty := fun w h => List.mem_cons_of_mem _ (List.mem_append_right _ (List.mem_append_left _ h))
  have hown : s.vm.findClass RX2 = some m.cls := findClass_of_methodNamed B.named
  have hlocks := B.notSynchronized
  subst hsz
  have hD := hD0.self (sz := s.heap.size)
  generalize hAe : va_A (hoW K h g S0) s.heap.size = A at hD ⊢
  have hA : ∀ q : Nat, s.heap.size ≤ q → A q := fun q h => by rw [← hAe]; exact Or.inr h
  have hS : va_S A s.heap s.heap [] := va_S.rf
  have hl := lv_entry ([.ref h]) (n := 2) (Nat.le_of_ble_eq_true rfl)
  rw [lg_entry_eq]
  generalize (lg_sl ([.ref h]) ++ List.replicate (2 - (lg_sl ([.ref h])).length) Slot.unset).toArray = ls at hl ⊢
  have hl : lv_has ls 2 [(0, .ref h)] := hl
  refine wGen (fun Q hQ => ?_)
  obtain ⟨X, hX⟩ : ∃ X, f_X2_empty S0 = X := ⟨_, rfl⟩
  have L_2 : ∀ (n : Nat) (S : HS) (x1 : Int32) (H : Heap) (locs : List Loc) (ls : Array Slot), lp_X2_empty_2 n S x1 = X → lq_X2_empty_2 n S x1 → va_P G vwCl (hoW K h g S) H → va_D A (hoW K h g S) → va_S A s.heap H locs → lv_has ls 2 [(0, .ref h), (1, .int x1)] → W p l e ({ frames := 0, cells := 0, slots := 0, locals := 0 } : Room) s m #[Value.ref h] below meth c H locs 0 0 Q (F0 m 2 ls []) := by
    intro n1
    induction n1 with
    | zero => intro S x1 H locs ls hE hp; exact False.elim hp
    | succ n1 ih1 =>
      intro S x1 H locs ls hO1 hp hP hD hS hl
      rw [lp_X2_empty_2] at hO1
      rw [lq_X2_empty_2] at hp
      obtain ⟨hp, hq1⟩ := hp
      generalize hE : st_X2_empty_2 S x1 = Y1 at hO1 hq1
      unfold st_X2_empty_2 at hE
      unfold ps_X2_empty_2 at hp
      refine lv_iload_n hx hb dX2_empty_2 rfl (lv_at hl 1 rfl) ?_
      refine lv_aload_n hx hb dX2_empty_3 rfl (lv_at hl 0 rfl) ?_
      refine va_get (D := G) (ci := 1) (v := .ref (g 1)) (C := RX2) (T := TX2) (N := 8) hx hb hts iX2 hown hK hP 0 rfl rfl 1 (by decide) (hw (.fieldLink RX2 9 "MotionFloor$House" "there" "[Z") (List.mem_of_getElem? (i := 0) rfl)) (fun _ h9 => h9) rfl dX2_empty_4 ?_
      refine va_alen (v := 200) hx hb hK hP 1 1 rfl rfl rfl dX2_empty_7 ?_
      refine lv_icmp_ge (tgt := 24) hx hb dX2_empty_8 (by decide) (fun c1 => ?_) (fun c1 => ?_)
      · rw [if_pos c1] at hE hp
        subst hE
        have hE := hO1
        dsimp only at hE
        refine lv_aload_n hx hb dX2_empty_24 rfl (lv_at hl 0 rfl) ?_
        refine lv_iconst (v := 0) hx hb dX2_empty_25 (by decide) ?_
        refine va_put (D := G) (ci := 1) (v := .int 0) (ty := .int) (C := RX2) (T := TX2) (N := 8) hx hb hts iX2 tyX2 tyX2_ok nmX2 hown hK hP hD hS 0 rfl rfl 2 (by decide) (hw (.fieldLink RX2 41 "MotionFloor$House" "present" "I") (List.mem_of_getElem? (i := 1) rfl)) (fun _ h9 => h9) rfl (by decide +kernel) rfl rfl (Nat.le_of_ble_eq_true rfl) dX2_empty_26 (fun H locs hP hD hS => ?_)
        rw [hoI_2] at hP hD
        refine lv_aload_n hx hb dX2_empty_29 rfl (lv_at hl 0 rfl) ?_
        refine lv_iconst (v := (-1)) hx hb dX2_empty_30 (by decide) ?_
        refine va_put (D := G) (ci := 1) (v := .int (-1)) (ty := .int) (C := RX2) (T := TX2) (N := 8) hx hb hts iX2 tyX2 tyX2_ok nmX2 hown hK hP hD hS 0 rfl rfl 6 (by decide) (hw (.fieldLink RX2 44 "MotionFloor$House" "speaker" "I") (List.mem_of_getElem? (i := 2) rfl)) (fun _ h9 => h9) rfl (by decide +kernel) rfl rfl (Nat.le_of_ble_eq_true rfl) dX2_empty_31 (fun H locs hP hD hS => ?_)
        rw [hoI_6] at hP hD
        subst hQ
        exact W.vret hx hb hr (fun t ht hW => ⟨⟨(sI (sI S 2 0) 6 (-1)), rfl, hE.trans hX.symm, by rw [ht]; exact hP, hD⟩, hS.F ht⟩) hS.2.2 dX2_empty_34
      · rw [if_neg c1] at hE hp
        refine lv_aload_n hx hb dX2_empty_11 rfl (lv_at hl 0 rfl) ?_
        refine va_get (D := G) (ci := 1) (v := .ref (g 1)) (C := RX2) (T := TX2) (N := 8) hx hb hts iX2 hown hK hP 0 rfl rfl 1 (by decide) (hw (.fieldLink RX2 9 "MotionFloor$House" "there" "[Z") (List.mem_of_getElem? (i := 0) rfl)) (fun _ h9 => h9) rfl dX2_empty_12 ?_
        refine lv_iload_n hx hb dX2_empty_15 rfl (lv_at hl 1 rfl) ?_
        refine lv_iconst (v := 0) hx hb dX2_empty_16 (by decide) ?_
        obtain ⟨hy2, hp⟩ := hp
        refine va_zast hx hb hK hP hD hS 1 1 rfl rfl hy2 dX2_empty_17 (fun H locs hP hD hS => ?_)
        rw [hoA_1] at hP hD
        refine lv_iinc (v := (x1 + 1)) (lv' := [(1, .int (x1 + 1)), (0, .ref h)]) hx hb dX2_empty_18 hl (k := 1) rfl rfl (by decide) rfl (fun ls hl => ?_)
        refine lv_goto (tgt := 2) hx hb dX2_empty_21 (by decide) ?_
        subst hE
        dsimp only at hO1 hq1
        exact ih1 (sA S 1 x1.toNatClampNeg (vp_nar .boolean 0)) (x1 + 1) _ _ _ hO1 hq1 hP hD hS (lv_sub hl [1, 0] rfl)
  have B_M : ∀ (S : HS) (H : Heap) (locs : List Loc) (ls : Array Slot), f_X2_empty S = X → p_X2_empty S → va_P G vwCl (hoW K h g S) H → va_D A (hoW K h g S) → va_S A s.heap H locs → lv_has ls 2 [(0, .ref h)] → W p l e ({ frames := 0, cells := 0, slots := 0, locals := 0 } : Room) s m #[Value.ref h] below meth c H locs 0 0 Q (F0 m 0 ls []) := by
    intro S H locs ls hE hp hP hD hS hl
    unfold f_X2_empty at hE
    unfold p_X2_empty at hp
    refine lv_iconst (v := 0) hx hb dX2_empty_0 (by decide) ?_
    refine lv_istore_n (lv' := [(1, .int 0), (0, .ref h)]) hx hb dX2_empty_1 rfl hl (by decide) rfl (fun ls hl => ?_)
    exact L_2 100000 S 0 _ _ _ hE hp hP hD hS (lv_sub hl [1, 0] rfl)
  exact B_M S0 _ _ _ hX hp hP hD hS hl
theorem gdX2_replaceMajority_0 : ckS (List.drop 0 cX2_replaceMajority.data.toList) 0 [(0, .iload_n 1, 1), (1, .iconst 1, 1), (2, .if_icmp .lt 12, 3), (5, .iload_n 1, 1), (6, .aload_n 0, 1), (7, .getfield 15, 3), (10, .arraylength, 1), (11, .if_icmp .lt 5, 3), (14, .iconst 0, 1), (15, .ireturn, 1), (16, .aload_n 0, 1), (17, .getfield 15, 3), (20, .iload_n 1, 1), (21, .iaload, 1), (22, .istore_n 3, 1), (23, .aload_n 0, 1), (24, .getfield 15, 3), (27, .iload_n 1, 1), (28, .iload_n 2, 1), (29, .iastore, 1), (30, .iload_n 3, 1), (31, .ireturn, 1)] = true := by decide +kernel
theorem dX2_replaceMajority_0 : decode cX2_replaceMajority 0 = .ok (.iload_n 1, 1) := ckS_g gdX2_replaceMajority_0 0 rfl
theorem dX2_replaceMajority_1 : decode cX2_replaceMajority 1 = .ok (.iconst 1, 1) := ckS_g gdX2_replaceMajority_0 1 rfl
theorem dX2_replaceMajority_2 : decode cX2_replaceMajority 2 = .ok (.if_icmp .lt 12, 3) := ckS_g gdX2_replaceMajority_0 2 rfl
theorem dX2_replaceMajority_5 : decode cX2_replaceMajority 5 = .ok (.iload_n 1, 1) := ckS_g gdX2_replaceMajority_0 3 rfl
theorem dX2_replaceMajority_6 : decode cX2_replaceMajority 6 = .ok (.aload_n 0, 1) := ckS_g gdX2_replaceMajority_0 4 rfl
theorem dX2_replaceMajority_7 : decode cX2_replaceMajority 7 = .ok (.getfield 15, 3) := ckS_g gdX2_replaceMajority_0 5 rfl
theorem dX2_replaceMajority_10 : decode cX2_replaceMajority 10 = .ok (.arraylength, 1) := ckS_g gdX2_replaceMajority_0 6 rfl
theorem dX2_replaceMajority_11 : decode cX2_replaceMajority 11 = .ok (.if_icmp .lt 5, 3) := ckS_g gdX2_replaceMajority_0 7 rfl
theorem dX2_replaceMajority_14 : decode cX2_replaceMajority 14 = .ok (.iconst 0, 1) := ckS_g gdX2_replaceMajority_0 8 rfl
theorem dX2_replaceMajority_15 : decode cX2_replaceMajority 15 = .ok (.ireturn, 1) := ckS_g gdX2_replaceMajority_0 9 rfl
theorem dX2_replaceMajority_16 : decode cX2_replaceMajority 16 = .ok (.aload_n 0, 1) := ckS_g gdX2_replaceMajority_0 10 rfl
theorem dX2_replaceMajority_17 : decode cX2_replaceMajority 17 = .ok (.getfield 15, 3) := ckS_g gdX2_replaceMajority_0 11 rfl
theorem dX2_replaceMajority_20 : decode cX2_replaceMajority 20 = .ok (.iload_n 1, 1) := ckS_g gdX2_replaceMajority_0 12 rfl
theorem dX2_replaceMajority_21 : decode cX2_replaceMajority 21 = .ok (.iaload, 1) := ckS_g gdX2_replaceMajority_0 13 rfl
theorem dX2_replaceMajority_22 : decode cX2_replaceMajority 22 = .ok (.istore_n 3, 1) := ckS_g gdX2_replaceMajority_0 14 rfl
theorem dX2_replaceMajority_23 : decode cX2_replaceMajority 23 = .ok (.aload_n 0, 1) := ckS_g gdX2_replaceMajority_0 15 rfl
theorem dX2_replaceMajority_24 : decode cX2_replaceMajority 24 = .ok (.getfield 15, 3) := ckS_g gdX2_replaceMajority_0 16 rfl
theorem dX2_replaceMajority_27 : decode cX2_replaceMajority 27 = .ok (.iload_n 1, 1) := ckS_g gdX2_replaceMajority_0 17 rfl
theorem dX2_replaceMajority_28 : decode cX2_replaceMajority 28 = .ok (.iload_n 2, 1) := ckS_g gdX2_replaceMajority_0 18 rfl
theorem dX2_replaceMajority_29 : decode cX2_replaceMajority 29 = .ok (.iastore, 1) := ckS_g gdX2_replaceMajority_0 19 rfl
theorem dX2_replaceMajority_30 : decode cX2_replaceMajority 30 = .ok (.iload_n 3, 1) := ckS_g gdX2_replaceMajority_0 20 rfl
theorem dX2_replaceMajority_31 : decode cX2_replaceMajority 31 = .ok (.ireturn, 1) := ckS_g gdX2_replaceMajority_0 21 rfl
set_option maxRecDepth 100000 in
theorem z347 : wZ (.fieldLink RX2 15 "MotionFloor$House" "majorities" "[I") := ⟨wT1 (List.mem_of_getElem? (i := 58) (by decide +kernel)), Or.inl rfl⟩
set_option maxRecDepth 100000 in
theorem z348 : wZ (.code yX2_replaceMajority cX2_replaceMajority 4 (some .int)) := ⟨wT2 (List.mem_of_getElem? (i := 220) rfl), Or.inl rfl⟩
def b_X2_replaceMajority_14 (S : HS) (x1 x2 : Int32) : Int32 × HS := (0, S)
def q_X2_replaceMajority_14 (S : HS) (x1 x2 : Int32) : Prop := True
def f_X2_replaceMajority (S : HS) (x1 x2 : Int32) : Int32 × HS := if x1 < 1 then (b_X2_replaceMajority_14 S x1 x2) else if x1 < 9 then ((S.2 7 x1.toNatClampNeg), (sA S 7 x1.toNatClampNeg x2)) else (b_X2_replaceMajority_14 S x1 x2)
def p_X2_replaceMajority (S : HS) (x1 x2 : Int32) : Prop := (if x1 < 1 then (q_X2_replaceMajority_14 S x1 x2) else (if x1 < 9 then (vp_in x1 9) ∧ (vp_in x1 9) ∧ True else (q_X2_replaceMajority_14 S x1 x2)))
def e_X2_replaceMajority : List Cond := [.fieldLink RX2 15 "MotionFloor$House" "majorities" "[I"]
def v_X2_replaceMajority : List Cond := .code yX2_replaceMajority cX2_replaceMajority 4 (some .int) :: (e_X2_replaceMajority ++ (wsX20 ++ []))
theorem te_X2_replaceMajority : GoodIn lw_tbl e_X2_replaceMajority := wGc z347 (wG0)
theorem t_X2_replaceMajority : GoodIn lw_tbl v_X2_replaceMajority := wGc z348 (wGa te_X2_replaceMajority (wGa zcX2 (wG0)))
set_option maxHeartbeats 4000000 in
set_option maxRecDepth 100000 in
theorem c_X2_replaceMajority (l : Launch) (G : va_G) (K : Nat → ClassId) (h : Nat) (g : Nat → Nat) (S0 : HS) (a1 a2 : Int32) (sz : Nat) : Met l yX2_replaceMajority v_X2_replaceMajority ({ frames := 0, cells := 0, slots := 0, locals := 0 }) (va_Pc [.ref h, .int a1, .int a2] (hoS G K h g sz S0 (p_X2_replaceMajority S0 a1 a2))) (va_Qi (fun (r : Int32) (u : HS) => (r, u) = f_X2_replaceMajority S0 a1 a2) (hoB G K h g (va_A (hoW K h g S0) sz)) (va_A (hoW K h g S0) sz)) 0 0 (va_A (hoW K h g S0) sz) := by
  refine Met.ofW (cc := cX2_replaceMajority) (maxL := 4) (ret := (some .int)) (by decide) rfl ?_
  intro p e s m args below meth c s₁ B hml hv
  obtain ⟨rfl, ⟨hsz, hP, hK, hD0, hTE⟩, hp⟩ := hv
  have hx := B.exec
  have hb := B.bytes
  have hr := B.returns
  have hts := atoms_spec (ws := v_X2_replaceMajority) B.pre
  have t_ := t_X2_replaceMajority
  have mw : ∀ w ∈ e_X2_replaceMajority, w ∈ v_X2_replaceMajority := fun w h => List.mem_cons_of_mem _ (List.mem_append_left _ h)
  have hw := fun w (h : w ∈ e_X2_replaceMajority) => hts w (mw w h)
  have iX2 : ∀ w ∈ wsX20, w ∈ v_X2_replaceMajority := fun w h => List.mem_cons_of_mem _ (List.mem_append_right _ (List.mem_append_left _ h))
  have hown : s.vm.findClass RX2 = some m.cls := findClass_of_methodNamed B.named
  have hlocks := B.notSynchronized
  subst hsz
  have hD := hD0.self (sz := s.heap.size)
  generalize hAe : va_A (hoW K h g S0) s.heap.size = A at hD ⊢
  have hA : ∀ q : Nat, s.heap.size ≤ q → A q := fun q h => by rw [← hAe]; exact Or.inr h
  have hS : va_S A s.heap s.heap [] := va_S.rf
  have hl := lv_entry ([.ref h, .int a1, .int a2]) (n := 4) (Nat.le_of_ble_eq_true rfl)
  rw [lg_entry_eq]
  generalize (lg_sl ([.ref h, .int a1, .int a2]) ++ List.replicate (4 - (lg_sl ([.ref h, .int a1, .int a2])).length) Slot.unset).toArray = ls at hl ⊢
  have hl : lv_has ls 4 [(0, .ref h), (1, .int a1), (2, .int a2)] := hl
  refine wGen (fun Q hQ => ?_)
  obtain ⟨X, hX⟩ : ∃ X, f_X2_replaceMajority S0 a1 a2 = X := ⟨_, rfl⟩
  have B_14 : ∀ (S : HS) (x1 x2 : Int32) (H : Heap) (locs : List Loc) (ls : Array Slot), b_X2_replaceMajority_14 S x1 x2 = X → q_X2_replaceMajority_14 S x1 x2 → va_P G vwCl (hoW K h g S) H → va_D A (hoW K h g S) → va_S A s.heap H locs → lv_has ls 4 [(0, .ref h), (1, .int x1), (2, .int x2)] → W p l e ({ frames := 0, cells := 0, slots := 0, locals := 0 } : Room) s m #[Value.ref h, Value.int a1, Value.int a2] below meth c H locs 0 0 Q (F0 m 14 ls []) := by
    intro S x1 x2 H locs ls hE hp hP hD hS hl
    unfold b_X2_replaceMajority_14 at hE
    unfold q_X2_replaceMajority_14 at hp
    refine lv_iconst (v := 0) hx hb dX2_replaceMajority_14 (by decide) ?_
    subst hQ
    exact W.iret (v := 0) hx hb hr (fun t ht hW => ⟨⟨0, S, rfl, hE.trans hX.symm, by rw [ht]; exact hP, hD⟩, hS.F ht⟩) hS.2.2 dX2_replaceMajority_15
  have B_M : ∀ (S : HS) (x1 x2 : Int32) (H : Heap) (locs : List Loc) (ls : Array Slot), f_X2_replaceMajority S x1 x2 = X → p_X2_replaceMajority S x1 x2 → va_P G vwCl (hoW K h g S) H → va_D A (hoW K h g S) → va_S A s.heap H locs → lv_has ls 4 [(0, .ref h), (1, .int x1), (2, .int x2)] → W p l e ({ frames := 0, cells := 0, slots := 0, locals := 0 } : Room) s m #[Value.ref h, Value.int a1, Value.int a2] below meth c H locs 0 0 Q (F0 m 0 ls []) := by
    intro S x1 x2 H locs ls hE hp hP hD hS hl
    unfold f_X2_replaceMajority at hE
    unfold p_X2_replaceMajority at hp
    refine lv_iload_n hx hb dX2_replaceMajority_0 rfl (lv_at hl 1 rfl) ?_
    refine lv_iconst (v := 1) hx hb dX2_replaceMajority_1 (by decide) ?_
    refine lv_icmp_lt (tgt := 14) hx hb dX2_replaceMajority_2 (by decide) (fun c1 => ?_) (fun c1 => ?_)
    · rw [if_pos c1] at hE hp
      exact B_14 S x1 x2 _ _ _ hE hp hP hD hS (lv_sub hl [0, 1, 2] rfl)
    · rw [if_neg c1] at hE hp
      refine lv_iload_n hx hb dX2_replaceMajority_5 rfl (lv_at hl 1 rfl) ?_
      refine lv_aload_n hx hb dX2_replaceMajority_6 rfl (lv_at hl 0 rfl) ?_
      refine va_get (D := G) (ci := 1) (v := .ref (g 7)) (C := RX2) (T := TX2) (N := 8) hx hb hts iX2 hown hK hP 0 rfl rfl 7 (by decide) (hw (.fieldLink RX2 15 "MotionFloor$House" "majorities" "[I") (List.mem_of_getElem? (i := 0) rfl)) (fun _ h9 => h9) rfl dX2_replaceMajority_7 ?_
      refine va_alen (v := 9) hx hb hK hP 2 0 rfl rfl rfl dX2_replaceMajority_10 ?_
      refine lv_icmp_lt (tgt := 16) hx hb dX2_replaceMajority_11 (by decide) (fun c2 => ?_) (fun c2 => ?_)
      · rw [if_pos c2] at hE hp
        refine lv_aload_n hx hb dX2_replaceMajority_16 rfl (lv_at hl 0 rfl) ?_
        refine va_get (D := G) (ci := 1) (v := .ref (g 7)) (C := RX2) (T := TX2) (N := 8) hx hb hts iX2 hown hK hP 0 rfl rfl 7 (by decide) (hw (.fieldLink RX2 15 "MotionFloor$House" "majorities" "[I") (List.mem_of_getElem? (i := 0) rfl)) (fun _ h9 => h9) rfl dX2_replaceMajority_17 ?_
        refine lv_iload_n hx hb dX2_replaceMajority_20 rfl (lv_at hl 1 rfl) ?_
        obtain ⟨hy3, hp⟩ := hp
        refine va_iald hx hb hK hP 2 0 rfl rfl hy3 dX2_replaceMajority_21 ?_
        refine lv_istore_n (lv' := [(3, .int (S.2 7 x1.toNatClampNeg)), (0, .ref h), (1, .int x1), (2, .int x2)]) hx hb dX2_replaceMajority_22 rfl hl (by decide) rfl (fun ls hl => ?_)
        refine lv_aload_n hx hb dX2_replaceMajority_23 rfl (lv_at hl 1 rfl) ?_
        refine va_get (D := G) (ci := 1) (v := .ref (g 7)) (C := RX2) (T := TX2) (N := 8) hx hb hts iX2 hown hK hP 0 rfl rfl 7 (by decide) (hw (.fieldLink RX2 15 "MotionFloor$House" "majorities" "[I") (List.mem_of_getElem? (i := 0) rfl)) (fun _ h9 => h9) rfl dX2_replaceMajority_24 ?_
        refine lv_iload_n hx hb dX2_replaceMajority_27 rfl (lv_at hl 2 rfl) ?_
        refine lv_iload_n hx hb dX2_replaceMajority_28 rfl (lv_at hl 3 rfl) ?_
        obtain ⟨hy4, hp⟩ := hp
        refine va_iast hx hb hK hP hD hS 2 0 rfl rfl hy4 dX2_replaceMajority_29 (fun H locs hP hD hS => ?_)
        rw [hoA_7] at hP hD
        refine lv_iload_n hx hb dX2_replaceMajority_30 rfl (lv_at hl 0 rfl) ?_
        subst hQ
        exact W.iret (v := (S.2 7 x1.toNatClampNeg)) hx hb hr (fun t ht hW => ⟨⟨(S.2 7 x1.toNatClampNeg), (sA S 7 x1.toNatClampNeg x2), rfl, hE.trans hX.symm, by rw [ht]; exact hP, hD⟩, hS.F ht⟩) hS.2.2 dX2_replaceMajority_31
      · rw [if_neg c2] at hE hp
        exact B_14 S x1 x2 _ _ _ hE hp hP hD hS (lv_sub hl [0, 1, 2] rfl)
  exact B_M S0 a1 a2 _ _ _ hX hp hP hD hS hl
theorem gdX2_isMajority_0 : ckS (List.drop 0 cX2_isMajority.data.toList) 0 [(0, .iload_n 1, 1), (1, .iconst 1, 1), (2, .if_icmp .lt 12, 3), (5, .iload_n 1, 1), (6, .aload_n 0, 1), (7, .getfield 15, 3), (10, .arraylength, 1), (11, .if_icmp .lt 7, 3), (14, .iconst 1, 1), (15, .goto 9, 3), (18, .aload_n 0, 1), (19, .getfield 15, 3), (22, .iload_n 1, 1), (23, .iaload, 1), (24, .istore 4, 2), (26, .iload 4, 2), (28, .iconst 1, 1), (29, .if_icmp .ne 14, 3), (32, .iload_n 2, 1), (33, .iload_n 3, 1), (34, .if_icmp .le 7, 3), (37, .iconst 1, 1), (38, .goto 4, 3), (41, .iconst 0, 1), (42, .ireturn, 1), (43, .iload 4, 2), (45, .iconst 2, 1), (46, .if_icmp .ne 24, 3), (49, .iload_n 2, 1), (50, .ifCond .le 18, 3), (53, .iconst 3, 1), (54, .iload_n 2, 1), (55, .imul, 1), (56, .iconst 2, 1), (57, .iload_n 2, 1), (58, .iload_n 3, 1), (59, .iadd, 1), (60, .imul, 1), (61, .if_icmp .lt 7, 3), (64, .iconst 1, 1)] = true := by decide +kernel
theorem dX2_isMajority_0 : decode cX2_isMajority 0 = .ok (.iload_n 1, 1) := ckS_g gdX2_isMajority_0 0 rfl
theorem dX2_isMajority_1 : decode cX2_isMajority 1 = .ok (.iconst 1, 1) := ckS_g gdX2_isMajority_0 1 rfl
theorem dX2_isMajority_2 : decode cX2_isMajority 2 = .ok (.if_icmp .lt 12, 3) := ckS_g gdX2_isMajority_0 2 rfl
theorem dX2_isMajority_5 : decode cX2_isMajority 5 = .ok (.iload_n 1, 1) := ckS_g gdX2_isMajority_0 3 rfl
theorem dX2_isMajority_6 : decode cX2_isMajority 6 = .ok (.aload_n 0, 1) := ckS_g gdX2_isMajority_0 4 rfl
theorem dX2_isMajority_7 : decode cX2_isMajority 7 = .ok (.getfield 15, 3) := ckS_g gdX2_isMajority_0 5 rfl
theorem dX2_isMajority_10 : decode cX2_isMajority 10 = .ok (.arraylength, 1) := ckS_g gdX2_isMajority_0 6 rfl
theorem dX2_isMajority_11 : decode cX2_isMajority 11 = .ok (.if_icmp .lt 7, 3) := ckS_g gdX2_isMajority_0 7 rfl
theorem dX2_isMajority_14 : decode cX2_isMajority 14 = .ok (.iconst 1, 1) := ckS_g gdX2_isMajority_0 8 rfl
theorem dX2_isMajority_15 : decode cX2_isMajority 15 = .ok (.goto 9, 3) := ckS_g gdX2_isMajority_0 9 rfl
theorem dX2_isMajority_18 : decode cX2_isMajority 18 = .ok (.aload_n 0, 1) := ckS_g gdX2_isMajority_0 10 rfl
theorem dX2_isMajority_19 : decode cX2_isMajority 19 = .ok (.getfield 15, 3) := ckS_g gdX2_isMajority_0 11 rfl
theorem dX2_isMajority_22 : decode cX2_isMajority 22 = .ok (.iload_n 1, 1) := ckS_g gdX2_isMajority_0 12 rfl
theorem dX2_isMajority_23 : decode cX2_isMajority 23 = .ok (.iaload, 1) := ckS_g gdX2_isMajority_0 13 rfl
theorem dX2_isMajority_24 : decode cX2_isMajority 24 = .ok (.istore 4, 2) := ckS_g gdX2_isMajority_0 14 rfl
theorem dX2_isMajority_26 : decode cX2_isMajority 26 = .ok (.iload 4, 2) := ckS_g gdX2_isMajority_0 15 rfl
theorem dX2_isMajority_28 : decode cX2_isMajority 28 = .ok (.iconst 1, 1) := ckS_g gdX2_isMajority_0 16 rfl
theorem dX2_isMajority_29 : decode cX2_isMajority 29 = .ok (.if_icmp .ne 14, 3) := ckS_g gdX2_isMajority_0 17 rfl
theorem dX2_isMajority_32 : decode cX2_isMajority 32 = .ok (.iload_n 2, 1) := ckS_g gdX2_isMajority_0 18 rfl
theorem dX2_isMajority_33 : decode cX2_isMajority 33 = .ok (.iload_n 3, 1) := ckS_g gdX2_isMajority_0 19 rfl
theorem dX2_isMajority_34 : decode cX2_isMajority 34 = .ok (.if_icmp .le 7, 3) := ckS_g gdX2_isMajority_0 20 rfl
theorem dX2_isMajority_37 : decode cX2_isMajority 37 = .ok (.iconst 1, 1) := ckS_g gdX2_isMajority_0 21 rfl
theorem dX2_isMajority_38 : decode cX2_isMajority 38 = .ok (.goto 4, 3) := ckS_g gdX2_isMajority_0 22 rfl
theorem dX2_isMajority_41 : decode cX2_isMajority 41 = .ok (.iconst 0, 1) := ckS_g gdX2_isMajority_0 23 rfl
theorem dX2_isMajority_42 : decode cX2_isMajority 42 = .ok (.ireturn, 1) := ckS_g gdX2_isMajority_0 24 rfl
theorem dX2_isMajority_43 : decode cX2_isMajority 43 = .ok (.iload 4, 2) := ckS_g gdX2_isMajority_0 25 rfl
theorem dX2_isMajority_45 : decode cX2_isMajority 45 = .ok (.iconst 2, 1) := ckS_g gdX2_isMajority_0 26 rfl
theorem dX2_isMajority_46 : decode cX2_isMajority 46 = .ok (.if_icmp .ne 24, 3) := ckS_g gdX2_isMajority_0 27 rfl
theorem dX2_isMajority_49 : decode cX2_isMajority 49 = .ok (.iload_n 2, 1) := ckS_g gdX2_isMajority_0 28 rfl
theorem dX2_isMajority_50 : decode cX2_isMajority 50 = .ok (.ifCond .le 18, 3) := ckS_g gdX2_isMajority_0 29 rfl
theorem dX2_isMajority_53 : decode cX2_isMajority 53 = .ok (.iconst 3, 1) := ckS_g gdX2_isMajority_0 30 rfl
theorem dX2_isMajority_54 : decode cX2_isMajority 54 = .ok (.iload_n 2, 1) := ckS_g gdX2_isMajority_0 31 rfl
theorem dX2_isMajority_55 : decode cX2_isMajority 55 = .ok (.imul, 1) := ckS_g gdX2_isMajority_0 32 rfl
theorem dX2_isMajority_56 : decode cX2_isMajority 56 = .ok (.iconst 2, 1) := ckS_g gdX2_isMajority_0 33 rfl
theorem dX2_isMajority_57 : decode cX2_isMajority 57 = .ok (.iload_n 2, 1) := ckS_g gdX2_isMajority_0 34 rfl
theorem dX2_isMajority_58 : decode cX2_isMajority 58 = .ok (.iload_n 3, 1) := ckS_g gdX2_isMajority_0 35 rfl
theorem dX2_isMajority_59 : decode cX2_isMajority 59 = .ok (.iadd, 1) := ckS_g gdX2_isMajority_0 36 rfl
theorem dX2_isMajority_60 : decode cX2_isMajority 60 = .ok (.imul, 1) := ckS_g gdX2_isMajority_0 37 rfl
theorem dX2_isMajority_61 : decode cX2_isMajority 61 = .ok (.if_icmp .lt 7, 3) := ckS_g gdX2_isMajority_0 38 rfl
theorem dX2_isMajority_64 : decode cX2_isMajority 64 = .ok (.iconst 1, 1) := ckS_g gdX2_isMajority_0 39 rfl
theorem gdX2_isMajority_65 : ckS (List.drop 65 cX2_isMajority.data.toList) 65 [(65, .goto 4, 3), (68, .iconst 0, 1), (69, .ireturn, 1), (70, .iconst 2, 1), (71, .iload_n 2, 1), (72, .imul, 1), (73, .aload_n 0, 1), (74, .getfield 19, 3), (77, .if_icmp .le 7, 3), (80, .iconst 1, 1), (81, .goto 4, 3), (84, .iconst 0, 1), (85, .ireturn, 1)] = true := by decide +kernel
theorem dX2_isMajority_65 : decode cX2_isMajority 65 = .ok (.goto 4, 3) := ckS_g gdX2_isMajority_65 0 rfl
theorem dX2_isMajority_68 : decode cX2_isMajority 68 = .ok (.iconst 0, 1) := ckS_g gdX2_isMajority_65 1 rfl
theorem dX2_isMajority_69 : decode cX2_isMajority 69 = .ok (.ireturn, 1) := ckS_g gdX2_isMajority_65 2 rfl
theorem dX2_isMajority_70 : decode cX2_isMajority 70 = .ok (.iconst 2, 1) := ckS_g gdX2_isMajority_65 3 rfl
theorem dX2_isMajority_71 : decode cX2_isMajority 71 = .ok (.iload_n 2, 1) := ckS_g gdX2_isMajority_65 4 rfl
theorem dX2_isMajority_72 : decode cX2_isMajority 72 = .ok (.imul, 1) := ckS_g gdX2_isMajority_65 5 rfl
theorem dX2_isMajority_73 : decode cX2_isMajority 73 = .ok (.aload_n 0, 1) := ckS_g gdX2_isMajority_65 6 rfl
theorem dX2_isMajority_74 : decode cX2_isMajority 74 = .ok (.getfield 19, 3) := ckS_g gdX2_isMajority_65 7 rfl
theorem dX2_isMajority_77 : decode cX2_isMajority 77 = .ok (.if_icmp .le 7, 3) := ckS_g gdX2_isMajority_65 8 rfl
theorem dX2_isMajority_80 : decode cX2_isMajority 80 = .ok (.iconst 1, 1) := ckS_g gdX2_isMajority_65 9 rfl
theorem dX2_isMajority_81 : decode cX2_isMajority 81 = .ok (.goto 4, 3) := ckS_g gdX2_isMajority_65 10 rfl
theorem dX2_isMajority_84 : decode cX2_isMajority 84 = .ok (.iconst 0, 1) := ckS_g gdX2_isMajority_65 11 rfl
theorem dX2_isMajority_85 : decode cX2_isMajority 85 = .ok (.ireturn, 1) := ckS_g gdX2_isMajority_65 12 rfl
set_option maxRecDepth 100000 in
theorem z349 : wZ (.code yX2_isMajority cX2_isMajority 5 (some .boolean)) := ⟨wT3 (List.mem_of_getElem? (i := 181) rfl), Or.inl rfl⟩
def b_X2_isMajority_85 (S : HS) (x1 x2 x3 x4 y0 : Int32) : Int32 × HS := (y0, S)
def q_X2_isMajority_85 (S : HS) (x1 x2 x3 x4 y0 : Int32) : Prop := (narrow .boolean (.int y0) = .int y0) ∧ True
def b_X2_isMajority_69 (S : HS) (x1 x2 x3 x4 y0 : Int32) : Int32 × HS := (y0, S)
def q_X2_isMajority_69 (S : HS) (x1 x2 x3 x4 y0 : Int32) : Prop := (narrow .boolean (.int y0) = .int y0) ∧ True
def b_X2_isMajority_68 (S : HS) (x1 x2 x3 x4 : Int32) : Int32 × HS := (b_X2_isMajority_69 S x1 x2 x3 x4 0)
def q_X2_isMajority_68 (S : HS) (x1 x2 x3 x4 : Int32) : Prop := (q_X2_isMajority_69 S x1 x2 x3 x4 0)
def b_X2_isMajority_42 (S : HS) (x1 x2 x3 x4 y0 : Int32) : Int32 × HS := (y0, S)
def q_X2_isMajority_42 (S : HS) (x1 x2 x3 x4 y0 : Int32) : Prop := (narrow .boolean (.int y0) = .int y0) ∧ True
def b_X2_isMajority_24 (S : HS) (x1 x2 x3 y0 : Int32) : Int32 × HS := if y0 = 1 then if x2 ≤ x3 then (b_X2_isMajority_42 S x1 x2 x3 y0 0) else (b_X2_isMajority_42 S x1 x2 x3 y0 1) else if y0 = 2 then if x2 ≤ 0 then (b_X2_isMajority_68 S x1 x2 x3 y0) else if (3 * x2) < (2 * (x2 + x3)) then (b_X2_isMajority_68 S x1 x2 x3 y0) else (b_X2_isMajority_69 S x1 x2 x3 y0 1) else if (2 * x2) ≤ (S.1 0) then (b_X2_isMajority_85 S x1 x2 x3 y0 0) else (b_X2_isMajority_85 S x1 x2 x3 y0 1)
def q_X2_isMajority_24 (S : HS) (x1 x2 x3 y0 : Int32) : Prop := (if y0 = 1 then (if x2 ≤ x3 then (q_X2_isMajority_42 S x1 x2 x3 y0 0) else (q_X2_isMajority_42 S x1 x2 x3 y0 1)) else (if y0 = 2 then (if x2 ≤ 0 then (q_X2_isMajority_68 S x1 x2 x3 y0) else (if (3 * x2) < (2 * (x2 + x3)) then (q_X2_isMajority_68 S x1 x2 x3 y0) else (q_X2_isMajority_69 S x1 x2 x3 y0 1))) else (if (2 * x2) ≤ (S.1 0) then (q_X2_isMajority_85 S x1 x2 x3 y0 0) else (q_X2_isMajority_85 S x1 x2 x3 y0 1))))
def b_X2_isMajority_14 (S : HS) (x1 x2 x3 : Int32) : Int32 × HS := (b_X2_isMajority_24 S x1 x2 x3 1)
def q_X2_isMajority_14 (S : HS) (x1 x2 x3 : Int32) : Prop := (q_X2_isMajority_24 S x1 x2 x3 1)
def f_X2_isMajority (S : HS) (x1 x2 x3 : Int32) : Int32 × HS := if x1 < 1 then (b_X2_isMajority_14 S x1 x2 x3) else if x1 < 9 then (b_X2_isMajority_24 S x1 x2 x3 (S.2 7 x1.toNatClampNeg)) else (b_X2_isMajority_14 S x1 x2 x3)
def p_X2_isMajority (S : HS) (x1 x2 x3 : Int32) : Prop := (if x1 < 1 then (q_X2_isMajority_14 S x1 x2 x3) else (if x1 < 9 then (vp_in x1 9) ∧ (q_X2_isMajority_24 S x1 x2 x3 (S.2 7 x1.toNatClampNeg)) else (q_X2_isMajority_14 S x1 x2 x3)))
def e_X2_isMajority : List Cond := [.fieldLink RX2 19 "MotionFloor$House" "seats" "I", .fieldLink RX2 15 "MotionFloor$House" "majorities" "[I"]
def v_X2_isMajority : List Cond := .code yX2_isMajority cX2_isMajority 5 (some .boolean) :: (e_X2_isMajority ++ (wsX20 ++ []))
theorem te_X2_isMajority : GoodIn lw_tbl e_X2_isMajority := wGc z320 (wGc z347 (wG0))
theorem t_X2_isMajority : GoodIn lw_tbl v_X2_isMajority := wGc z349 (wGa te_X2_isMajority (wGa zcX2 (wG0)))
set_option maxHeartbeats 4000000 in
set_option maxRecDepth 100000 in
theorem c_X2_isMajority (l : Launch) (G : va_G) (K : Nat → ClassId) (h : Nat) (g : Nat → Nat) (S0 : HS) (a1 a2 a3 : Int32) (sz : Nat) : Met l yX2_isMajority v_X2_isMajority ({ frames := 0, cells := 0, slots := 0, locals := 0 }) (va_Pc [.ref h, .int a1, .int a2, .int a3] (hoS G K h g sz S0 (p_X2_isMajority S0 a1 a2 a3))) (va_Qi (fun (r : Int32) (u : HS) => (r, u) = f_X2_isMajority S0 a1 a2 a3) (hoB G K h g (va_A (hoW K h g S0) sz)) (va_A (hoW K h g S0) sz)) 0 0 (va_A (hoW K h g S0) sz) := by
  refine Met.ofW (cc := cX2_isMajority) (maxL := 5) (ret := (some .boolean)) (by decide) rfl ?_
  intro p e s m args below meth c s₁ B hml hv
  obtain ⟨rfl, ⟨hsz, hP, hK, hD0, hTE⟩, hp⟩ := hv
  have hx := B.exec
  have hb := B.bytes
  have hr := B.returns
  have hts := atoms_spec (ws := v_X2_isMajority) B.pre
  have t_ := t_X2_isMajority
  have mw : ∀ w ∈ e_X2_isMajority, w ∈ v_X2_isMajority := fun w h => List.mem_cons_of_mem _ (List.mem_append_left _ h)
  have hw := fun w (h : w ∈ e_X2_isMajority) => hts w (mw w h)
  have iX2 : ∀ w ∈ wsX20, w ∈ v_X2_isMajority := fun w h => List.mem_cons_of_mem _ (List.mem_append_right _ (List.mem_append_left _ h))
  have hown : s.vm.findClass RX2 = some m.cls := findClass_of_methodNamed B.named
  have hlocks := B.notSynchronized
  subst hsz
  have hD := hD0.self (sz := s.heap.size)
  generalize hAe : va_A (hoW K h g S0) s.heap.size = A at hD ⊢
  have hA : ∀ q : Nat, s.heap.size ≤ q → A q := fun q h => by rw [← hAe]; exact Or.inr h
  have hS : va_S A s.heap s.heap [] := va_S.rf
  have hl := lv_entry ([.ref h, .int a1, .int a2, .int a3]) (n := 5) (Nat.le_of_ble_eq_true rfl)
  rw [lg_entry_eq]
  generalize (lg_sl ([.ref h, .int a1, .int a2, .int a3]) ++ List.replicate (5 - (lg_sl ([.ref h, .int a1, .int a2, .int a3])).length) Slot.unset).toArray = ls at hl ⊢
  have hl : lv_has ls 5 [(0, .ref h), (1, .int a1), (2, .int a2), (3, .int a3)] := hl
  refine wGen (fun Q hQ => ?_)
  obtain ⟨X, hX⟩ : ∃ X, f_X2_isMajority S0 a1 a2 a3 = X := ⟨_, rfl⟩
  have B_85 : ∀ (S : HS) (x1 x2 x3 x4 y0 : Int32) (H : Heap) (locs : List Loc) (ls : Array Slot), b_X2_isMajority_85 S x1 x2 x3 x4 y0 = X → q_X2_isMajority_85 S x1 x2 x3 x4 y0 → va_P G vwCl (hoW K h g S) H → va_D A (hoW K h g S) → va_S A s.heap H locs → lv_has ls 5 [(0, .ref h), (1, .int x1), (2, .int x2), (3, .int x3), (4, .int x4)] → W p l e ({ frames := 0, cells := 0, slots := 0, locals := 0 } : Room) s m #[Value.ref h, Value.int a1, Value.int a2, Value.int a3] below meth c H locs 0 0 Q (F0 m 85 ls [.int y0]) := by
    intro S x1 x2 x3 x4 y0 H locs ls hE hp hP hD hS hl
    unfold b_X2_isMajority_85 at hE
    unfold q_X2_isMajority_85 at hp
    obtain ⟨hy5, hp⟩ := hp
    subst hQ
    exact W.zret (v := y0) (ty := .boolean) hx hb hr hy5 (fun t ht hW => ⟨⟨y0, S, rfl, hE.trans hX.symm, by rw [ht]; exact hP, hD⟩, hS.F ht⟩) hS.2.2 dX2_isMajority_85
  have B_69 : ∀ (S : HS) (x1 x2 x3 x4 y0 : Int32) (H : Heap) (locs : List Loc) (ls : Array Slot), b_X2_isMajority_69 S x1 x2 x3 x4 y0 = X → q_X2_isMajority_69 S x1 x2 x3 x4 y0 → va_P G vwCl (hoW K h g S) H → va_D A (hoW K h g S) → va_S A s.heap H locs → lv_has ls 5 [(0, .ref h), (1, .int x1), (2, .int x2), (3, .int x3), (4, .int x4)] → W p l e ({ frames := 0, cells := 0, slots := 0, locals := 0 } : Room) s m #[Value.ref h, Value.int a1, Value.int a2, Value.int a3] below meth c H locs 0 0 Q (F0 m 69 ls [.int y0]) := by
    intro S x1 x2 x3 x4 y0 H locs ls hE hp hP hD hS hl
    unfold b_X2_isMajority_69 at hE
    unfold q_X2_isMajority_69 at hp
    obtain ⟨hy7, hp⟩ := hp
    subst hQ
    exact W.zret (v := y0) (ty := .boolean) hx hb hr hy7 (fun t ht hW => ⟨⟨y0, S, rfl, hE.trans hX.symm, by rw [ht]; exact hP, hD⟩, hS.F ht⟩) hS.2.2 dX2_isMajority_69
  have B_68 : ∀ (S : HS) (x1 x2 x3 x4 : Int32) (H : Heap) (locs : List Loc) (ls : Array Slot), b_X2_isMajority_68 S x1 x2 x3 x4 = X → q_X2_isMajority_68 S x1 x2 x3 x4 → va_P G vwCl (hoW K h g S) H → va_D A (hoW K h g S) → va_S A s.heap H locs → lv_has ls 5 [(0, .ref h), (1, .int x1), (2, .int x2), (3, .int x3), (4, .int x4)] → W p l e ({ frames := 0, cells := 0, slots := 0, locals := 0 } : Room) s m #[Value.ref h, Value.int a1, Value.int a2, Value.int a3] below meth c H locs 0 0 Q (F0 m 68 ls []) := by
    intro S x1 x2 x3 x4 H locs ls hE hp hP hD hS hl
    unfold b_X2_isMajority_68 at hE
    unfold q_X2_isMajority_68 at hp
    refine lv_iconst (v := 0) hx hb dX2_isMajority_68 (by decide) ?_
    exact B_69 S x1 x2 x3 x4 0 _ _ _ hE hp hP hD hS (lv_sub hl [0, 1, 2, 3, 4] rfl)
  have B_42 : ∀ (S : HS) (x1 x2 x3 x4 y0 : Int32) (H : Heap) (locs : List Loc) (ls : Array Slot), b_X2_isMajority_42 S x1 x2 x3 x4 y0 = X → q_X2_isMajority_42 S x1 x2 x3 x4 y0 → va_P G vwCl (hoW K h g S) H → va_D A (hoW K h g S) → va_S A s.heap H locs → lv_has ls 5 [(0, .ref h), (1, .int x1), (2, .int x2), (3, .int x3), (4, .int x4)] → W p l e ({ frames := 0, cells := 0, slots := 0, locals := 0 } : Room) s m #[Value.ref h, Value.int a1, Value.int a2, Value.int a3] below meth c H locs 0 0 Q (F0 m 42 ls [.int y0]) := by
    intro S x1 x2 x3 x4 y0 H locs ls hE hp hP hD hS hl
    unfold b_X2_isMajority_42 at hE
    unfold q_X2_isMajority_42 at hp
    obtain ⟨hy10, hp⟩ := hp
    subst hQ
    exact W.zret (v := y0) (ty := .boolean) hx hb hr hy10 (fun t ht hW => ⟨⟨y0, S, rfl, hE.trans hX.symm, by rw [ht]; exact hP, hD⟩, hS.F ht⟩) hS.2.2 dX2_isMajority_42
  have B_24 : ∀ (S : HS) (x1 x2 x3 y0 : Int32) (H : Heap) (locs : List Loc) (ls : Array Slot), b_X2_isMajority_24 S x1 x2 x3 y0 = X → q_X2_isMajority_24 S x1 x2 x3 y0 → va_P G vwCl (hoW K h g S) H → va_D A (hoW K h g S) → va_S A s.heap H locs → lv_has ls 5 [(0, .ref h), (1, .int x1), (2, .int x2), (3, .int x3)] → W p l e ({ frames := 0, cells := 0, slots := 0, locals := 0 } : Room) s m #[Value.ref h, Value.int a1, Value.int a2, Value.int a3] below meth c H locs 0 0 Q (F0 m 24 ls [.int y0]) := by
    intro S x1 x2 x3 y0 H locs ls hE hp hP hD hS hl
    unfold b_X2_isMajority_24 at hE
    unfold q_X2_isMajority_24 at hp
    refine lv_istore (lv' := [(4, .int y0), (0, .ref h), (1, .int x1), (2, .int x2), (3, .int x3)]) hx hb dX2_isMajority_24 hl (by decide) rfl (fun ls hl => ?_)
    refine lv_iload hx hb dX2_isMajority_26 (lv_at hl 0 rfl) ?_
    refine lv_iconst (v := 1) hx hb dX2_isMajority_28 (by decide) ?_
    refine lv_icmp_ne (tgt := 43) hx hb dX2_isMajority_29 (by decide) (fun c2 => ?_) (fun c2 => ?_)
    · rw [if_neg c2] at hE hp
      refine lv_iload hx hb dX2_isMajority_43 (lv_at hl 0 rfl) ?_
      refine lv_iconst (v := 2) hx hb dX2_isMajority_45 (by decide) ?_
      refine lv_icmp_ne (tgt := 70) hx hb dX2_isMajority_46 (by decide) (fun c3 => ?_) (fun c3 => ?_)
      · rw [if_neg c3] at hE hp
        refine lv_iconst (v := 2) hx hb dX2_isMajority_70 (by decide) ?_
        refine lv_iload_n hx hb dX2_isMajority_71 rfl (lv_at hl 3 rfl) ?_
        refine lv_imul hx hb dX2_isMajority_72 ?_
        refine lv_aload_n hx hb dX2_isMajority_73 rfl (lv_at hl 1 rfl) ?_
        refine va_get (D := G) (ci := 1) (v := .int (S.1 0)) (C := RX2) (T := TX2) (N := 8) hx hb hts iX2 hown hK hP 0 rfl rfl 0 (by decide) (hw (.fieldLink RX2 19 "MotionFloor$House" "seats" "I") (List.mem_of_getElem? (i := 0) rfl)) (fun _ h9 => h9) rfl dX2_isMajority_74 ?_
        refine lv_icmp_le (tgt := 84) hx hb dX2_isMajority_77 (by decide) (fun c4 => ?_) (fun c4 => ?_)
        · rw [if_pos c4] at hE hp
          refine lv_iconst (v := 0) hx hb dX2_isMajority_84 (by decide) ?_
          exact B_85 S x1 x2 x3 y0 0 _ _ _ hE hp hP hD hS (lv_sub hl [1, 2, 3, 4, 0] rfl)
        · rw [if_neg c4] at hE hp
          refine lv_iconst (v := 1) hx hb dX2_isMajority_80 (by decide) ?_
          refine lv_goto (tgt := 85) hx hb dX2_isMajority_81 (by decide) ?_
          exact B_85 S x1 x2 x3 y0 1 _ _ _ hE hp hP hD hS (lv_sub hl [1, 2, 3, 4, 0] rfl)
      · rw [if_pos c3] at hE hp
        refine lv_iload_n hx hb dX2_isMajority_49 rfl (lv_at hl 3 rfl) ?_
        refine lv_if_le (tgt := 68) hx hb dX2_isMajority_50 (by decide) (fun c6 => ?_) (fun c6 => ?_)
        · rw [if_pos c6] at hE hp
          exact B_68 S x1 x2 x3 y0 _ _ _ hE hp hP hD hS (lv_sub hl [1, 2, 3, 4, 0] rfl)
        · rw [if_neg c6] at hE hp
          refine lv_iconst (v := 3) hx hb dX2_isMajority_53 (by decide) ?_
          refine lv_iload_n hx hb dX2_isMajority_54 rfl (lv_at hl 3 rfl) ?_
          refine lv_imul hx hb dX2_isMajority_55 ?_
          refine lv_iconst (v := 2) hx hb dX2_isMajority_56 (by decide) ?_
          refine lv_iload_n hx hb dX2_isMajority_57 rfl (lv_at hl 3 rfl) ?_
          refine lv_iload_n hx hb dX2_isMajority_58 rfl (lv_at hl 4 rfl) ?_
          refine lv_iadd hx hb dX2_isMajority_59 ?_
          refine lv_imul hx hb dX2_isMajority_60 ?_
          refine lv_icmp_lt (tgt := 68) hx hb dX2_isMajority_61 (by decide) (fun c8 => ?_) (fun c8 => ?_)
          · rw [if_pos c8] at hE hp
            exact B_68 S x1 x2 x3 y0 _ _ _ hE hp hP hD hS (lv_sub hl [1, 2, 3, 4, 0] rfl)
          · rw [if_neg c8] at hE hp
            refine lv_iconst (v := 1) hx hb dX2_isMajority_64 (by decide) ?_
            refine lv_goto (tgt := 69) hx hb dX2_isMajority_65 (by decide) ?_
            exact B_69 S x1 x2 x3 y0 1 _ _ _ hE hp hP hD hS (lv_sub hl [1, 2, 3, 4, 0] rfl)
    · rw [if_pos c2] at hE hp
      refine lv_iload_n hx hb dX2_isMajority_32 rfl (lv_at hl 3 rfl) ?_
      refine lv_iload_n hx hb dX2_isMajority_33 rfl (lv_at hl 4 rfl) ?_
      refine lv_icmp_le (tgt := 41) hx hb dX2_isMajority_34 (by decide) (fun c9 => ?_) (fun c9 => ?_)
      · rw [if_pos c9] at hE hp
        refine lv_iconst (v := 0) hx hb dX2_isMajority_41 (by decide) ?_
        exact B_42 S x1 x2 x3 y0 0 _ _ _ hE hp hP hD hS (lv_sub hl [1, 2, 3, 4, 0] rfl)
      · rw [if_neg c9] at hE hp
        refine lv_iconst (v := 1) hx hb dX2_isMajority_37 (by decide) ?_
        refine lv_goto (tgt := 42) hx hb dX2_isMajority_38 (by decide) ?_
        exact B_42 S x1 x2 x3 y0 1 _ _ _ hE hp hP hD hS (lv_sub hl [1, 2, 3, 4, 0] rfl)
  have B_14 : ∀ (S : HS) (x1 x2 x3 : Int32) (H : Heap) (locs : List Loc) (ls : Array Slot), b_X2_isMajority_14 S x1 x2 x3 = X → q_X2_isMajority_14 S x1 x2 x3 → va_P G vwCl (hoW K h g S) H → va_D A (hoW K h g S) → va_S A s.heap H locs → lv_has ls 5 [(0, .ref h), (1, .int x1), (2, .int x2), (3, .int x3)] → W p l e ({ frames := 0, cells := 0, slots := 0, locals := 0 } : Room) s m #[Value.ref h, Value.int a1, Value.int a2, Value.int a3] below meth c H locs 0 0 Q (F0 m 14 ls []) := by
    intro S x1 x2 x3 H locs ls hE hp hP hD hS hl
    unfold b_X2_isMajority_14 at hE
    unfold q_X2_isMajority_14 at hp
    refine lv_iconst (v := 1) hx hb dX2_isMajority_14 (by decide) ?_
    refine lv_goto (tgt := 24) hx hb dX2_isMajority_15 (by decide) ?_
    exact B_24 S x1 x2 x3 1 _ _ _ hE hp hP hD hS (lv_sub hl [0, 1, 2, 3] rfl)
  have B_M : ∀ (S : HS) (x1 x2 x3 : Int32) (H : Heap) (locs : List Loc) (ls : Array Slot), f_X2_isMajority S x1 x2 x3 = X → p_X2_isMajority S x1 x2 x3 → va_P G vwCl (hoW K h g S) H → va_D A (hoW K h g S) → va_S A s.heap H locs → lv_has ls 5 [(0, .ref h), (1, .int x1), (2, .int x2), (3, .int x3)] → W p l e ({ frames := 0, cells := 0, slots := 0, locals := 0 } : Room) s m #[Value.ref h, Value.int a1, Value.int a2, Value.int a3] below meth c H locs 0 0 Q (F0 m 0 ls []) := by
    intro S x1 x2 x3 H locs ls hE hp hP hD hS hl
    unfold f_X2_isMajority at hE
    unfold p_X2_isMajority at hp
    refine lv_iload_n hx hb dX2_isMajority_0 rfl (lv_at hl 1 rfl) ?_
    refine lv_iconst (v := 1) hx hb dX2_isMajority_1 (by decide) ?_
    refine lv_icmp_lt (tgt := 14) hx hb dX2_isMajority_2 (by decide) (fun c1 => ?_) (fun c1 => ?_)
    · rw [if_pos c1] at hE hp
      exact B_14 S x1 x2 x3 _ _ _ hE hp hP hD hS (lv_sub hl [0, 1, 2, 3] rfl)
    · rw [if_neg c1] at hE hp
      refine lv_iload_n hx hb dX2_isMajority_5 rfl (lv_at hl 1 rfl) ?_
      refine lv_aload_n hx hb dX2_isMajority_6 rfl (lv_at hl 0 rfl) ?_
      refine va_get (D := G) (ci := 1) (v := .ref (g 7)) (C := RX2) (T := TX2) (N := 8) hx hb hts iX2 hown hK hP 0 rfl rfl 7 (by decide) (hw (.fieldLink RX2 15 "MotionFloor$House" "majorities" "[I") (List.mem_of_getElem? (i := 1) rfl)) (fun _ h9 => h9) rfl dX2_isMajority_7 ?_
      refine va_alen (v := 9) hx hb hK hP 2 0 rfl rfl rfl dX2_isMajority_10 ?_
      refine lv_icmp_lt (tgt := 18) hx hb dX2_isMajority_11 (by decide) (fun c11 => ?_) (fun c11 => ?_)
      · rw [if_pos c11] at hE hp
        refine lv_aload_n hx hb dX2_isMajority_18 rfl (lv_at hl 0 rfl) ?_
        refine va_get (D := G) (ci := 1) (v := .ref (g 7)) (C := RX2) (T := TX2) (N := 8) hx hb hts iX2 hown hK hP 0 rfl rfl 7 (by decide) (hw (.fieldLink RX2 15 "MotionFloor$House" "majorities" "[I") (List.mem_of_getElem? (i := 1) rfl)) (fun _ h9 => h9) rfl dX2_isMajority_19 ?_
        refine lv_iload_n hx hb dX2_isMajority_22 rfl (lv_at hl 1 rfl) ?_
        obtain ⟨hy12, hp⟩ := hp
        refine va_iald hx hb hK hP 2 0 rfl rfl hy12 dX2_isMajority_23 ?_
        exact B_24 S x1 x2 x3 (S.2 7 x1.toNatClampNeg) _ _ _ hE hp hP hD hS (lv_sub hl [0, 1, 2, 3] rfl)
      · rw [if_neg c11] at hE hp
        exact B_14 S x1 x2 x3 _ _ _ hE hp hP hD hS (lv_sub hl [0, 1, 2, 3] rfl)
  exact B_M S0 a1 a2 a3 _ _ _ hX hp hP hD hS hl
theorem gdX9_wordAt_0 : ckS (List.drop 0 cX9_wordAt.data.toList) 0 [(0, .iload_n 1, 1), (1, .ifCond .lt 20, 3), (4, .iload_n 1, 1), (5, .aload_n 0, 1), (6, .getfield 15, 3), (9, .if_icmp .ge 12, 3), (12, .iload_n 1, 1), (13, .aload_n 0, 1), (14, .getfield 9, 3), (17, .arraylength, 1), (18, .if_icmp .lt 7, 3), (21, .iconst (-1), 1), (22, .goto 9, 3), (25, .aload_n 0, 1), (26, .getfield 9, 3), (29, .iload_n 1, 1), (30, .iaload, 1), (31, .ireturn, 1)] = true := by decide +kernel
theorem dX9_wordAt_0 : decode cX9_wordAt 0 = .ok (.iload_n 1, 1) := ckS_g gdX9_wordAt_0 0 rfl
theorem dX9_wordAt_1 : decode cX9_wordAt 1 = .ok (.ifCond .lt 20, 3) := ckS_g gdX9_wordAt_0 1 rfl
theorem dX9_wordAt_4 : decode cX9_wordAt 4 = .ok (.iload_n 1, 1) := ckS_g gdX9_wordAt_0 2 rfl
theorem dX9_wordAt_5 : decode cX9_wordAt 5 = .ok (.aload_n 0, 1) := ckS_g gdX9_wordAt_0 3 rfl
theorem dX9_wordAt_6 : decode cX9_wordAt 6 = .ok (.getfield 15, 3) := ckS_g gdX9_wordAt_0 4 rfl
theorem dX9_wordAt_9 : decode cX9_wordAt 9 = .ok (.if_icmp .ge 12, 3) := ckS_g gdX9_wordAt_0 5 rfl
theorem dX9_wordAt_12 : decode cX9_wordAt 12 = .ok (.iload_n 1, 1) := ckS_g gdX9_wordAt_0 6 rfl
theorem dX9_wordAt_13 : decode cX9_wordAt 13 = .ok (.aload_n 0, 1) := ckS_g gdX9_wordAt_0 7 rfl
theorem dX9_wordAt_14 : decode cX9_wordAt 14 = .ok (.getfield 9, 3) := ckS_g gdX9_wordAt_0 8 rfl
theorem dX9_wordAt_17 : decode cX9_wordAt 17 = .ok (.arraylength, 1) := ckS_g gdX9_wordAt_0 9 rfl
theorem dX9_wordAt_18 : decode cX9_wordAt 18 = .ok (.if_icmp .lt 7, 3) := ckS_g gdX9_wordAt_0 10 rfl
theorem dX9_wordAt_21 : decode cX9_wordAt 21 = .ok (.iconst (-1), 1) := ckS_g gdX9_wordAt_0 11 rfl
theorem dX9_wordAt_22 : decode cX9_wordAt 22 = .ok (.goto 9, 3) := ckS_g gdX9_wordAt_0 12 rfl
theorem dX9_wordAt_25 : decode cX9_wordAt 25 = .ok (.aload_n 0, 1) := ckS_g gdX9_wordAt_0 13 rfl
theorem dX9_wordAt_26 : decode cX9_wordAt 26 = .ok (.getfield 9, 3) := ckS_g gdX9_wordAt_0 14 rfl
theorem dX9_wordAt_29 : decode cX9_wordAt 29 = .ok (.iload_n 1, 1) := ckS_g gdX9_wordAt_0 15 rfl
theorem dX9_wordAt_30 : decode cX9_wordAt 30 = .ok (.iaload, 1) := ckS_g gdX9_wordAt_0 16 rfl
theorem dX9_wordAt_31 : decode cX9_wordAt 31 = .ok (.ireturn, 1) := ckS_g gdX9_wordAt_0 17 rfl
set_option maxRecDepth 100000 in
theorem z350 : wZ (.laysFinal "MotionFloor$Text" "MotionFloor$Text" "words" "[I") := ⟨wT1 (List.mem_of_getElem? (i := 161) (by decide +kernel)), Or.inl rfl⟩
set_option maxRecDepth 100000 in
theorem z351 : wZ (.lays "MotionFloor$Text" "MotionFloor$Text" "size" "I") := ⟨wT1 (List.mem_of_getElem? (i := 163) (by decide +kernel)), Or.inl rfl⟩
theorem zcX9 : GoodIn lw_tbl wsX90 := by
  show GoodIn lw_tbl [.laysFinal "MotionFloor$Text" "MotionFloor$Text" "words" "[I", .lays "MotionFloor$Text" "MotionFloor$Text" "size" "I"]
  exact wGc z350 (wGc z351 (wG0))
set_option maxRecDepth 100000 in
theorem z352 : wZ (.fieldLink RX9 9 "MotionFloor$Text" "words" "[I") := ⟨wT1 (List.mem_of_getElem? (i := 152) (by decide +kernel)), Or.inl rfl⟩
set_option maxRecDepth 100000 in
theorem z353 : wZ (.fieldLink RX9 15 "MotionFloor$Text" "size" "I") := ⟨wT1 (List.mem_of_getElem? (i := 153) (by decide +kernel)), Or.inl rfl⟩
set_option maxRecDepth 100000 in
theorem z354 : wZ (.code yX9_wordAt cX9_wordAt 2 (some .int)) := ⟨wT4 (List.mem_of_getElem? (i := 141) rfl), Or.inl rfl⟩
def b_X9_wordAt_31 (S : HS) (x1 y0 : Int32) : Int32 × HS := (y0, S)
def q_X9_wordAt_31 (S : HS) (x1 y0 : Int32) : Prop := True
def b_X9_wordAt_21 (S : HS) (x1 : Int32) : Int32 × HS := (b_X9_wordAt_31 S x1 (-1))
def q_X9_wordAt_21 (S : HS) (x1 : Int32) : Prop := (q_X9_wordAt_31 S x1 (-1))
def f_X9_wordAt (S : HS) (x1 : Int32) : Int32 × HS := if x1 < 0 then (b_X9_wordAt_21 S x1) else if (S.1 1) ≤ x1 then (b_X9_wordAt_21 S x1) else if x1 < 400 then (b_X9_wordAt_31 S x1 (S.2 0 x1.toNatClampNeg)) else (b_X9_wordAt_21 S x1)
def p_X9_wordAt (S : HS) (x1 : Int32) : Prop := (if x1 < 0 then (q_X9_wordAt_21 S x1) else (if (S.1 1) ≤ x1 then (q_X9_wordAt_21 S x1) else (if x1 < 400 then (vp_in x1 400) ∧ (q_X9_wordAt_31 S x1 (S.2 0 x1.toNatClampNeg)) else (q_X9_wordAt_21 S x1))))
def e_X9_wordAt : List Cond := [.fieldLink RX9 15 "MotionFloor$Text" "size" "I", .fieldLink RX9 9 "MotionFloor$Text" "words" "[I"]
def v_X9_wordAt : List Cond := .code yX9_wordAt cX9_wordAt 2 (some .int) :: (e_X9_wordAt ++ (wsX90 ++ []))
theorem te_X9_wordAt : GoodIn lw_tbl e_X9_wordAt := wGc z353 (wGc z352 (wG0))
theorem t_X9_wordAt : GoodIn lw_tbl v_X9_wordAt := wGc z354 (wGa te_X9_wordAt (wGa zcX9 (wG0)))
set_option maxHeartbeats 4000000 in
set_option maxRecDepth 100000 in
theorem c_X9_wordAt (l : Launch) (G : va_G) (K : Nat → ClassId) (h : Nat) (g : Nat → Nat) (S0 : HS) (a1 : Int32) (sz : Nat) : Met l yX9_wordAt v_X9_wordAt ({ frames := 0, cells := 0, slots := 0, locals := 0 }) (va_Pc [.ref h, .int a1] (teS G K h g sz S0 (p_X9_wordAt S0 a1))) (va_Qi (fun (r : Int32) (u : HS) => (r, u) = f_X9_wordAt S0 a1) (teB G K h g (va_A (teW K h g S0) sz)) (va_A (teW K h g S0) sz)) 0 0 (va_A (teW K h g S0) sz) := by
  refine Met.ofW (cc := cX9_wordAt) (maxL := 2) (ret := (some .int)) (by decide) rfl ?_
  intro p e s m args below meth c s₁ B hml hv
  obtain ⟨rfl, ⟨hsz, hP, hK, hD0, hTE⟩, hp⟩ := hv
  have hx := B.exec
  have hb := B.bytes
  have hr := B.returns
  have hts := atoms_spec (ws := v_X9_wordAt) B.pre
  have t_ := t_X9_wordAt
  have mw : ∀ w ∈ e_X9_wordAt, w ∈ v_X9_wordAt := fun w h => List.mem_cons_of_mem _ (List.mem_append_left _ h)
  have hw := fun w (h : w ∈ e_X9_wordAt) => hts w (mw w h)
  have iX9 : ∀ w ∈ wsX90, w ∈ v_X9_wordAt := fun w h => List.mem_cons_of_mem _ (List.mem_append_right _ (List.mem_append_left _ h))
  have hown : s.vm.findClass RX9 = some m.cls := findClass_of_methodNamed B.named
  have hlocks := B.notSynchronized
  subst hsz
  have hD := hD0.self (sz := s.heap.size)
  generalize hAe : va_A (teW K h g S0) s.heap.size = A at hD ⊢
  have hA : ∀ q : Nat, s.heap.size ≤ q → A q := fun q h => by rw [← hAe]; exact Or.inr h
  have hS : va_S A s.heap s.heap [] := va_S.rf
  have hl := lv_entry ([.ref h, .int a1]) (n := 2) (Nat.le_of_ble_eq_true rfl)
  rw [lg_entry_eq]
  generalize (lg_sl ([.ref h, .int a1]) ++ List.replicate (2 - (lg_sl ([.ref h, .int a1])).length) Slot.unset).toArray = ls at hl ⊢
  have hl : lv_has ls 2 [(0, .ref h), (1, .int a1)] := hl
  refine wGen (fun Q hQ => ?_)
  obtain ⟨X, hX⟩ : ∃ X, f_X9_wordAt S0 a1 = X := ⟨_, rfl⟩
  have B_31 : ∀ (S : HS) (x1 y0 : Int32) (H : Heap) (locs : List Loc) (ls : Array Slot), b_X9_wordAt_31 S x1 y0 = X → q_X9_wordAt_31 S x1 y0 → va_P G vwCl (teW K h g S) H → va_D A (teW K h g S) → va_S A s.heap H locs → lv_has ls 2 [(0, .ref h), (1, .int x1)] → W p l e ({ frames := 0, cells := 0, slots := 0, locals := 0 } : Room) s m #[Value.ref h, Value.int a1] below meth c H locs 0 0 Q (F0 m 31 ls [.int y0]) := by
    intro S x1 y0 H locs ls hE hp hP hD hS hl
    unfold b_X9_wordAt_31 at hE
    unfold q_X9_wordAt_31 at hp
    subst hQ
    exact W.iret (v := y0) hx hb hr (fun t ht hW => ⟨⟨y0, S, rfl, hE.trans hX.symm, by rw [ht]; exact hP, hD⟩, hS.F ht⟩) hS.2.2 dX9_wordAt_31
  have B_21 : ∀ (S : HS) (x1 : Int32) (H : Heap) (locs : List Loc) (ls : Array Slot), b_X9_wordAt_21 S x1 = X → q_X9_wordAt_21 S x1 → va_P G vwCl (teW K h g S) H → va_D A (teW K h g S) → va_S A s.heap H locs → lv_has ls 2 [(0, .ref h), (1, .int x1)] → W p l e ({ frames := 0, cells := 0, slots := 0, locals := 0 } : Room) s m #[Value.ref h, Value.int a1] below meth c H locs 0 0 Q (F0 m 21 ls []) := by
    intro S x1 H locs ls hE hp hP hD hS hl
    unfold b_X9_wordAt_21 at hE
    unfold q_X9_wordAt_21 at hp
    refine lv_iconst (v := (-1)) hx hb dX9_wordAt_21 (by decide) ?_
    refine lv_goto (tgt := 31) hx hb dX9_wordAt_22 (by decide) ?_
    exact B_31 S x1 (-1) _ _ _ hE hp hP hD hS (lv_sub hl [0, 1] rfl)
  have B_M : ∀ (S : HS) (x1 : Int32) (H : Heap) (locs : List Loc) (ls : Array Slot), f_X9_wordAt S x1 = X → p_X9_wordAt S x1 → va_P G vwCl (teW K h g S) H → va_D A (teW K h g S) → va_S A s.heap H locs → lv_has ls 2 [(0, .ref h), (1, .int x1)] → W p l e ({ frames := 0, cells := 0, slots := 0, locals := 0 } : Room) s m #[Value.ref h, Value.int a1] below meth c H locs 0 0 Q (F0 m 0 ls []) := by
    intro S x1 H locs ls hE hp hP hD hS hl
    unfold f_X9_wordAt at hE
    unfold p_X9_wordAt at hp
    refine lv_iload_n hx hb dX9_wordAt_0 rfl (lv_at hl 1 rfl) ?_
    refine lv_if_lt (tgt := 21) hx hb dX9_wordAt_1 (by decide) (fun c1 => ?_) (fun c1 => ?_)
    · rw [if_pos c1] at hE hp
      exact B_21 S x1 _ _ _ hE hp hP hD hS (lv_sub hl [0, 1] rfl)
    · rw [if_neg c1] at hE hp
      refine lv_iload_n hx hb dX9_wordAt_4 rfl (lv_at hl 1 rfl) ?_
      refine lv_aload_n hx hb dX9_wordAt_5 rfl (lv_at hl 0 rfl) ?_
      refine va_get (D := G) (ci := 6) (v := .int (S.1 1)) (C := RX9) (T := TX9) (N := 2) hx hb hts iX9 hown hK hP 0 rfl rfl 1 (by decide) (hw (.fieldLink RX9 15 "MotionFloor$Text" "size" "I") (List.mem_of_getElem? (i := 0) rfl)) (fun _ h9 => h9) rfl dX9_wordAt_6 ?_
      refine lv_icmp_ge (tgt := 21) hx hb dX9_wordAt_9 (by decide) (fun c2 => ?_) (fun c2 => ?_)
      · rw [if_pos c2] at hE hp
        exact B_21 S x1 _ _ _ hE hp hP hD hS (lv_sub hl [0, 1] rfl)
      · rw [if_neg c2] at hE hp
        refine lv_iload_n hx hb dX9_wordAt_12 rfl (lv_at hl 1 rfl) ?_
        refine lv_aload_n hx hb dX9_wordAt_13 rfl (lv_at hl 0 rfl) ?_
        refine va_get (D := G) (ci := 6) (v := .ref (g 0)) (C := RX9) (T := TX9) (N := 2) hx hb hts iX9 hown hK hP 0 rfl rfl 0 (by decide) (hw (.fieldLink RX9 9 "MotionFloor$Text" "words" "[I") (List.mem_of_getElem? (i := 1) rfl)) (fun _ h9 => h9) rfl dX9_wordAt_14 ?_
        refine va_alen (v := 400) hx hb hK hP 1 0 rfl rfl rfl dX9_wordAt_17 ?_
        refine lv_icmp_lt (tgt := 25) hx hb dX9_wordAt_18 (by decide) (fun c3 => ?_) (fun c3 => ?_)
        · rw [if_pos c3] at hE hp
          refine lv_aload_n hx hb dX9_wordAt_25 rfl (lv_at hl 0 rfl) ?_
          refine va_get (D := G) (ci := 6) (v := .ref (g 0)) (C := RX9) (T := TX9) (N := 2) hx hb hts iX9 hown hK hP 0 rfl rfl 0 (by decide) (hw (.fieldLink RX9 9 "MotionFloor$Text" "words" "[I") (List.mem_of_getElem? (i := 1) rfl)) (fun _ h9 => h9) rfl dX9_wordAt_26 ?_
          refine lv_iload_n hx hb dX9_wordAt_29 rfl (lv_at hl 1 rfl) ?_
          obtain ⟨hy4, hp⟩ := hp
          refine va_iald hx hb hK hP 1 0 rfl rfl hy4 dX9_wordAt_30 ?_
          exact B_31 S x1 (S.2 0 x1.toNatClampNeg) _ _ _ hE hp hP hD hS (lv_sub hl [0, 1] rfl)
        · rw [if_neg c3] at hE hp
          exact B_21 S x1 _ _ _ hE hp hP hD hS (lv_sub hl [0, 1] rfl)
  exact B_M S0 a1 _ _ _ hX hp hP hD hS hl
theorem gdX9_append_0 : ckS (List.drop 0 cX9_append.data.toList) 0 [(0, .iload_n 1, 1), (1, .ifCond .eq 35, 3), (4, .aload_n 0, 1), (5, .getfield 15, 3), (8, .aload_n 0, 1), (9, .getfield 9, 3), (12, .arraylength, 1), (13, .if_icmp .ge 23, 3), (16, .aload_n 0, 1), (17, .getfield 9, 3), (20, .aload_n 0, 1), (21, .getfield 15, 3), (24, .iload_n 1, 1), (25, .iastore, 1), (26, .aload_n 0, 1), (27, .dup, 1), (28, .getfield 15, 3), (31, .iconst 1, 1), (32, .iadd, 1), (33, .putfield 15, 3), (36, .return_, 1)] = true := by decide +kernel
theorem dX9_append_0 : decode cX9_append 0 = .ok (.iload_n 1, 1) := ckS_g gdX9_append_0 0 rfl
theorem dX9_append_1 : decode cX9_append 1 = .ok (.ifCond .eq 35, 3) := ckS_g gdX9_append_0 1 rfl
theorem dX9_append_4 : decode cX9_append 4 = .ok (.aload_n 0, 1) := ckS_g gdX9_append_0 2 rfl
theorem dX9_append_5 : decode cX9_append 5 = .ok (.getfield 15, 3) := ckS_g gdX9_append_0 3 rfl
theorem dX9_append_8 : decode cX9_append 8 = .ok (.aload_n 0, 1) := ckS_g gdX9_append_0 4 rfl
theorem dX9_append_9 : decode cX9_append 9 = .ok (.getfield 9, 3) := ckS_g gdX9_append_0 5 rfl
theorem dX9_append_12 : decode cX9_append 12 = .ok (.arraylength, 1) := ckS_g gdX9_append_0 6 rfl
theorem dX9_append_13 : decode cX9_append 13 = .ok (.if_icmp .ge 23, 3) := ckS_g gdX9_append_0 7 rfl
theorem dX9_append_16 : decode cX9_append 16 = .ok (.aload_n 0, 1) := ckS_g gdX9_append_0 8 rfl
theorem dX9_append_17 : decode cX9_append 17 = .ok (.getfield 9, 3) := ckS_g gdX9_append_0 9 rfl
theorem dX9_append_20 : decode cX9_append 20 = .ok (.aload_n 0, 1) := ckS_g gdX9_append_0 10 rfl
theorem dX9_append_21 : decode cX9_append 21 = .ok (.getfield 15, 3) := ckS_g gdX9_append_0 11 rfl
theorem dX9_append_24 : decode cX9_append 24 = .ok (.iload_n 1, 1) := ckS_g gdX9_append_0 12 rfl
theorem dX9_append_25 : decode cX9_append 25 = .ok (.iastore, 1) := ckS_g gdX9_append_0 13 rfl
theorem dX9_append_26 : decode cX9_append 26 = .ok (.aload_n 0, 1) := ckS_g gdX9_append_0 14 rfl
theorem dX9_append_27 : decode cX9_append 27 = .ok (.dup, 1) := ckS_g gdX9_append_0 15 rfl
theorem dX9_append_28 : decode cX9_append 28 = .ok (.getfield 15, 3) := ckS_g gdX9_append_0 16 rfl
theorem dX9_append_31 : decode cX9_append 31 = .ok (.iconst 1, 1) := ckS_g gdX9_append_0 17 rfl
theorem dX9_append_32 : decode cX9_append 32 = .ok (.iadd, 1) := ckS_g gdX9_append_0 18 rfl
theorem dX9_append_33 : decode cX9_append 33 = .ok (.putfield 15, 3) := ckS_g gdX9_append_0 19 rfl
theorem dX9_append_36 : decode cX9_append 36 = .ok (.return_, 1) := ckS_g gdX9_append_0 20 rfl
set_option maxRecDepth 100000 in
theorem z355 : wZ (.code yX9_append cX9_append 2 none) := ⟨wT3 (List.mem_of_getElem? (i := 125) rfl), Or.inl rfl⟩
def b_X9_append_36 (S : HS) (x1 : Int32) : Int32 × HS := (0, S)
def q_X9_append_36 (S : HS) (x1 : Int32) : Prop := True
def f_X9_append (S : HS) (x1 : Int32) : Int32 × HS := if x1 = 0 then (b_X9_append_36 S x1) else if 400 ≤ (S.1 1) then (b_X9_append_36 S x1) else (b_X9_append_36 (sI (sA S 0 (S.1 1).toNatClampNeg x1) 1 (((sA S 0 (S.1 1).toNatClampNeg x1).1 1) + 1)) x1)
def p_X9_append (S : HS) (x1 : Int32) : Prop := (if x1 = 0 then (q_X9_append_36 S x1) else (if 400 ≤ (S.1 1) then (q_X9_append_36 S x1) else (vp_in (S.1 1) 400) ∧ (q_X9_append_36 (sI (sA S 0 (S.1 1).toNatClampNeg x1) 1 (((sA S 0 (S.1 1).toNatClampNeg x1).1 1) + 1)) x1)))
def e_X9_append : List Cond := [.fieldLink RX9 15 "MotionFloor$Text" "size" "I", .fieldLink RX9 9 "MotionFloor$Text" "words" "[I"]
def v_X9_append : List Cond := .code yX9_append cX9_append 2 none :: (e_X9_append ++ (wsX90 ++ []))
theorem te_X9_append : GoodIn lw_tbl e_X9_append := wGc z353 (wGc z352 (wG0))
theorem t_X9_append : GoodIn lw_tbl v_X9_append := wGc z355 (wGa te_X9_append (wGa zcX9 (wG0)))
set_option maxHeartbeats 4000000 in
set_option maxRecDepth 100000 in
theorem c_X9_append (l : Launch) (G : va_G) (K : Nat → ClassId) (h : Nat) (g : Nat → Nat) (S0 : HS) (a1 : Int32) (sz : Nat) : Met l yX9_append v_X9_append ({ frames := 0, cells := 0, slots := 0, locals := 0 }) (va_Pc [.ref h, .int a1] (teS G K h g sz S0 (p_X9_append S0 a1))) (va_Qv (fun u : HS => (0, u) = f_X9_append S0 a1) (teB G K h g (va_A (teW K h g S0) sz)) (va_A (teW K h g S0) sz)) 0 0 (va_A (teW K h g S0) sz) := by
  refine Met.ofW (cc := cX9_append) (maxL := 2) (ret := none) (by decide) rfl ?_
  intro p e s m args below meth c s₁ B hml hv
  obtain ⟨rfl, ⟨hsz, hP, hK, hD0, hTE⟩, hp⟩ := hv
  have hx := B.exec
  have hb := B.bytes
  have hr := B.returns
  have hts := atoms_spec (ws := v_X9_append) B.pre
  have t_ := t_X9_append
  have mw : ∀ w ∈ e_X9_append, w ∈ v_X9_append := fun w h => List.mem_cons_of_mem _ (List.mem_append_left _ h)
  have hw := fun w (h : w ∈ e_X9_append) => hts w (mw w h)
  have iX9 : ∀ w ∈ wsX90, w ∈ v_X9_append := fun w h => List.mem_cons_of_mem _ (List.mem_append_right _ (List.mem_append_left _ h))
  have hown : s.vm.findClass RX9 = some m.cls := findClass_of_methodNamed B.named
  have hlocks := B.notSynchronized
  subst hsz
  have hD := hD0.self (sz := s.heap.size)
  generalize hAe : va_A (teW K h g S0) s.heap.size = A at hD ⊢
  have hA : ∀ q : Nat, s.heap.size ≤ q → A q := fun q h => by rw [← hAe]; exact Or.inr h
  have hS : va_S A s.heap s.heap [] := va_S.rf
  have hl := lv_entry ([.ref h, .int a1]) (n := 2) (Nat.le_of_ble_eq_true rfl)
  rw [lg_entry_eq]
  generalize (lg_sl ([.ref h, .int a1]) ++ List.replicate (2 - (lg_sl ([.ref h, .int a1])).length) Slot.unset).toArray = ls at hl ⊢
  have hl : lv_has ls 2 [(0, .ref h), (1, .int a1)] := hl
  refine wGen (fun Q hQ => ?_)
  obtain ⟨X, hX⟩ : ∃ X, f_X9_append S0 a1 = X := ⟨_, rfl⟩
  have B_36 : ∀ (S : HS) (x1 : Int32) (H : Heap) (locs : List Loc) (ls : Array Slot), b_X9_append_36 S x1 = X → q_X9_append_36 S x1 → va_P G vwCl (teW K h g S) H → va_D A (teW K h g S) → va_S A s.heap H locs → lv_has ls 2 [(0, .ref h), (1, .int x1)] → W p l e ({ frames := 0, cells := 0, slots := 0, locals := 0 } : Room) s m #[Value.ref h, Value.int a1] below meth c H locs 0 0 Q (F0 m 36 ls []) := by
    intro S x1 H locs ls hE hp hP hD hS hl
    unfold b_X9_append_36 at hE
    unfold q_X9_append_36 at hp
    subst hQ
    exact W.vret hx hb hr (fun t ht hW => ⟨⟨S, rfl, hE.trans hX.symm, by rw [ht]; exact hP, hD⟩, hS.F ht⟩) hS.2.2 dX9_append_36
  have B_M : ∀ (S : HS) (x1 : Int32) (H : Heap) (locs : List Loc) (ls : Array Slot), f_X9_append S x1 = X → p_X9_append S x1 → va_P G vwCl (teW K h g S) H → va_D A (teW K h g S) → va_S A s.heap H locs → lv_has ls 2 [(0, .ref h), (1, .int x1)] → W p l e ({ frames := 0, cells := 0, slots := 0, locals := 0 } : Room) s m #[Value.ref h, Value.int a1] below meth c H locs 0 0 Q (F0 m 0 ls []) := by
    intro S x1 H locs ls hE hp hP hD hS hl
    unfold f_X9_append at hE
    unfold p_X9_append at hp
    refine lv_iload_n hx hb dX9_append_0 rfl (lv_at hl 1 rfl) ?_
    refine lv_if_eq (tgt := 36) hx hb dX9_append_1 (by decide) (fun c1 => ?_) (fun c1 => ?_)
    · rw [if_pos c1] at hE hp
      exact B_36 S x1 _ _ _ hE hp hP hD hS (lv_sub hl [0, 1] rfl)
    · rw [if_neg c1] at hE hp
      refine lv_aload_n hx hb dX9_append_4 rfl (lv_at hl 0 rfl) ?_
      refine va_get (D := G) (ci := 6) (v := .int (S.1 1)) (C := RX9) (T := TX9) (N := 2) hx hb hts iX9 hown hK hP 0 rfl rfl 1 (by decide) (hw (.fieldLink RX9 15 "MotionFloor$Text" "size" "I") (List.mem_of_getElem? (i := 0) rfl)) (fun _ h9 => h9) rfl dX9_append_5 ?_
      refine lv_aload_n hx hb dX9_append_8 rfl (lv_at hl 0 rfl) ?_
      refine va_get (D := G) (ci := 6) (v := .ref (g 0)) (C := RX9) (T := TX9) (N := 2) hx hb hts iX9 hown hK hP 0 rfl rfl 0 (by decide) (hw (.fieldLink RX9 9 "MotionFloor$Text" "words" "[I") (List.mem_of_getElem? (i := 1) rfl)) (fun _ h9 => h9) rfl dX9_append_9 ?_
      refine va_alen (v := 400) hx hb hK hP 1 0 rfl rfl rfl dX9_append_12 ?_
      refine lv_icmp_ge (tgt := 36) hx hb dX9_append_13 (by decide) (fun c2 => ?_) (fun c2 => ?_)
      · rw [if_pos c2] at hE hp
        exact B_36 S x1 _ _ _ hE hp hP hD hS (lv_sub hl [0, 1] rfl)
      · rw [if_neg c2] at hE hp
        refine lv_aload_n hx hb dX9_append_16 rfl (lv_at hl 0 rfl) ?_
        refine va_get (D := G) (ci := 6) (v := .ref (g 0)) (C := RX9) (T := TX9) (N := 2) hx hb hts iX9 hown hK hP 0 rfl rfl 0 (by decide) (hw (.fieldLink RX9 9 "MotionFloor$Text" "words" "[I") (List.mem_of_getElem? (i := 1) rfl)) (fun _ h9 => h9) rfl dX9_append_17 ?_
        refine lv_aload_n hx hb dX9_append_20 rfl (lv_at hl 0 rfl) ?_
        refine va_get (D := G) (ci := 6) (v := .int (S.1 1)) (C := RX9) (T := TX9) (N := 2) hx hb hts iX9 hown hK hP 0 rfl rfl 1 (by decide) (hw (.fieldLink RX9 15 "MotionFloor$Text" "size" "I") (List.mem_of_getElem? (i := 0) rfl)) (fun _ h9 => h9) rfl dX9_append_21 ?_
        refine lv_iload_n hx hb dX9_append_24 rfl (lv_at hl 1 rfl) ?_
        obtain ⟨hy3, hp⟩ := hp
        refine va_iast hx hb hK hP hD hS 1 0 rfl rfl hy3 dX9_append_25 (fun H locs hP hD hS => ?_)
        rw [teA_0] at hP hD
        refine lv_aload_n hx hb dX9_append_26 rfl (lv_at hl 0 rfl) ?_
        refine lv_dup hx hb dX9_append_27 rfl ?_
        refine va_get (D := G) (ci := 6) (v := .int ((sA S 0 (S.1 1).toNatClampNeg x1).1 1)) (C := RX9) (T := TX9) (N := 2) hx hb hts iX9 hown hK hP 0 rfl rfl 1 (by decide) (hw (.fieldLink RX9 15 "MotionFloor$Text" "size" "I") (List.mem_of_getElem? (i := 0) rfl)) (fun _ h9 => h9) rfl dX9_append_28 ?_
        refine lv_iconst (v := 1) hx hb dX9_append_31 (by decide) ?_
        refine lv_iadd hx hb dX9_append_32 ?_
        refine va_put (D := G) (ci := 6) (v := .int (((sA S 0 (S.1 1).toNatClampNeg x1).1 1) + 1)) (ty := .int) (C := RX9) (T := TX9) (N := 2) hx hb hts iX9 tyX9 tyX9_ok nmX9 hown hK hP hD hS 0 rfl rfl 1 (by decide) (hw (.fieldLink RX9 15 "MotionFloor$Text" "size" "I") (List.mem_of_getElem? (i := 0) rfl)) (fun _ h9 => h9) rfl (by decide +kernel) rfl rfl (Nat.le_of_ble_eq_true rfl) dX9_append_33 (fun H locs hP hD hS => ?_)
        rw [teI_1] at hP hD
        exact B_36 (sI (sA S 0 (S.1 1).toNatClampNeg x1) 1 (((sA S 0 (S.1 1).toNatClampNeg x1).1 1) + 1)) x1 _ _ _ hE hp hP hD hS (lv_sub hl [0, 1] rfl)
  exact B_M S0 a1 _ _ _ hX hp hP hD hS hl
theorem gdX9_sizeWith_0 : ckS (List.drop 0 cX9_sizeWith.data.toList) 0 [(0, .aload_n 0, 1), (1, .getfield 15, 3), (4, .iload_n 2, 1), (5, .iload_n 1, 1), (6, .isub, 1), (7, .isub, 1), (8, .iload_n 3, 1), (9, .iadd, 1), (10, .ireturn, 1)] = true := by decide +kernel
theorem dX9_sizeWith_0 : decode cX9_sizeWith 0 = .ok (.aload_n 0, 1) := ckS_g gdX9_sizeWith_0 0 rfl
theorem dX9_sizeWith_1 : decode cX9_sizeWith 1 = .ok (.getfield 15, 3) := ckS_g gdX9_sizeWith_0 1 rfl
theorem dX9_sizeWith_4 : decode cX9_sizeWith 4 = .ok (.iload_n 2, 1) := ckS_g gdX9_sizeWith_0 2 rfl
theorem dX9_sizeWith_5 : decode cX9_sizeWith 5 = .ok (.iload_n 1, 1) := ckS_g gdX9_sizeWith_0 3 rfl
theorem dX9_sizeWith_6 : decode cX9_sizeWith 6 = .ok (.isub, 1) := ckS_g gdX9_sizeWith_0 4 rfl
theorem dX9_sizeWith_7 : decode cX9_sizeWith 7 = .ok (.isub, 1) := ckS_g gdX9_sizeWith_0 5 rfl
theorem dX9_sizeWith_8 : decode cX9_sizeWith 8 = .ok (.iload_n 3, 1) := ckS_g gdX9_sizeWith_0 6 rfl
theorem dX9_sizeWith_9 : decode cX9_sizeWith 9 = .ok (.iadd, 1) := ckS_g gdX9_sizeWith_0 7 rfl
theorem dX9_sizeWith_10 : decode cX9_sizeWith 10 = .ok (.ireturn, 1) := ckS_g gdX9_sizeWith_0 8 rfl
set_option maxRecDepth 100000 in
theorem z356 : wZ (.code yX9_sizeWith cX9_sizeWith 4 (some .int)) := ⟨wT2 (List.mem_of_getElem? (i := 173) rfl), Or.inl rfl⟩
def f_X9_sizeWith (S : HS) (x1 x2 x3 : Int32) : Int32 × HS := ((((S.1 1) - (x2 - x1)) + x3), S)
def p_X9_sizeWith (S : HS) (x1 x2 x3 : Int32) : Prop := True
def e_X9_sizeWith : List Cond := [.fieldLink RX9 15 "MotionFloor$Text" "size" "I"]
def v_X9_sizeWith : List Cond := .code yX9_sizeWith cX9_sizeWith 4 (some .int) :: (e_X9_sizeWith ++ (wsX90 ++ []))
theorem te_X9_sizeWith : GoodIn lw_tbl e_X9_sizeWith := wGc z353 (wG0)
theorem t_X9_sizeWith : GoodIn lw_tbl v_X9_sizeWith := wGc z356 (wGa te_X9_sizeWith (wGa zcX9 (wG0)))
set_option maxHeartbeats 4000000 in
set_option maxRecDepth 100000 in
theorem c_X9_sizeWith (l : Launch) (G : va_G) (K : Nat → ClassId) (h : Nat) (g : Nat → Nat) (S0 : HS) (a1 a2 a3 : Int32) (sz : Nat) : Met l yX9_sizeWith v_X9_sizeWith ({ frames := 0, cells := 0, slots := 0, locals := 0 }) (va_Pc [.ref h, .int a1, .int a2, .int a3] (teS G K h g sz S0 (p_X9_sizeWith S0 a1 a2 a3))) (va_Qi (fun (r : Int32) (u : HS) => (r, u) = f_X9_sizeWith S0 a1 a2 a3) (teB G K h g (va_A (teW K h g S0) sz)) (va_A (teW K h g S0) sz)) 0 0 (va_A (teW K h g S0) sz) := by
  refine Met.ofW (cc := cX9_sizeWith) (maxL := 4) (ret := (some .int)) (by decide) rfl ?_
  intro p e s m args below meth c s₁ B hml hv
  obtain ⟨rfl, ⟨hsz, hP, hK, hD0, hTE⟩, hp⟩ := hv
  have hx := B.exec
  have hb := B.bytes
  have hr := B.returns
  have hts := atoms_spec (ws := v_X9_sizeWith) B.pre
  have t_ := t_X9_sizeWith
  have mw : ∀ w ∈ e_X9_sizeWith, w ∈ v_X9_sizeWith := fun w h => List.mem_cons_of_mem _ (List.mem_append_left _ h)
  have hw := fun w (h : w ∈ e_X9_sizeWith) => hts w (mw w h)
  have iX9 : ∀ w ∈ wsX90, w ∈ v_X9_sizeWith := fun w h => List.mem_cons_of_mem _ (List.mem_append_right _ (List.mem_append_left _ h))
  have hown : s.vm.findClass RX9 = some m.cls := findClass_of_methodNamed B.named
  have hlocks := B.notSynchronized
  subst hsz
  have hD := hD0.self (sz := s.heap.size)
  generalize hAe : va_A (teW K h g S0) s.heap.size = A at hD ⊢
  have hA : ∀ q : Nat, s.heap.size ≤ q → A q := fun q h => by rw [← hAe]; exact Or.inr h
  have hS : va_S A s.heap s.heap [] := va_S.rf
  have hl := lv_entry ([.ref h, .int a1, .int a2, .int a3]) (n := 4) (Nat.le_of_ble_eq_true rfl)
  rw [lg_entry_eq]
  generalize (lg_sl ([.ref h, .int a1, .int a2, .int a3]) ++ List.replicate (4 - (lg_sl ([.ref h, .int a1, .int a2, .int a3])).length) Slot.unset).toArray = ls at hl ⊢
  have hl : lv_has ls 4 [(0, .ref h), (1, .int a1), (2, .int a2), (3, .int a3)] := hl
  refine wGen (fun Q hQ => ?_)
  obtain ⟨X, hX⟩ : ∃ X, f_X9_sizeWith S0 a1 a2 a3 = X := ⟨_, rfl⟩
  have B_M : ∀ (S : HS) (x1 x2 x3 : Int32) (H : Heap) (locs : List Loc) (ls : Array Slot), f_X9_sizeWith S x1 x2 x3 = X → p_X9_sizeWith S x1 x2 x3 → va_P G vwCl (teW K h g S) H → va_D A (teW K h g S) → va_S A s.heap H locs → lv_has ls 4 [(0, .ref h), (1, .int x1), (2, .int x2), (3, .int x3)] → W p l e ({ frames := 0, cells := 0, slots := 0, locals := 0 } : Room) s m #[Value.ref h, Value.int a1, Value.int a2, Value.int a3] below meth c H locs 0 0 Q (F0 m 0 ls []) := by
    intro S x1 x2 x3 H locs ls hE hp hP hD hS hl
    unfold f_X9_sizeWith at hE
    unfold p_X9_sizeWith at hp
    refine lv_aload_n hx hb dX9_sizeWith_0 rfl (lv_at hl 0 rfl) ?_
    refine va_get (D := G) (ci := 6) (v := .int (S.1 1)) (C := RX9) (T := TX9) (N := 2) hx hb hts iX9 hown hK hP 0 rfl rfl 1 (by decide) (hw (.fieldLink RX9 15 "MotionFloor$Text" "size" "I") (List.mem_of_getElem? (i := 0) rfl)) (fun _ h9 => h9) rfl dX9_sizeWith_1 ?_
    refine lv_iload_n hx hb dX9_sizeWith_4 rfl (lv_at hl 2 rfl) ?_
    refine lv_iload_n hx hb dX9_sizeWith_5 rfl (lv_at hl 1 rfl) ?_
    refine lv_isub hx hb dX9_sizeWith_6 ?_
    refine lv_isub hx hb dX9_sizeWith_7 ?_
    refine lv_iload_n hx hb dX9_sizeWith_8 rfl (lv_at hl 3 rfl) ?_
    refine lv_iadd hx hb dX9_sizeWith_9 ?_
    subst hQ
    exact W.iret (v := (((S.1 1) - (x2 - x1)) + x3)) hx hb hr (fun t ht hW => ⟨⟨(((S.1 1) - (x2 - x1)) + x3), S, rfl, hE.trans hX.symm, by rw [ht]; exact hP, hD⟩, hS.F ht⟩) hS.2.2 dX9_sizeWith_10
  exact B_M S0 a1 a2 a3 _ _ _ hX hp hP hD hS hl
