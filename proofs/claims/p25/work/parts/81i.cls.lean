theorem gdX8_againstSecond_5 : ckS (List.drop 5 cX8_againstSecond.data.toList) 5 [(5, .istore_n 3, 1), (6, .iload_n 3, 1), (7, .ifCond .eq 5, 3), (10, .iload_n 3, 1), (11, .ireturn, 1), (12, .aload_n 1, 1), (13, .getfield 138, 3), (16, .iconst (-1), 1), (17, .if_icmp .ne 12, 3), (20, .aload_n 1, 1), (21, .getfield 128, 3), (24, .bipush 9, 2), (26, .if_icmp .ne 5, 3), (29, .iconst 3, 1), (30, .ireturn, 1), (31, .iload_n 2, 1), (32, .aload_n 1, 1), (33, .getfield 229, 3), (36, .if_icmp .eq 11, 3), (39, .iload_n 2, 1), (40, .aload_n 0, 1), (41, .getfield 79, 3), (44, .if_icmp .ne 7, 3), (47, .iconst 2, 1), (48, .goto 4, 3), (51, .iconst 0, 1), (52, .ireturn, 1)] = true := by decide +kernel
theorem dX8_againstSecond_5 : decode cX8_againstSecond 5 = .ok (.istore_n 3, 1) := ckS_g gdX8_againstSecond_5 0 rfl
theorem dX8_againstSecond_6 : decode cX8_againstSecond 6 = .ok (.iload_n 3, 1) := ckS_g gdX8_againstSecond_5 1 rfl
theorem dX8_againstSecond_7 : decode cX8_againstSecond 7 = .ok (.ifCond .eq 5, 3) := ckS_g gdX8_againstSecond_5 2 rfl
theorem dX8_againstSecond_10 : decode cX8_againstSecond 10 = .ok (.iload_n 3, 1) := ckS_g gdX8_againstSecond_5 3 rfl
theorem dX8_againstSecond_11 : decode cX8_againstSecond 11 = .ok (.ireturn, 1) := ckS_g gdX8_againstSecond_5 4 rfl
theorem dX8_againstSecond_12 : decode cX8_againstSecond 12 = .ok (.aload_n 1, 1) := ckS_g gdX8_againstSecond_5 5 rfl
theorem dX8_againstSecond_13 : decode cX8_againstSecond 13 = .ok (.getfield 138, 3) := ckS_g gdX8_againstSecond_5 6 rfl
theorem dX8_againstSecond_16 : decode cX8_againstSecond 16 = .ok (.iconst (-1), 1) := ckS_g gdX8_againstSecond_5 7 rfl
theorem dX8_againstSecond_17 : decode cX8_againstSecond 17 = .ok (.if_icmp .ne 12, 3) := ckS_g gdX8_againstSecond_5 8 rfl
theorem dX8_againstSecond_20 : decode cX8_againstSecond 20 = .ok (.aload_n 1, 1) := ckS_g gdX8_againstSecond_5 9 rfl
theorem dX8_againstSecond_21 : decode cX8_againstSecond 21 = .ok (.getfield 128, 3) := ckS_g gdX8_againstSecond_5 10 rfl
theorem dX8_againstSecond_24 : decode cX8_againstSecond 24 = .ok (.bipush 9, 2) := ckS_g gdX8_againstSecond_5 11 rfl
theorem dX8_againstSecond_26 : decode cX8_againstSecond 26 = .ok (.if_icmp .ne 5, 3) := ckS_g gdX8_againstSecond_5 12 rfl
theorem dX8_againstSecond_29 : decode cX8_againstSecond 29 = .ok (.iconst 3, 1) := ckS_g gdX8_againstSecond_5 13 rfl
theorem dX8_againstSecond_30 : decode cX8_againstSecond 30 = .ok (.ireturn, 1) := ckS_g gdX8_againstSecond_5 14 rfl
theorem dX8_againstSecond_31 : decode cX8_againstSecond 31 = .ok (.iload_n 2, 1) := ckS_g gdX8_againstSecond_5 15 rfl
theorem dX8_againstSecond_32 : decode cX8_againstSecond 32 = .ok (.aload_n 1, 1) := ckS_g gdX8_againstSecond_5 16 rfl
theorem dX8_againstSecond_33 : decode cX8_againstSecond 33 = .ok (.getfield 229, 3) := ckS_g gdX8_againstSecond_5 17 rfl
theorem dX8_againstSecond_36 : decode cX8_againstSecond 36 = .ok (.if_icmp .eq 11, 3) := ckS_g gdX8_againstSecond_5 18 rfl
theorem dX8_againstSecond_39 : decode cX8_againstSecond 39 = .ok (.iload_n 2, 1) := ckS_g gdX8_againstSecond_5 19 rfl
theorem dX8_againstSecond_40 : decode cX8_againstSecond 40 = .ok (.aload_n 0, 1) := ckS_g gdX8_againstSecond_5 20 rfl
theorem dX8_againstSecond_41 : decode cX8_againstSecond 41 = .ok (.getfield 79, 3) := ckS_g gdX8_againstSecond_5 21 rfl
theorem dX8_againstSecond_44 : decode cX8_againstSecond 44 = .ok (.if_icmp .ne 7, 3) := ckS_g gdX8_againstSecond_5 22 rfl
theorem dX8_againstSecond_47 : decode cX8_againstSecond 47 = .ok (.iconst 2, 1) := ckS_g gdX8_againstSecond_5 23 rfl
theorem dX8_againstSecond_48 : decode cX8_againstSecond 48 = .ok (.goto 4, 3) := ckS_g gdX8_againstSecond_5 24 rfl
theorem dX8_againstSecond_51 : decode cX8_againstSecond 51 = .ok (.iconst 0, 1) := ckS_g gdX8_againstSecond_5 25 rfl
theorem dX8_againstSecond_52 : decode cX8_againstSecond 52 = .ok (.ireturn, 1) := ckS_g gdX8_againstSecond_5 26 rfl
set_option maxRecDepth 100000 in
theorem zc369 : wZ (.fieldLink RX8 79 "MotionFloor$House" "chair" "I") := ⟨wT1 (List.mem_of_getElem? (i := 43) (by decide +kernel)), Or.inl rfl⟩
set_option maxRecDepth 100000 in
theorem zc370 : wZ (.fieldLink RX8 229 "MotionFloor$Motion" "mover" "I") := ⟨wT3 (List.mem_of_getElem? (i := 23) (by decide +kernel)), Or.inl rfl⟩
set_option maxRecDepth 100000 in
theorem zc371 : wZ (.fieldLink RX8 128 "MotionFloor$Motion" "kind" "I") := ⟨wT3 (List.mem_of_getElem? (i := 19) (by decide +kernel)), Or.inl rfl⟩
set_option maxRecDepth 100000 in
theorem zc372 : wZ (.fieldLink RX8 138 "MotionFloor$Motion" "seconder" "I") := ⟨wT3 (List.mem_of_getElem? (i := 26) (by decide +kernel)), Or.inl rfl⟩
set_option maxRecDepth 100000 in
theorem zc373 : wZ (.initialized RX8) := ⟨wT1 (List.mem_of_getElem? (i := 12) (by decide +kernel)), Or.inl rfl⟩
set_option maxRecDepth 100000 in
theorem zc374 : wZ (.static yX8_againstAbsent) := ⟨wT2 (List.mem_of_getElem? (i := 67) (by decide +kernel)), Or.inl rfl⟩
set_option maxRecDepth 100000 in
theorem zc375 : wZ (.methodLink RX8 42 yX8_againstAbsent) := ⟨wT2 (List.mem_of_getElem? (i := 66) (by decide +kernel)), Or.inl rfl⟩
set_option maxRecDepth 100000 in
theorem zc376 : wZ (.code yX8_againstSecond cX8_againstSecond 4 (some .int)) := ⟨wT2 (List.mem_of_getElem? (i := 177) rfl), Or.inl rfl⟩
def b_Y8_againstSecond_29 (S : Cst) (x0 : Nat) (x1 : Option Nat) (x2 : Int32) (x3 : Int32) : Int32 := (3 : Int32)
def q_Y8_againstSecond_29 (S : Cst) (x0 : Nat) (x1 : Option Nat) (x2 : Int32) (x3 : Int32) : Prop := True
def b_Y8_againstSecond_52 (S : Cst) (x0 : Nat) (x1 : Option Nat) (x2 : Int32) (x3 : Int32) (y0 : Int32) : Int32 := y0
def q_Y8_againstSecond_52 (S : Cst) (x0 : Nat) (x1 : Option Nat) (x2 : Int32) (x3 : Int32) (y0 : Int32) : Prop := True
def b_Y8_againstSecond_47 (S : Cst) (x0 : Nat) (x1 : Option Nat) (x2 : Int32) (x3 : Int32) : Int32 := (b_Y8_againstSecond_52 S x0 x1 x2 x3 2)
def q_Y8_againstSecond_47 (S : Cst) (x0 : Nat) (x1 : Option Nat) (x2 : Int32) (x3 : Int32) : Prop := (q_Y8_againstSecond_52 S x0 x1 x2 x3 2)
def f_Y8_againstSecond (S : Cst) (x0 : Nat) (x1 : Option Nat) (x2 : Int32) : Int32 := if (f_Y8_againstAbsent S x0 x2) = 0 then if (giC S (x1.getD 0) 4) = (-1) then if (giC S (x1.getD 0) 2) = 9 then (b_Y8_againstSecond_29 S x0 x1 x2 (f_Y8_againstAbsent S x0 x2)) else if x2 = (giC S (x1.getD 0) 3) then (b_Y8_againstSecond_47 S x0 x1 x2 (f_Y8_againstAbsent S x0 x2)) else if x2 = (giC S x0 3) then (b_Y8_againstSecond_47 S x0 x1 x2 (f_Y8_againstAbsent S x0 x2)) else (b_Y8_againstSecond_52 S x0 x1 x2 (f_Y8_againstAbsent S x0 x2) 0) else (b_Y8_againstSecond_29 S x0 x1 x2 (f_Y8_againstAbsent S x0 x2)) else (f_Y8_againstAbsent S x0 x2)
def p_Y8_againstSecond (S : Cst) (x0 : Nat) (x1 : Option Nat) (x2 : Int32) : Prop := (p_Y8_againstAbsent S x0 x2) ∧ (if (f_Y8_againstAbsent S x0 x2) = 0 then (iR S x1 3) ∧ (if (giC S (x1.getD 0) 4) = (-1) then (iR S x1 3) ∧ (if (giC S (x1.getD 0) 2) = 9 then (q_Y8_againstSecond_29 S x0 x1 x2 (f_Y8_againstAbsent S x0 x2)) else (iR S x1 3) ∧ (if x2 = (giC S (x1.getD 0) 3) then (q_Y8_againstSecond_47 S x0 x1 x2 (f_Y8_againstAbsent S x0 x2)) else (if x2 = (giC S x0 3) then (q_Y8_againstSecond_47 S x0 x1 x2 (f_Y8_againstAbsent S x0 x2)) else (q_Y8_againstSecond_52 S x0 x1 x2 (f_Y8_againstAbsent S x0 x2) 0)))) else (q_Y8_againstSecond_29 S x0 x1 x2 (f_Y8_againstAbsent S x0 x2))) else True)
def e_Y8_againstSecond : List Cond := [.methodLink RX8 42 yX8_againstAbsent, .static yX8_againstAbsent, .initialized RX8, .fieldLink RX8 138 "MotionFloor$Motion" "seconder" "I", .fieldLink RX8 128 "MotionFloor$Motion" "kind" "I", .fieldLink RX8 229 "MotionFloor$Motion" "mover" "I", .fieldLink RX8 79 "MotionFloor$House" "chair" "I"]
def v_Y8_againstSecond : List Cond := .code yX8_againstSecond cX8_againstSecond 4 (some .int) :: (e_Y8_againstSecond ++ (wsX40 ++ (wsX20 ++ (v_Y8_againstAbsent ++ []))))
theorem te_Y8_againstSecond : GoodIn lw_tbl e_Y8_againstSecond := wGc zc375 (wGc zc374 (wGc zc373 (wGc zc372 (wGc zc371 (wGc zc370 (wGc zc369 (wG0)))))))
theorem t_Y8_againstSecond : GoodIn lw_tbl v_Y8_againstSecond := wGc zc376 (wGa te_Y8_againstSecond (wGa zcX4 (wGa zcX2 (wGa t_Y8_againstAbsent (wG0)))))
set_option maxHeartbeats 4000000 in
set_option maxRecDepth 100000 in
theorem c_Y8_againstSecond (l : Launch) (G : va_G) (K : Nat → ClassId) (ad : Nat → Nat) (S : Cst) (x0 : Nat) (a1 : Option Nat) (a2 : Int32) (sz : Nat) : Met l yX8_againstSecond v_Y8_againstSecond ({ frames := 2, cells := 0, slots := 0, locals := 42 }) (va_Pc [.ref (ad x0), va_re ad a1, .int a2] (cSt G K ad sz S (iK S x0 1 ∧ p_Y8_againstSecond S x0 a1 a2))) (va_Qi (fun (r : Int32) (u : Cst) => (r, u) = (f_Y8_againstSecond S x0 a1 a2, S)) (cBt G K ad (va_A (wsC K ad S) sz)) (va_A (wsC K ad S) sz)) 0 0 (va_A (wsC K ad S) sz) := by
  refine Met.ofW (cc := cX8_againstSecond) (maxL := 4) (ret := (some .int)) (by decide) rfl ?_
  intro p e s m args below meth c s₁ B hml hv
  obtain ⟨rfl, ⟨hsz, hP, hK, hD0, hTE⟩, hp⟩ := hv
  obtain ⟨k_x0, hp⟩ := hp
  have hx := B.exec
  have hb := B.bytes
  have hr := B.returns
  have hts := atoms_spec (ws := v_Y8_againstSecond) B.pre
  have t_ := t_Y8_againstSecond
  have mw : ∀ w ∈ e_Y8_againstSecond, w ∈ v_Y8_againstSecond := fun w h => List.mem_cons_of_mem _ (List.mem_append_left _ h)
  have hw := fun w (h : w ∈ e_Y8_againstSecond) => hts w (mw w h)
  have iX4 : ∀ w ∈ wsX40, w ∈ v_Y8_againstSecond := fun w h => List.mem_cons_of_mem _ (List.mem_append_right _ (List.mem_append_left _ h))
  have iX2 : ∀ w ∈ wsX20, w ∈ v_Y8_againstSecond := fun w h => List.mem_cons_of_mem _ (List.mem_append_right _ (List.mem_append_right _ (List.mem_append_left _ h)))
  have j_Y8_againstAbsent : ∀ w ∈ v_Y8_againstAbsent, w ∈ v_Y8_againstSecond := fun w h => List.mem_cons_of_mem _ (List.mem_append_right _ (List.mem_append_right _ (List.mem_append_right _ (List.mem_append_left _ h))))
  have hown : s.vm.findClass RX8 = some m.cls := findClass_of_methodNamed B.named
  have hlocks := B.notSynchronized
  subst hsz
  have hD := hD0.self (sz := s.heap.size)
  generalize hAe : va_A (wsC K ad S) s.heap.size = A at hD ⊢
  have hA : ∀ q : Nat, s.heap.size ≤ q → A q := fun q h => by rw [← hAe]; exact Or.inr h
  have hS : va_S A s.heap s.heap [] := va_S.rf
  have hl : lv_has (lg_sl ([.ref (ad x0), va_re ad a1, .int a2]) ++ List.replicate (4 - (lg_sl ([.ref (ad x0), va_re ad a1, .int a2])).length) Slot.unset).toArray 4 [(0, .ref (ad x0)), (1, va_re ad a1), (2, .int a2)] := by
    cases a1 <;> exact lv_entry _ (n := 4) (Nat.le_of_ble_eq_true rfl)
  rw [lg_entry_eq]
  generalize (lg_sl ([.ref (ad x0), va_re ad a1, .int a2]) ++ List.replicate (4 - (lg_sl ([.ref (ad x0), va_re ad a1, .int a2])).length) Slot.unset).toArray = ls_ at hl ⊢
  refine wGen (fun Q hQ => ?_)
  obtain ⟨X, hX⟩ : ∃ X, f_Y8_againstSecond S x0 a1 a2 = X := ⟨_, rfl⟩
  have B_Y8_againstSecond_29 : ∀ (x1 : Option Nat) (x2 : Int32) (x3 : Int32) (H : Heap) (locs : List Loc) (ls_ : Array Slot), b_Y8_againstSecond_29 S x0 x1 x2 x3 = X → q_Y8_againstSecond_29 S x0 x1 x2 x3 → va_P G vwCl (wsC K ad S) H → va_D A (wsC K ad S) → va_S A s.heap H locs → lv_has ls_ 4 [(0, .ref (ad x0)), (1, va_re ad x1), (2, .int x2), (3, .int x3)] → W p l e ({ frames := 2, cells := 0, slots := 0, locals := 42 } : Room) s m #[Value.ref (ad x0), va_re ad a1, Value.int a2] below meth c H locs 0 0 Q (F0 m 29 ls_ []) := by
    intro x1 x2 x3 H locs ls_ hE hp hP hD hS hl
    unfold b_Y8_againstSecond_29 at hE
    unfold q_Y8_againstSecond_29 at hp
    refine lv_iconst (v := 3) hx hb dX8_againstSecond_29 (by decide) ?_
    subst hQ
    exact W.iret (v := (3 : Int32)) hx hb hr (fun t ht hW => ⟨⟨(3 : Int32), S, rfl, (pair_i (hE.trans hX.symm)), by rw [ht]; exact hP, hD⟩, hS.F ht⟩) hS.2.2 dX8_againstSecond_30
  have B_Y8_againstSecond_52 : ∀ (x1 : Option Nat) (x2 : Int32) (x3 : Int32) (y0 : Int32) (H : Heap) (locs : List Loc) (ls_ : Array Slot), b_Y8_againstSecond_52 S x0 x1 x2 x3 y0 = X → q_Y8_againstSecond_52 S x0 x1 x2 x3 y0 → va_P G vwCl (wsC K ad S) H → va_D A (wsC K ad S) → va_S A s.heap H locs → lv_has ls_ 4 [(0, .ref (ad x0)), (1, va_re ad x1), (2, .int x2), (3, .int x3)] → W p l e ({ frames := 2, cells := 0, slots := 0, locals := 42 } : Room) s m #[Value.ref (ad x0), va_re ad a1, Value.int a2] below meth c H locs 0 0 Q (F0 m 52 ls_ [.int y0]) := by
    intro x1 x2 x3 y0 H locs ls_ hE hp hP hD hS hl
    unfold b_Y8_againstSecond_52 at hE
    unfold q_Y8_againstSecond_52 at hp
    subst hQ
    exact W.iret (v := y0) hx hb hr (fun t ht hW => ⟨⟨y0, S, rfl, (pair_i (hE.trans hX.symm)), by rw [ht]; exact hP, hD⟩, hS.F ht⟩) hS.2.2 dX8_againstSecond_52
  have B_Y8_againstSecond_47 : ∀ (x1 : Option Nat) (x2 : Int32) (x3 : Int32) (H : Heap) (locs : List Loc) (ls_ : Array Slot), b_Y8_againstSecond_47 S x0 x1 x2 x3 = X → q_Y8_againstSecond_47 S x0 x1 x2 x3 → va_P G vwCl (wsC K ad S) H → va_D A (wsC K ad S) → va_S A s.heap H locs → lv_has ls_ 4 [(0, .ref (ad x0)), (1, va_re ad x1), (2, .int x2), (3, .int x3)] → W p l e ({ frames := 2, cells := 0, slots := 0, locals := 42 } : Room) s m #[Value.ref (ad x0), va_re ad a1, Value.int a2] below meth c H locs 0 0 Q (F0 m 47 ls_ []) := by
    intro x1 x2 x3 H locs ls_ hE hp hP hD hS hl
    unfold b_Y8_againstSecond_47 at hE
    unfold q_Y8_againstSecond_47 at hp
    refine lv_iconst (v := 2) hx hb dX8_againstSecond_47 (by decide) ?_
    refine lv_goto (tgt := 52) hx hb dX8_againstSecond_48 (by decide) ?_
    exact B_Y8_againstSecond_52 x1 x2 x3 2 _ _ _ hE hp hP hD hS (lv_sub hl [0, 1, 2, 3] rfl)
  have B_M : ∀ (x1 : Option Nat) (x2 : Int32) (H : Heap) (locs : List Loc) (ls_ : Array Slot), f_Y8_againstSecond S x0 x1 x2 = X → p_Y8_againstSecond S x0 x1 x2 → va_P G vwCl (wsC K ad S) H → va_D A (wsC K ad S) → va_S A s.heap H locs → lv_has ls_ 4 [(0, .ref (ad x0)), (1, va_re ad x1), (2, .int x2)] → W p l e ({ frames := 2, cells := 0, slots := 0, locals := 42 } : Room) s m #[Value.ref (ad x0), va_re ad a1, Value.int a2] below meth c H locs 0 0 Q (F0 m 0 ls_ []) := by
    intro x1 x2 H locs ls_ hE hp hP hD hS hl
    unfold f_Y8_againstSecond at hE
    unfold p_Y8_againstSecond at hp
    refine lv_aload_n hx hb dX8_againstSecond_0 rfl (lv_at hl 0 rfl) ?_
    refine lv_iload_n hx hb dX8_againstSecond_1 rfl (lv_at hl 2 rfl) ?_
    obtain ⟨hy1, hp⟩ := hp
    refine cGoi (va_runS (As := [.ref (ad x0), .int x2]) (rest := []) ⟨hx, hb, hml, hown, hts⟩ (c_Y8_againstAbsent l G K ad S x0 x2 _) (va_cwS 2 hts (wGS t_ (mw (.methodLink RX8 42 yX8_againstAbsent) (List.mem_of_getElem? (i := 0) rfl)) (mw (.static yX8_againstAbsent) (List.mem_of_getElem? (i := 1) rfl)) (mw (.initialized RX8) (List.mem_of_getElem? (i := 2) rfl)) j_Y8_againstAbsent) rfl rfl rfl (by decide +kernel) ⟨Nat.le_of_ble_eq_true rfl, Nat.le_of_ble_eq_true rfl⟩) (cPS hK hTE hP hD ⟨k_x0, hy1⟩) rfl rfl hl.1 rfl (lv_room (Nat.le_of_ble_eq_true rfl)) dX8_againstSecond_2 ⟨Nat.le_of_ble_eq_true rfl, Nat.le_of_ble_eq_true rfl⟩) hP hD hS hA (fun r3 u2 H locs hv hP hD hS => ?_)
    have h1 := congrArg Prod.fst hv
    have h2 := (congrArg Prod.snd hv).symm
    dsimp only at h1 h2
    subst h1
    subst h2
    refine lv_istore_n (i := 3) (lv' := [(3, .int (f_Y8_againstAbsent S x0 x2)), (0, .ref (ad x0)), (1, va_re ad x1), (2, .int x2)]) hx hb dX8_againstSecond_5 rfl hl (by decide) rfl (fun ls_ hl => ?_)
    refine lv_iload_n hx hb dX8_againstSecond_6 rfl (lv_at hl 0 rfl) ?_
    refine lv_if_eq (tgt := 12) hx hb dX8_againstSecond_7 (by decide) (fun c4 => ?_) (fun c4 => ?_)
    · rw [if_pos c4] at hE hp
      refine cAload_n (ad := ad) (r := x1) hx hb dX8_againstSecond_12 rfl (lv_at hl 2 rfl) ?_
      obtain ⟨hy5, hp⟩ := hp
      refine cTop (r := x1) hy5.1 ?_
      refine va_get (D := G) (ci := 3) (v := .int (giC S (x1.getD 0) 4)) (C := RX4) (T := TX4) (N := 16) hx hb hts iX4 hown hK hP (x1.getD 0) (at_3 hy5.2) rfl 4 (by decide) (hw (.fieldLink RX8 138 "MotionFloor$Motion" "seconder" "I") (List.mem_of_getElem? (i := 3) rfl)) (fun _ h9 => h9) rfl dX8_againstSecond_13 ?_
      refine lv_iconst (v := (-1)) hx hb dX8_againstSecond_16 (by decide) ?_
      refine lv_icmp_ne (tgt := 29) hx hb dX8_againstSecond_17 (by decide) (fun c6 => ?_) (fun c6 => ?_)
      · rw [if_neg c6] at hE hp
        exact B_Y8_againstSecond_29 x1 x2 (f_Y8_againstAbsent S x0 x2) _ _ _ hE hp hP hD hS (lv_sub hl [1, 2, 3, 0] rfl)
      · rw [if_pos c6] at hE hp
        refine cAload_n (ad := ad) (r := x1) hx hb dX8_againstSecond_20 rfl (lv_at hl 2 rfl) ?_
        obtain ⟨hy7, hp⟩ := hp
        refine cTop (r := x1) hy7.1 ?_
        refine va_get (D := G) (ci := 3) (v := .int (giC S (x1.getD 0) 2)) (C := RX4) (T := TX4) (N := 16) hx hb hts iX4 hown hK hP (x1.getD 0) (at_3 hy7.2) rfl 2 (by decide) (hw (.fieldLink RX8 128 "MotionFloor$Motion" "kind" "I") (List.mem_of_getElem? (i := 4) rfl)) (fun _ h9 => h9) rfl dX8_againstSecond_21 ?_
        refine lv_bipush (v := 9) hx hb dX8_againstSecond_24 (by decide) ?_
        refine lv_icmp_ne (tgt := 31) hx hb dX8_againstSecond_26 (by decide) (fun c8 => ?_) (fun c8 => ?_)
        · rw [if_neg c8] at hE hp
          refine lv_iload_n hx hb dX8_againstSecond_31 rfl (lv_at hl 3 rfl) ?_
          refine cAload_n (ad := ad) (r := x1) hx hb dX8_againstSecond_32 rfl (lv_at hl 2 rfl) ?_
          obtain ⟨hy9, hp⟩ := hp
          refine cTop (r := x1) hy9.1 ?_
          refine va_get (D := G) (ci := 3) (v := .int (giC S (x1.getD 0) 3)) (C := RX4) (T := TX4) (N := 16) hx hb hts iX4 hown hK hP (x1.getD 0) (at_3 hy9.2) rfl 3 (by decide) (hw (.fieldLink RX8 229 "MotionFloor$Motion" "mover" "I") (List.mem_of_getElem? (i := 5) rfl)) (fun _ h9 => h9) rfl dX8_againstSecond_33 ?_
          refine lv_icmp_eq (tgt := 47) hx hb dX8_againstSecond_36 (by decide) (fun c10 => ?_) (fun c10 => ?_)
          · rw [if_pos c10] at hE hp
            exact B_Y8_againstSecond_47 x1 x2 (f_Y8_againstAbsent S x0 x2) _ _ _ hE hp hP hD hS (lv_sub hl [1, 2, 3, 0] rfl)
          · rw [if_neg c10] at hE hp
            refine lv_iload_n hx hb dX8_againstSecond_39 rfl (lv_at hl 3 rfl) ?_
            refine lv_aload_n hx hb dX8_againstSecond_40 rfl (lv_at hl 1 rfl) ?_
            refine va_get (D := G) (ci := 1) (v := .int (giC S x0 3)) (C := RX2) (T := TX2) (N := 8) hx hb hts iX2 hown hK hP x0 (at_1 k_x0) rfl 3 (by decide) (hw (.fieldLink RX8 79 "MotionFloor$House" "chair" "I") (List.mem_of_getElem? (i := 6) rfl)) (fun _ h9 => h9) rfl dX8_againstSecond_41 ?_
            refine lv_icmp_ne (tgt := 51) hx hb dX8_againstSecond_44 (by decide) (fun c11 => ?_) (fun c11 => ?_)
            · rw [if_neg c11] at hE hp
              refine lv_iconst (v := 0) hx hb dX8_againstSecond_51 (by decide) ?_
              exact B_Y8_againstSecond_52 x1 x2 (f_Y8_againstAbsent S x0 x2) 0 _ _ _ hE hp hP hD hS (lv_sub hl [1, 2, 3, 0] rfl)
            · rw [if_pos c11] at hE hp
              exact B_Y8_againstSecond_47 x1 x2 (f_Y8_againstAbsent S x0 x2) _ _ _ hE hp hP hD hS (lv_sub hl [1, 2, 3, 0] rfl)
        · rw [if_pos c8] at hE hp
          exact B_Y8_againstSecond_29 x1 x2 (f_Y8_againstAbsent S x0 x2) _ _ _ hE hp hP hD hS (lv_sub hl [1, 2, 3, 0] rfl)
    · rw [if_neg c4] at hE hp
      refine lv_iload_n hx hb dX8_againstSecond_10 rfl (lv_at hl 0 rfl) ?_
      subst hQ
      exact W.iret (v := (f_Y8_againstAbsent S x0 x2)) hx hb hr (fun t ht hW => ⟨⟨(f_Y8_againstAbsent S x0 x2), S, rfl, (pair_i (hE.trans hX.symm)), by rw [ht]; exact hP, hD⟩, hS.F ht⟩) hS.2.2 dX8_againstSecond_11
  exact B_M a1 a2 _ _ _ hX hp hP hD hS hl
theorem gdX8_againstOnMotion_134 : ckS (List.drop 134 cX8_againstOnMotion.data.toList) 134 [(134, .ireturn, 1), (135, .aload_n 0, 1), (136, .getfield 34, 3), (139, .aload 5, 2), (141, .iload_n 2, 1), (142, .iload_n 3, 1), (143, .invokestatic 100, 3)] = true := by decide +kernel
theorem dX8_againstOnMotion_134 : decode cX8_againstOnMotion 134 = .ok (.ireturn, 1) := ckS_g gdX8_againstOnMotion_134 0 rfl
theorem dX8_againstOnMotion_135 : decode cX8_againstOnMotion 135 = .ok (.aload_n 0, 1) := ckS_g gdX8_againstOnMotion_134 1 rfl
theorem dX8_againstOnMotion_136 : decode cX8_againstOnMotion 136 = .ok (.getfield 34, 3) := ckS_g gdX8_againstOnMotion_134 2 rfl
theorem dX8_againstOnMotion_139 : decode cX8_againstOnMotion 139 = .ok (.aload 5, 2) := ckS_g gdX8_againstOnMotion_134 3 rfl
theorem dX8_againstOnMotion_141 : decode cX8_againstOnMotion 141 = .ok (.iload_n 2, 1) := ckS_g gdX8_againstOnMotion_134 4 rfl
theorem dX8_againstOnMotion_142 : decode cX8_againstOnMotion 142 = .ok (.iload_n 3, 1) := ckS_g gdX8_againstOnMotion_134 5 rfl
theorem dX8_againstOnMotion_143 : decode cX8_againstOnMotion 143 = .ok (.invokestatic 100, 3) := ckS_g gdX8_againstOnMotion_134 6 rfl
theorem gdX8_againstVote_0 : ckS (List.drop 0 cX8_againstVote.data.toList) 0 [(0, .aload_n 0, 1), (1, .iload_n 2, 1), (2, .invokevirtual 114, 3), (5, .ifCond .eq 12, 3), (8, .iload_n 3, 1), (9, .ifCond .lt 8, 3), (12, .iload_n 3, 1), (13, .iconst 2, 1), (14, .if_icmp .le 6, 3), (17, .bipush 9, 2), (19, .ireturn, 1), (20, .aload_n 0, 1), (21, .iload_n 2, 1), (22, .invokevirtual 82, 3), (25, .ifCond .ne 6, 3), (28, .bipush 8, 2), (30, .ireturn, 1), (31, .aload_n 1, 1), (32, .getfield 138, 3), (35, .iconst (-1), 1), (36, .if_icmp .ne 7, 3), (39, .iconst 3, 1), (40, .goto 4, 3), (43, .iconst 0, 1), (44, .ireturn, 1)] = true := by decide +kernel
theorem dX8_againstVote_0 : decode cX8_againstVote 0 = .ok (.aload_n 0, 1) := ckS_g gdX8_againstVote_0 0 rfl
theorem dX8_againstVote_1 : decode cX8_againstVote 1 = .ok (.iload_n 2, 1) := ckS_g gdX8_againstVote_0 1 rfl
theorem dX8_againstVote_2 : decode cX8_againstVote 2 = .ok (.invokevirtual 114, 3) := ckS_g gdX8_againstVote_0 2 rfl
theorem dX8_againstVote_5 : decode cX8_againstVote 5 = .ok (.ifCond .eq 12, 3) := ckS_g gdX8_againstVote_0 3 rfl
theorem dX8_againstVote_8 : decode cX8_againstVote 8 = .ok (.iload_n 3, 1) := ckS_g gdX8_againstVote_0 4 rfl
theorem dX8_againstVote_9 : decode cX8_againstVote 9 = .ok (.ifCond .lt 8, 3) := ckS_g gdX8_againstVote_0 5 rfl
theorem dX8_againstVote_12 : decode cX8_againstVote 12 = .ok (.iload_n 3, 1) := ckS_g gdX8_againstVote_0 6 rfl
theorem dX8_againstVote_13 : decode cX8_againstVote 13 = .ok (.iconst 2, 1) := ckS_g gdX8_againstVote_0 7 rfl
theorem dX8_againstVote_14 : decode cX8_againstVote 14 = .ok (.if_icmp .le 6, 3) := ckS_g gdX8_againstVote_0 8 rfl
theorem dX8_againstVote_17 : decode cX8_againstVote 17 = .ok (.bipush 9, 2) := ckS_g gdX8_againstVote_0 9 rfl
theorem dX8_againstVote_19 : decode cX8_againstVote 19 = .ok (.ireturn, 1) := ckS_g gdX8_againstVote_0 10 rfl
theorem dX8_againstVote_20 : decode cX8_againstVote 20 = .ok (.aload_n 0, 1) := ckS_g gdX8_againstVote_0 11 rfl
theorem dX8_againstVote_21 : decode cX8_againstVote 21 = .ok (.iload_n 2, 1) := ckS_g gdX8_againstVote_0 12 rfl
theorem dX8_againstVote_22 : decode cX8_againstVote 22 = .ok (.invokevirtual 82, 3) := ckS_g gdX8_againstVote_0 13 rfl
theorem dX8_againstVote_25 : decode cX8_againstVote 25 = .ok (.ifCond .ne 6, 3) := ckS_g gdX8_againstVote_0 14 rfl
theorem dX8_againstVote_28 : decode cX8_againstVote 28 = .ok (.bipush 8, 2) := ckS_g gdX8_againstVote_0 15 rfl
theorem dX8_againstVote_30 : decode cX8_againstVote 30 = .ok (.ireturn, 1) := ckS_g gdX8_againstVote_0 16 rfl
theorem dX8_againstVote_31 : decode cX8_againstVote 31 = .ok (.aload_n 1, 1) := ckS_g gdX8_againstVote_0 17 rfl
theorem dX8_againstVote_32 : decode cX8_againstVote 32 = .ok (.getfield 138, 3) := ckS_g gdX8_againstVote_0 18 rfl
theorem dX8_againstVote_35 : decode cX8_againstVote 35 = .ok (.iconst (-1), 1) := ckS_g gdX8_againstVote_0 19 rfl
theorem dX8_againstVote_36 : decode cX8_againstVote 36 = .ok (.if_icmp .ne 7, 3) := ckS_g gdX8_againstVote_0 20 rfl
theorem dX8_againstVote_39 : decode cX8_againstVote 39 = .ok (.iconst 3, 1) := ckS_g gdX8_againstVote_0 21 rfl
theorem dX8_againstVote_40 : decode cX8_againstVote 40 = .ok (.goto 4, 3) := ckS_g gdX8_againstVote_0 22 rfl
theorem dX8_againstVote_43 : decode cX8_againstVote 43 = .ok (.iconst 0, 1) := ckS_g gdX8_againstVote_0 23 rfl
theorem dX8_againstVote_44 : decode cX8_againstVote 44 = .ok (.ireturn, 1) := ckS_g gdX8_againstVote_0 24 rfl
set_option maxRecDepth 100000 in
theorem zc377 : wZ (.code yX8_againstVote cX8_againstVote 4 (some .int)) := ⟨wT2 (List.mem_of_getElem? (i := 180) rfl), Or.inl rfl⟩
def b_Y8_againstVote_17 (S : Cst) (x0 : Nat) (x1 : Option Nat) (x2 : Int32) (x3 : Int32) : Int32 := (9 : Int32)
def q_Y8_againstVote_17 (S : Cst) (x0 : Nat) (x1 : Option Nat) (x2 : Int32) (x3 : Int32) : Prop := True
def b_Y8_againstVote_44 (S : Cst) (x0 : Nat) (x1 : Option Nat) (x2 : Int32) (x3 : Int32) (y0 : Int32) : Int32 := y0
def q_Y8_againstVote_44 (S : Cst) (x0 : Nat) (x1 : Option Nat) (x2 : Int32) (x3 : Int32) (y0 : Int32) : Prop := True
def f_Y8_againstVote (S : Cst) (x0 : Nat) (x1 : Option Nat) (x2 : Int32) (x3 : Int32) : Int32 := if (f_Y2_has S x0 x2) = 0 then (b_Y8_againstVote_17 S x0 x1 x2 x3) else if x3 < 0 then (b_Y8_againstVote_17 S x0 x1 x2 x3) else if x3 ≤ 2 then if (f_Y2_isThere S x0 x2) = 0 then (8 : Int32) else if (giC S (x1.getD 0) 4) = (-1) then (b_Y8_againstVote_44 S x0 x1 x2 x3 3) else (b_Y8_againstVote_44 S x0 x1 x2 x3 0) else (b_Y8_againstVote_17 S x0 x1 x2 x3)
def p_Y8_againstVote (S : Cst) (x0 : Nat) (x1 : Option Nat) (x2 : Int32) (x3 : Int32) : Prop := (p_Y2_has S x0 x2) ∧ (if (f_Y2_has S x0 x2) = 0 then (q_Y8_againstVote_17 S x0 x1 x2 x3) else (if x3 < 0 then (q_Y8_againstVote_17 S x0 x1 x2 x3) else (if x3 ≤ 2 then (p_Y2_isThere S x0 x2) ∧ (if (f_Y2_isThere S x0 x2) = 0 then True else (iR S x1 3) ∧ (if (giC S (x1.getD 0) 4) = (-1) then (q_Y8_againstVote_44 S x0 x1 x2 x3 3) else (q_Y8_againstVote_44 S x0 x1 x2 x3 0))) else (q_Y8_againstVote_17 S x0 x1 x2 x3))))
def e_Y8_againstVote : List Cond := [.methodLink RX8 114 yX2_has, .instanceMethod yX2_has, .selects RX2 yX2_has yX2_has, .initialized RX2, .methodLink RX8 82 yX2_isThere, .instanceMethod yX2_isThere, .selects RX2 yX2_isThere yX2_isThere, .fieldLink RX8 138 "MotionFloor$Motion" "seconder" "I"]
def v_Y8_againstVote : List Cond := .code yX8_againstVote cX8_againstVote 4 (some .int) :: (e_Y8_againstVote ++ (wsX40 ++ (v_Y2_has ++ (v_Y2_isThere ++ []))))
theorem te_Y8_againstVote : GoodIn lw_tbl e_Y8_againstVote := wGc zc367 (wGc zc215 (wGc zc214 (wGc zc77 (wGc zc366 (wGc zc226 (wGc zc225 (wGc zc372 (wG0))))))))
theorem t_Y8_againstVote : GoodIn lw_tbl v_Y8_againstVote := wGc zc377 (wGa te_Y8_againstVote (wGa zcX4 (wGa t_Y2_has (wGa t_Y2_isThere (wG0)))))
set_option maxHeartbeats 4000000 in
set_option maxRecDepth 100000 in
theorem c_Y8_againstVote (l : Launch) (G : va_G) (K : Nat → ClassId) (ad : Nat → Nat) (S : Cst) (x0 : Nat) (a1 : Option Nat) (a2 : Int32) (a3 : Int32) (sz : Nat) : Met l yX8_againstVote v_Y8_againstVote ({ frames := 1, cells := 0, slots := 0, locals := 21 }) (va_Pc [.ref (ad x0), va_re ad a1, .int a2, .int a3] (cSt G K ad sz S (iK S x0 1 ∧ p_Y8_againstVote S x0 a1 a2 a3))) (va_Qi (fun (r : Int32) (u : Cst) => (r, u) = (f_Y8_againstVote S x0 a1 a2 a3, S)) (cBt G K ad (va_A (wsC K ad S) sz)) (va_A (wsC K ad S) sz)) 0 0 (va_A (wsC K ad S) sz) := by
  refine Met.ofW (cc := cX8_againstVote) (maxL := 4) (ret := (some .int)) (by decide) rfl ?_
  intro p e s m args below meth c s₁ B hml hv
  obtain ⟨rfl, ⟨hsz, hP, hK, hD0, hTE⟩, hp⟩ := hv
  obtain ⟨k_x0, hp⟩ := hp
  have hx := B.exec
  have hb := B.bytes
  have hr := B.returns
  have hts := atoms_spec (ws := v_Y8_againstVote) B.pre
  have t_ := t_Y8_againstVote
  have mw : ∀ w ∈ e_Y8_againstVote, w ∈ v_Y8_againstVote := fun w h => List.mem_cons_of_mem _ (List.mem_append_left _ h)
  have hw := fun w (h : w ∈ e_Y8_againstVote) => hts w (mw w h)
  have iX4 : ∀ w ∈ wsX40, w ∈ v_Y8_againstVote := fun w h => List.mem_cons_of_mem _ (List.mem_append_right _ (List.mem_append_left _ h))
  have j_Y2_has : ∀ w ∈ v_Y2_has, w ∈ v_Y8_againstVote := fun w h => List.mem_cons_of_mem _ (List.mem_append_right _ (List.mem_append_right _ (List.mem_append_left _ h)))
  have j_Y2_isThere : ∀ w ∈ v_Y2_isThere, w ∈ v_Y8_againstVote := fun w h => List.mem_cons_of_mem _ (List.mem_append_right _ (List.mem_append_right _ (List.mem_append_right _ (List.mem_append_left _ h))))
  have hown : s.vm.findClass RX8 = some m.cls := findClass_of_methodNamed B.named
  have hlocks := B.notSynchronized
  subst hsz
  have hD := hD0.self (sz := s.heap.size)
  generalize hAe : va_A (wsC K ad S) s.heap.size = A at hD ⊢
  have hA : ∀ q : Nat, s.heap.size ≤ q → A q := fun q h => by rw [← hAe]; exact Or.inr h
  have hS : va_S A s.heap s.heap [] := va_S.rf
  have hl : lv_has (lg_sl ([.ref (ad x0), va_re ad a1, .int a2, .int a3]) ++ List.replicate (4 - (lg_sl ([.ref (ad x0), va_re ad a1, .int a2, .int a3])).length) Slot.unset).toArray 4 [(0, .ref (ad x0)), (1, va_re ad a1), (2, .int a2), (3, .int a3)] := by
    cases a1 <;> exact lv_entry _ (n := 4) (Nat.le_of_ble_eq_true rfl)
  rw [lg_entry_eq]
  generalize (lg_sl ([.ref (ad x0), va_re ad a1, .int a2, .int a3]) ++ List.replicate (4 - (lg_sl ([.ref (ad x0), va_re ad a1, .int a2, .int a3])).length) Slot.unset).toArray = ls_ at hl ⊢
  refine wGen (fun Q hQ => ?_)
  obtain ⟨X, hX⟩ : ∃ X, f_Y8_againstVote S x0 a1 a2 a3 = X := ⟨_, rfl⟩
  have B_Y8_againstVote_17 : ∀ (x1 : Option Nat) (x2 : Int32) (x3 : Int32) (H : Heap) (locs : List Loc) (ls_ : Array Slot), b_Y8_againstVote_17 S x0 x1 x2 x3 = X → q_Y8_againstVote_17 S x0 x1 x2 x3 → va_P G vwCl (wsC K ad S) H → va_D A (wsC K ad S) → va_S A s.heap H locs → lv_has ls_ 4 [(0, .ref (ad x0)), (1, va_re ad x1), (2, .int x2), (3, .int x3)] → W p l e ({ frames := 1, cells := 0, slots := 0, locals := 21 } : Room) s m #[Value.ref (ad x0), va_re ad a1, Value.int a2, Value.int a3] below meth c H locs 0 0 Q (F0 m 17 ls_ []) := by
    intro x1 x2 x3 H locs ls_ hE hp hP hD hS hl
    unfold b_Y8_againstVote_17 at hE
    unfold q_Y8_againstVote_17 at hp
    refine lv_bipush (v := 9) hx hb dX8_againstVote_17 (by decide) ?_
    subst hQ
    exact W.iret (v := (9 : Int32)) hx hb hr (fun t ht hW => ⟨⟨(9 : Int32), S, rfl, (pair_i (hE.trans hX.symm)), by rw [ht]; exact hP, hD⟩, hS.F ht⟩) hS.2.2 dX8_againstVote_19
  have B_Y8_againstVote_44 : ∀ (x1 : Option Nat) (x2 : Int32) (x3 : Int32) (y0 : Int32) (H : Heap) (locs : List Loc) (ls_ : Array Slot), b_Y8_againstVote_44 S x0 x1 x2 x3 y0 = X → q_Y8_againstVote_44 S x0 x1 x2 x3 y0 → va_P G vwCl (wsC K ad S) H → va_D A (wsC K ad S) → va_S A s.heap H locs → lv_has ls_ 4 [(0, .ref (ad x0)), (1, va_re ad x1), (2, .int x2), (3, .int x3)] → W p l e ({ frames := 1, cells := 0, slots := 0, locals := 21 } : Room) s m #[Value.ref (ad x0), va_re ad a1, Value.int a2, Value.int a3] below meth c H locs 0 0 Q (F0 m 44 ls_ [.int y0]) := by
    intro x1 x2 x3 y0 H locs ls_ hE hp hP hD hS hl
    unfold b_Y8_againstVote_44 at hE
    unfold q_Y8_againstVote_44 at hp
    subst hQ
    exact W.iret (v := y0) hx hb hr (fun t ht hW => ⟨⟨y0, S, rfl, (pair_i (hE.trans hX.symm)), by rw [ht]; exact hP, hD⟩, hS.F ht⟩) hS.2.2 dX8_againstVote_44
  have B_M : ∀ (x1 : Option Nat) (x2 : Int32) (x3 : Int32) (H : Heap) (locs : List Loc) (ls_ : Array Slot), f_Y8_againstVote S x0 x1 x2 x3 = X → p_Y8_againstVote S x0 x1 x2 x3 → va_P G vwCl (wsC K ad S) H → va_D A (wsC K ad S) → va_S A s.heap H locs → lv_has ls_ 4 [(0, .ref (ad x0)), (1, va_re ad x1), (2, .int x2), (3, .int x3)] → W p l e ({ frames := 1, cells := 0, slots := 0, locals := 21 } : Room) s m #[Value.ref (ad x0), va_re ad a1, Value.int a2, Value.int a3] below meth c H locs 0 0 Q (F0 m 0 ls_ []) := by
    intro x1 x2 x3 H locs ls_ hE hp hP hD hS hl
    unfold f_Y8_againstVote at hE
    unfold p_Y8_againstVote at hp
    refine lv_aload_n hx hb dX8_againstVote_0 rfl (lv_at hl 0 rfl) ?_
    refine lv_iload_n hx hb dX8_againstVote_1 rfl (lv_at hl 2 rfl) ?_
    obtain ⟨hy1, hp⟩ := hp
    refine cGoi (va_runV (As := [.int x2]) (rest := []) ⟨hx, hb, hml, hown, hts⟩ (c_Y2_has l G K ad S x0 x2 _) (cwV 1 hts (wGV t_ (mw (.methodLink RX8 114 yX2_has) (List.mem_of_getElem? (i := 0) rfl)) (mw (.instanceMethod yX2_has) (List.mem_of_getElem? (i := 1) rfl)) (mw (.selects RX2 yX2_has yX2_has) (List.mem_of_getElem? (i := 2) rfl)) (mw (.initialized RX2) (List.mem_of_getElem? (i := 3) rfl)) j_Y2_has) rfl rfl rfl (by decide +kernel) ⟨Nat.le_of_ble_eq_true rfl, Nat.le_of_ble_eq_true rfl⟩) (cPV hK hTE hP hD 1 rfl (at_1 k_x0) ⟨k_x0, hy1⟩) rfl rfl hl.1 rfl (lv_room (Nat.le_of_ble_eq_true rfl)) dX8_againstVote_2 ⟨Nat.le_of_ble_eq_true rfl, Nat.le_of_ble_eq_true rfl⟩) hP hD hS hA (fun r3 u2 H locs hv hP hD hS => ?_)
    have h1 := congrArg Prod.fst hv
    have h2 := (congrArg Prod.snd hv).symm
    dsimp only at h1 h2
    subst h1
    subst h2
    refine lv_if_eq (tgt := 17) hx hb dX8_againstVote_5 (by decide) (fun c4 => ?_) (fun c4 => ?_)
    · rw [if_pos c4] at hE hp
      exact B_Y8_againstVote_17 x1 x2 x3 _ _ _ hE hp hP hD hS (lv_sub hl [0, 1, 2, 3] rfl)
    · rw [if_neg c4] at hE hp
      refine lv_iload_n hx hb dX8_againstVote_8 rfl (lv_at hl 3 rfl) ?_
      refine lv_if_lt (tgt := 17) hx hb dX8_againstVote_9 (by decide) (fun c5 => ?_) (fun c5 => ?_)
      · rw [if_pos c5] at hE hp
        exact B_Y8_againstVote_17 x1 x2 x3 _ _ _ hE hp hP hD hS (lv_sub hl [0, 1, 2, 3] rfl)
      · rw [if_neg c5] at hE hp
        refine lv_iload_n hx hb dX8_againstVote_12 rfl (lv_at hl 3 rfl) ?_
        refine lv_iconst (v := 2) hx hb dX8_againstVote_13 (by decide) ?_
        refine lv_icmp_le (tgt := 20) hx hb dX8_againstVote_14 (by decide) (fun c6 => ?_) (fun c6 => ?_)
        · rw [if_pos c6] at hE hp
          refine lv_aload_n hx hb dX8_againstVote_20 rfl (lv_at hl 0 rfl) ?_
          refine lv_iload_n hx hb dX8_againstVote_21 rfl (lv_at hl 2 rfl) ?_
          obtain ⟨hy7, hp⟩ := hp
          refine cGoi (va_runV (As := [.int x2]) (rest := []) ⟨hx, hb, hml, hown, hts⟩ (c_Y2_isThere l G K ad S x0 x2 _) (cwV 1 hts (wGV t_ (mw (.methodLink RX8 82 yX2_isThere) (List.mem_of_getElem? (i := 4) rfl)) (mw (.instanceMethod yX2_isThere) (List.mem_of_getElem? (i := 5) rfl)) (mw (.selects RX2 yX2_isThere yX2_isThere) (List.mem_of_getElem? (i := 6) rfl)) (mw (.initialized RX2) (List.mem_of_getElem? (i := 3) rfl)) j_Y2_isThere) rfl rfl rfl (by decide +kernel) ⟨Nat.le_of_ble_eq_true rfl, Nat.le_of_ble_eq_true rfl⟩) (cPV hK hTE hP hD 1 rfl (at_1 k_x0) ⟨k_x0, hy7⟩) rfl rfl hl.1 rfl (lv_room (Nat.le_of_ble_eq_true rfl)) dX8_againstVote_22 ⟨Nat.le_of_ble_eq_true rfl, Nat.le_of_ble_eq_true rfl⟩) hP hD hS hA (fun r9 u8 H locs hv hP hD hS => ?_)
          have h1 := congrArg Prod.fst hv
          have h2 := (congrArg Prod.snd hv).symm
          dsimp only at h1 h2
          subst h1
          subst h2
          refine lv_if_ne (tgt := 31) hx hb dX8_againstVote_25 (by decide) (fun c10 => ?_) (fun c10 => ?_)
          · rw [if_neg c10] at hE hp
            refine cAload_n (ad := ad) (r := x1) hx hb dX8_againstVote_31 rfl (lv_at hl 1 rfl) ?_
            obtain ⟨hy11, hp⟩ := hp
            refine cTop (r := x1) hy11.1 ?_
            refine va_get (D := G) (ci := 3) (v := .int (giC S (x1.getD 0) 4)) (C := RX4) (T := TX4) (N := 16) hx hb hts iX4 hown hK hP (x1.getD 0) (at_3 hy11.2) rfl 4 (by decide) (hw (.fieldLink RX8 138 "MotionFloor$Motion" "seconder" "I") (List.mem_of_getElem? (i := 7) rfl)) (fun _ h9 => h9) rfl dX8_againstVote_32 ?_
            refine lv_iconst (v := (-1)) hx hb dX8_againstVote_35 (by decide) ?_
            refine lv_icmp_ne (tgt := 43) hx hb dX8_againstVote_36 (by decide) (fun c12 => ?_) (fun c12 => ?_)
            · rw [if_neg c12] at hE hp
              refine lv_iconst (v := 0) hx hb dX8_againstVote_43 (by decide) ?_
              exact B_Y8_againstVote_44 x1 x2 x3 0 _ _ _ hE hp hP hD hS (lv_sub hl [0, 1, 2, 3] rfl)
            · rw [if_pos c12] at hE hp
              refine lv_iconst (v := 3) hx hb dX8_againstVote_39 (by decide) ?_
              refine lv_goto (tgt := 44) hx hb dX8_againstVote_40 (by decide) ?_
              exact B_Y8_againstVote_44 x1 x2 x3 3 _ _ _ hE hp hP hD hS (lv_sub hl [0, 1, 2, 3] rfl)
          · rw [if_pos c10] at hE hp
            refine lv_bipush (v := 8) hx hb dX8_againstVote_28 (by decide) ?_
            subst hQ
            exact W.iret (v := (8 : Int32)) hx hb hr (fun t ht hW => ⟨⟨(8 : Int32), S, rfl, (pair_i (hE.trans hX.symm)), by rw [ht]; exact hP, hD⟩, hS.F ht⟩) hS.2.2 dX8_againstVote_30
        · rw [if_neg c6] at hE hp
          exact B_Y8_againstVote_17 x1 x2 x3 _ _ _ hE hp hP hD hS (lv_sub hl [0, 1, 2, 3] rfl)
  exact B_M a1 a2 a3 _ _ _ hX hp hP hD hS hl
theorem gdX8_againstOnMotion_146 : ckS (List.drop 146 cX8_againstOnMotion.data.toList) 146 [(146, .ireturn, 1), (147, .aload_n 0, 1), (148, .getfield 34, 3), (151, .aload 5, 2), (153, .iload_n 2, 1), (154, .invokestatic 104, 3)] = true := by decide +kernel
theorem dX8_againstOnMotion_146 : decode cX8_againstOnMotion 146 = .ok (.ireturn, 1) := ckS_g gdX8_againstOnMotion_146 0 rfl
theorem dX8_againstOnMotion_147 : decode cX8_againstOnMotion 147 = .ok (.aload_n 0, 1) := ckS_g gdX8_againstOnMotion_146 1 rfl
theorem dX8_againstOnMotion_148 : decode cX8_againstOnMotion 148 = .ok (.getfield 34, 3) := ckS_g gdX8_againstOnMotion_146 2 rfl
theorem dX8_againstOnMotion_151 : decode cX8_againstOnMotion 151 = .ok (.aload 5, 2) := ckS_g gdX8_againstOnMotion_146 3 rfl
theorem dX8_againstOnMotion_153 : decode cX8_againstOnMotion 153 = .ok (.iload_n 2, 1) := ckS_g gdX8_againstOnMotion_146 4 rfl
theorem dX8_againstOnMotion_154 : decode cX8_againstOnMotion 154 = .ok (.invokestatic 104, 3) := ckS_g gdX8_againstOnMotion_146 5 rfl
theorem gdX8_againstWithdraw_0 : ckS (List.drop 0 cX8_againstWithdraw.data.toList) 0 [(0, .iload_n 2, 1), (1, .aload_n 1, 1), (2, .getfield 229, 3), (5, .if_icmp .ne 12, 3), (8, .aload_n 1, 1), (9, .getfield 128, 3), (12, .bipush 9, 2), (14, .if_icmp .ne 5, 3), (17, .iconst 2, 1), (18, .ireturn, 1), (19, .aload_n 0, 1), (20, .iload_n 2, 1), (21, .invokevirtual 82, 3), (24, .ifCond .eq 7, 3), (27, .iconst 0, 1), (28, .goto 5, 3), (31, .bipush 8, 2), (33, .ireturn, 1)] = true := by decide +kernel
theorem dX8_againstWithdraw_0 : decode cX8_againstWithdraw 0 = .ok (.iload_n 2, 1) := ckS_g gdX8_againstWithdraw_0 0 rfl
theorem dX8_againstWithdraw_1 : decode cX8_againstWithdraw 1 = .ok (.aload_n 1, 1) := ckS_g gdX8_againstWithdraw_0 1 rfl
theorem dX8_againstWithdraw_2 : decode cX8_againstWithdraw 2 = .ok (.getfield 229, 3) := ckS_g gdX8_againstWithdraw_0 2 rfl
theorem dX8_againstWithdraw_5 : decode cX8_againstWithdraw 5 = .ok (.if_icmp .ne 12, 3) := ckS_g gdX8_againstWithdraw_0 3 rfl
theorem dX8_againstWithdraw_8 : decode cX8_againstWithdraw 8 = .ok (.aload_n 1, 1) := ckS_g gdX8_againstWithdraw_0 4 rfl
theorem dX8_againstWithdraw_9 : decode cX8_againstWithdraw 9 = .ok (.getfield 128, 3) := ckS_g gdX8_againstWithdraw_0 5 rfl
theorem dX8_againstWithdraw_12 : decode cX8_againstWithdraw 12 = .ok (.bipush 9, 2) := ckS_g gdX8_againstWithdraw_0 6 rfl
theorem dX8_againstWithdraw_14 : decode cX8_againstWithdraw 14 = .ok (.if_icmp .ne 5, 3) := ckS_g gdX8_againstWithdraw_0 7 rfl
theorem dX8_againstWithdraw_17 : decode cX8_againstWithdraw 17 = .ok (.iconst 2, 1) := ckS_g gdX8_againstWithdraw_0 8 rfl
theorem dX8_againstWithdraw_18 : decode cX8_againstWithdraw 18 = .ok (.ireturn, 1) := ckS_g gdX8_againstWithdraw_0 9 rfl
theorem dX8_againstWithdraw_19 : decode cX8_againstWithdraw 19 = .ok (.aload_n 0, 1) := ckS_g gdX8_againstWithdraw_0 10 rfl
theorem dX8_againstWithdraw_20 : decode cX8_againstWithdraw 20 = .ok (.iload_n 2, 1) := ckS_g gdX8_againstWithdraw_0 11 rfl
theorem dX8_againstWithdraw_21 : decode cX8_againstWithdraw 21 = .ok (.invokevirtual 82, 3) := ckS_g gdX8_againstWithdraw_0 12 rfl
theorem dX8_againstWithdraw_24 : decode cX8_againstWithdraw 24 = .ok (.ifCond .eq 7, 3) := ckS_g gdX8_againstWithdraw_0 13 rfl
theorem dX8_againstWithdraw_27 : decode cX8_againstWithdraw 27 = .ok (.iconst 0, 1) := ckS_g gdX8_againstWithdraw_0 14 rfl
theorem dX8_againstWithdraw_28 : decode cX8_againstWithdraw 28 = .ok (.goto 5, 3) := ckS_g gdX8_againstWithdraw_0 15 rfl
theorem dX8_againstWithdraw_31 : decode cX8_againstWithdraw 31 = .ok (.bipush 8, 2) := ckS_g gdX8_againstWithdraw_0 16 rfl
theorem dX8_againstWithdraw_33 : decode cX8_againstWithdraw 33 = .ok (.ireturn, 1) := ckS_g gdX8_againstWithdraw_0 17 rfl
set_option maxRecDepth 100000 in
theorem zc378 : wZ (.code yX8_againstWithdraw cX8_againstWithdraw 3 (some .int)) := ⟨wT2 (List.mem_of_getElem? (i := 183) rfl), Or.inl rfl⟩
def b_Y8_againstWithdraw_17 (S : Cst) (x0 : Nat) (x1 : Option Nat) (x2 : Int32) : Int32 := (2 : Int32)
def q_Y8_againstWithdraw_17 (S : Cst) (x0 : Nat) (x1 : Option Nat) (x2 : Int32) : Prop := True
def b_Y8_againstWithdraw_33 (S : Cst) (x0 : Nat) (x1 : Option Nat) (x2 : Int32) (y0 : Int32) : Int32 := y0
def q_Y8_againstWithdraw_33 (S : Cst) (x0 : Nat) (x1 : Option Nat) (x2 : Int32) (y0 : Int32) : Prop := True
def f_Y8_againstWithdraw (S : Cst) (x0 : Nat) (x1 : Option Nat) (x2 : Int32) : Int32 := if x2 = (giC S (x1.getD 0) 3) then if (giC S (x1.getD 0) 2) = 9 then (b_Y8_againstWithdraw_17 S x0 x1 x2) else if (f_Y2_isThere S x0 x2) = 0 then (b_Y8_againstWithdraw_33 S x0 x1 x2 8) else (b_Y8_againstWithdraw_33 S x0 x1 x2 0) else (b_Y8_againstWithdraw_17 S x0 x1 x2)
def p_Y8_againstWithdraw (S : Cst) (x0 : Nat) (x1 : Option Nat) (x2 : Int32) : Prop := (iR S x1 3) ∧ (if x2 = (giC S (x1.getD 0) 3) then (iR S x1 3) ∧ (if (giC S (x1.getD 0) 2) = 9 then (q_Y8_againstWithdraw_17 S x0 x1 x2) else (p_Y2_isThere S x0 x2) ∧ (if (f_Y2_isThere S x0 x2) = 0 then (q_Y8_againstWithdraw_33 S x0 x1 x2 8) else (q_Y8_againstWithdraw_33 S x0 x1 x2 0))) else (q_Y8_againstWithdraw_17 S x0 x1 x2))
def e_Y8_againstWithdraw : List Cond := [.fieldLink RX8 229 "MotionFloor$Motion" "mover" "I", .fieldLink RX8 128 "MotionFloor$Motion" "kind" "I", .methodLink RX8 82 yX2_isThere, .instanceMethod yX2_isThere, .selects RX2 yX2_isThere yX2_isThere, .initialized RX2]
def v_Y8_againstWithdraw : List Cond := .code yX8_againstWithdraw cX8_againstWithdraw 3 (some .int) :: (e_Y8_againstWithdraw ++ (wsX40 ++ (v_Y2_isThere ++ [])))
theorem te_Y8_againstWithdraw : GoodIn lw_tbl e_Y8_againstWithdraw := wGc zc370 (wGc zc371 (wGc zc366 (wGc zc226 (wGc zc225 (wGc zc77 (wG0))))))
theorem t_Y8_againstWithdraw : GoodIn lw_tbl v_Y8_againstWithdraw := wGc zc378 (wGa te_Y8_againstWithdraw (wGa zcX4 (wGa t_Y2_isThere (wG0))))
set_option maxHeartbeats 4000000 in
set_option maxRecDepth 100000 in
theorem c_Y8_againstWithdraw (l : Launch) (G : va_G) (K : Nat → ClassId) (ad : Nat → Nat) (S : Cst) (x0 : Nat) (a1 : Option Nat) (a2 : Int32) (sz : Nat) : Met l yX8_againstWithdraw v_Y8_againstWithdraw ({ frames := 1, cells := 0, slots := 0, locals := 21 }) (va_Pc [.ref (ad x0), va_re ad a1, .int a2] (cSt G K ad sz S (iK S x0 1 ∧ p_Y8_againstWithdraw S x0 a1 a2))) (va_Qi (fun (r : Int32) (u : Cst) => (r, u) = (f_Y8_againstWithdraw S x0 a1 a2, S)) (cBt G K ad (va_A (wsC K ad S) sz)) (va_A (wsC K ad S) sz)) 0 0 (va_A (wsC K ad S) sz) := by
  refine Met.ofW (cc := cX8_againstWithdraw) (maxL := 3) (ret := (some .int)) (by decide) rfl ?_
  intro p e s m args below meth c s₁ B hml hv
  obtain ⟨rfl, ⟨hsz, hP, hK, hD0, hTE⟩, hp⟩ := hv
  obtain ⟨k_x0, hp⟩ := hp
  have hx := B.exec
  have hb := B.bytes
  have hr := B.returns
  have hts := atoms_spec (ws := v_Y8_againstWithdraw) B.pre
  have t_ := t_Y8_againstWithdraw
  have mw : ∀ w ∈ e_Y8_againstWithdraw, w ∈ v_Y8_againstWithdraw := fun w h => List.mem_cons_of_mem _ (List.mem_append_left _ h)
  have hw := fun w (h : w ∈ e_Y8_againstWithdraw) => hts w (mw w h)
  have iX4 : ∀ w ∈ wsX40, w ∈ v_Y8_againstWithdraw := fun w h => List.mem_cons_of_mem _ (List.mem_append_right _ (List.mem_append_left _ h))
  have j_Y2_isThere : ∀ w ∈ v_Y2_isThere, w ∈ v_Y8_againstWithdraw := fun w h => List.mem_cons_of_mem _ (List.mem_append_right _ (List.mem_append_right _ (List.mem_append_left _ h)))
  have hown : s.vm.findClass RX8 = some m.cls := findClass_of_methodNamed B.named
  have hlocks := B.notSynchronized
  subst hsz
  have hD := hD0.self (sz := s.heap.size)
  generalize hAe : va_A (wsC K ad S) s.heap.size = A at hD ⊢
  have hA : ∀ q : Nat, s.heap.size ≤ q → A q := fun q h => by rw [← hAe]; exact Or.inr h
  have hS : va_S A s.heap s.heap [] := va_S.rf
  have hl : lv_has (lg_sl ([.ref (ad x0), va_re ad a1, .int a2]) ++ List.replicate (3 - (lg_sl ([.ref (ad x0), va_re ad a1, .int a2])).length) Slot.unset).toArray 3 [(0, .ref (ad x0)), (1, va_re ad a1), (2, .int a2)] := by
    cases a1 <;> exact lv_entry _ (n := 3) (Nat.le_of_ble_eq_true rfl)
  rw [lg_entry_eq]
  generalize (lg_sl ([.ref (ad x0), va_re ad a1, .int a2]) ++ List.replicate (3 - (lg_sl ([.ref (ad x0), va_re ad a1, .int a2])).length) Slot.unset).toArray = ls_ at hl ⊢
  refine wGen (fun Q hQ => ?_)
  obtain ⟨X, hX⟩ : ∃ X, f_Y8_againstWithdraw S x0 a1 a2 = X := ⟨_, rfl⟩
  have B_Y8_againstWithdraw_17 : ∀ (x1 : Option Nat) (x2 : Int32) (H : Heap) (locs : List Loc) (ls_ : Array Slot), b_Y8_againstWithdraw_17 S x0 x1 x2 = X → q_Y8_againstWithdraw_17 S x0 x1 x2 → va_P G vwCl (wsC K ad S) H → va_D A (wsC K ad S) → va_S A s.heap H locs → lv_has ls_ 3 [(0, .ref (ad x0)), (1, va_re ad x1), (2, .int x2)] → W p l e ({ frames := 1, cells := 0, slots := 0, locals := 21 } : Room) s m #[Value.ref (ad x0), va_re ad a1, Value.int a2] below meth c H locs 0 0 Q (F0 m 17 ls_ []) := by
    intro x1 x2 H locs ls_ hE hp hP hD hS hl
    unfold b_Y8_againstWithdraw_17 at hE
    unfold q_Y8_againstWithdraw_17 at hp
    refine lv_iconst (v := 2) hx hb dX8_againstWithdraw_17 (by decide) ?_
    subst hQ
    exact W.iret (v := (2 : Int32)) hx hb hr (fun t ht hW => ⟨⟨(2 : Int32), S, rfl, (pair_i (hE.trans hX.symm)), by rw [ht]; exact hP, hD⟩, hS.F ht⟩) hS.2.2 dX8_againstWithdraw_18
  have B_Y8_againstWithdraw_33 : ∀ (x1 : Option Nat) (x2 : Int32) (y0 : Int32) (H : Heap) (locs : List Loc) (ls_ : Array Slot), b_Y8_againstWithdraw_33 S x0 x1 x2 y0 = X → q_Y8_againstWithdraw_33 S x0 x1 x2 y0 → va_P G vwCl (wsC K ad S) H → va_D A (wsC K ad S) → va_S A s.heap H locs → lv_has ls_ 3 [(0, .ref (ad x0)), (1, va_re ad x1), (2, .int x2)] → W p l e ({ frames := 1, cells := 0, slots := 0, locals := 21 } : Room) s m #[Value.ref (ad x0), va_re ad a1, Value.int a2] below meth c H locs 0 0 Q (F0 m 33 ls_ [.int y0]) := by
    intro x1 x2 y0 H locs ls_ hE hp hP hD hS hl
    unfold b_Y8_againstWithdraw_33 at hE
    unfold q_Y8_againstWithdraw_33 at hp
    subst hQ
    exact W.iret (v := y0) hx hb hr (fun t ht hW => ⟨⟨y0, S, rfl, (pair_i (hE.trans hX.symm)), by rw [ht]; exact hP, hD⟩, hS.F ht⟩) hS.2.2 dX8_againstWithdraw_33
  have B_M : ∀ (x1 : Option Nat) (x2 : Int32) (H : Heap) (locs : List Loc) (ls_ : Array Slot), f_Y8_againstWithdraw S x0 x1 x2 = X → p_Y8_againstWithdraw S x0 x1 x2 → va_P G vwCl (wsC K ad S) H → va_D A (wsC K ad S) → va_S A s.heap H locs → lv_has ls_ 3 [(0, .ref (ad x0)), (1, va_re ad x1), (2, .int x2)] → W p l e ({ frames := 1, cells := 0, slots := 0, locals := 21 } : Room) s m #[Value.ref (ad x0), va_re ad a1, Value.int a2] below meth c H locs 0 0 Q (F0 m 0 ls_ []) := by
    intro x1 x2 H locs ls_ hE hp hP hD hS hl
    unfold f_Y8_againstWithdraw at hE
    unfold p_Y8_againstWithdraw at hp
    refine lv_iload_n hx hb dX8_againstWithdraw_0 rfl (lv_at hl 2 rfl) ?_
    refine cAload_n (ad := ad) (r := x1) hx hb dX8_againstWithdraw_1 rfl (lv_at hl 1 rfl) ?_
    obtain ⟨hy1, hp⟩ := hp
    refine cTop (r := x1) hy1.1 ?_
    refine va_get (D := G) (ci := 3) (v := .int (giC S (x1.getD 0) 3)) (C := RX4) (T := TX4) (N := 16) hx hb hts iX4 hown hK hP (x1.getD 0) (at_3 hy1.2) rfl 3 (by decide) (hw (.fieldLink RX8 229 "MotionFloor$Motion" "mover" "I") (List.mem_of_getElem? (i := 0) rfl)) (fun _ h9 => h9) rfl dX8_againstWithdraw_2 ?_
    refine lv_icmp_ne (tgt := 17) hx hb dX8_againstWithdraw_5 (by decide) (fun c2 => ?_) (fun c2 => ?_)
    · rw [if_neg c2] at hE hp
      exact B_Y8_againstWithdraw_17 x1 x2 _ _ _ hE hp hP hD hS (lv_sub hl [0, 1, 2] rfl)
    · rw [if_pos c2] at hE hp
      refine cAload_n (ad := ad) (r := x1) hx hb dX8_againstWithdraw_8 rfl (lv_at hl 1 rfl) ?_
      obtain ⟨hy3, hp⟩ := hp
      refine cTop (r := x1) hy3.1 ?_
      refine va_get (D := G) (ci := 3) (v := .int (giC S (x1.getD 0) 2)) (C := RX4) (T := TX4) (N := 16) hx hb hts iX4 hown hK hP (x1.getD 0) (at_3 hy3.2) rfl 2 (by decide) (hw (.fieldLink RX8 128 "MotionFloor$Motion" "kind" "I") (List.mem_of_getElem? (i := 1) rfl)) (fun _ h9 => h9) rfl dX8_againstWithdraw_9 ?_
      refine lv_bipush (v := 9) hx hb dX8_againstWithdraw_12 (by decide) ?_
      refine lv_icmp_ne (tgt := 19) hx hb dX8_againstWithdraw_14 (by decide) (fun c4 => ?_) (fun c4 => ?_)
      · rw [if_neg c4] at hE hp
        refine lv_aload_n hx hb dX8_againstWithdraw_19 rfl (lv_at hl 0 rfl) ?_
        refine lv_iload_n hx hb dX8_againstWithdraw_20 rfl (lv_at hl 2 rfl) ?_
        obtain ⟨hy5, hp⟩ := hp
        refine cGoi (va_runV (As := [.int x2]) (rest := []) ⟨hx, hb, hml, hown, hts⟩ (c_Y2_isThere l G K ad S x0 x2 _) (cwV 1 hts (wGV t_ (mw (.methodLink RX8 82 yX2_isThere) (List.mem_of_getElem? (i := 2) rfl)) (mw (.instanceMethod yX2_isThere) (List.mem_of_getElem? (i := 3) rfl)) (mw (.selects RX2 yX2_isThere yX2_isThere) (List.mem_of_getElem? (i := 4) rfl)) (mw (.initialized RX2) (List.mem_of_getElem? (i := 5) rfl)) j_Y2_isThere) rfl rfl rfl (by decide +kernel) ⟨Nat.le_of_ble_eq_true rfl, Nat.le_of_ble_eq_true rfl⟩) (cPV hK hTE hP hD 1 rfl (at_1 k_x0) ⟨k_x0, hy5⟩) rfl rfl hl.1 rfl (lv_room (Nat.le_of_ble_eq_true rfl)) dX8_againstWithdraw_21 ⟨Nat.le_of_ble_eq_true rfl, Nat.le_of_ble_eq_true rfl⟩) hP hD hS hA (fun r7 u6 H locs hv hP hD hS => ?_)
        have h1 := congrArg Prod.fst hv
        have h2 := (congrArg Prod.snd hv).symm
        dsimp only at h1 h2
        subst h1
        subst h2
        refine lv_if_eq (tgt := 31) hx hb dX8_againstWithdraw_24 (by decide) (fun c8 => ?_) (fun c8 => ?_)
        · rw [if_pos c8] at hE hp
          refine lv_bipush (v := 8) hx hb dX8_againstWithdraw_31 (by decide) ?_
          exact B_Y8_againstWithdraw_33 x1 x2 8 _ _ _ hE hp hP hD hS (lv_sub hl [0, 1, 2] rfl)
        · rw [if_neg c8] at hE hp
          refine lv_iconst (v := 0) hx hb dX8_againstWithdraw_27 (by decide) ?_
          refine lv_goto (tgt := 33) hx hb dX8_againstWithdraw_28 (by decide) ?_
          exact B_Y8_againstWithdraw_33 x1 x2 0 _ _ _ hE hp hP hD hS (lv_sub hl [0, 1, 2] rfl)
      · rw [if_pos c4] at hE hp
        exact B_Y8_againstWithdraw_17 x1 x2 _ _ _ hE hp hP hD hS (lv_sub hl [0, 1, 2] rfl)
  exact B_M a1 a2 _ _ _ hX hp hP hD hS hl
theorem gdX8_againstOnMotion_157 : ckS (List.drop 157 cX8_againstOnMotion.data.toList) 157 [(157, .ireturn, 1), (158, .aload_n 0, 1), (159, .aload 5, 2), (161, .invokestatic 107, 3)] = true := by decide +kernel
theorem dX8_againstOnMotion_157 : decode cX8_againstOnMotion 157 = .ok (.ireturn, 1) := ckS_g gdX8_againstOnMotion_157 0 rfl
theorem dX8_againstOnMotion_158 : decode cX8_againstOnMotion 158 = .ok (.aload_n 0, 1) := ckS_g gdX8_againstOnMotion_157 1 rfl
theorem dX8_againstOnMotion_159 : decode cX8_againstOnMotion 159 = .ok (.aload 5, 2) := ckS_g gdX8_againstOnMotion_157 2 rfl
theorem dX8_againstOnMotion_161 : decode cX8_againstOnMotion 161 = .ok (.invokestatic 107, 3) := ckS_g gdX8_againstOnMotion_157 3 rfl
theorem gdX8_againstRule_0 : ckS (List.drop 0 cX8_againstRule.data.toList) 0 [(0, .aload_n 1, 1), (1, .getfield 128, 3), (4, .bipush 9, 2), (6, .if_icmp .ne 6, 3), (9, .bipush 11, 2), (11, .ireturn, 1), (12, .aload_n 0, 1), (13, .getfield 86, 3), (16, .getfield 117, 3), (19, .bipush 9, 2), (21, .if_icmp .lt 8, 3), (24, .bipush 10, 2), (26, .goto 4, 3), (29, .iconst 0, 1), (30, .ireturn, 1)] = true := by decide +kernel
theorem dX8_againstRule_0 : decode cX8_againstRule 0 = .ok (.aload_n 1, 1) := ckS_g gdX8_againstRule_0 0 rfl
theorem dX8_againstRule_1 : decode cX8_againstRule 1 = .ok (.getfield 128, 3) := ckS_g gdX8_againstRule_0 1 rfl
theorem dX8_againstRule_4 : decode cX8_againstRule 4 = .ok (.bipush 9, 2) := ckS_g gdX8_againstRule_0 2 rfl
theorem dX8_againstRule_6 : decode cX8_againstRule 6 = .ok (.if_icmp .ne 6, 3) := ckS_g gdX8_againstRule_0 3 rfl
theorem dX8_againstRule_9 : decode cX8_againstRule 9 = .ok (.bipush 11, 2) := ckS_g gdX8_againstRule_0 4 rfl
theorem dX8_againstRule_11 : decode cX8_againstRule 11 = .ok (.ireturn, 1) := ckS_g gdX8_againstRule_0 5 rfl
theorem dX8_againstRule_12 : decode cX8_againstRule 12 = .ok (.aload_n 0, 1) := ckS_g gdX8_againstRule_0 6 rfl
theorem dX8_againstRule_13 : decode cX8_againstRule 13 = .ok (.getfield 86, 3) := ckS_g gdX8_againstRule_0 7 rfl
theorem dX8_againstRule_16 : decode cX8_againstRule 16 = .ok (.getfield 117, 3) := ckS_g gdX8_againstRule_0 8 rfl
theorem dX8_againstRule_19 : decode cX8_againstRule 19 = .ok (.bipush 9, 2) := ckS_g gdX8_againstRule_0 9 rfl
theorem dX8_againstRule_21 : decode cX8_againstRule 21 = .ok (.if_icmp .lt 8, 3) := ckS_g gdX8_againstRule_0 10 rfl
theorem dX8_againstRule_24 : decode cX8_againstRule 24 = .ok (.bipush 10, 2) := ckS_g gdX8_againstRule_0 11 rfl
theorem dX8_againstRule_26 : decode cX8_againstRule 26 = .ok (.goto 4, 3) := ckS_g gdX8_againstRule_0 12 rfl
theorem dX8_againstRule_29 : decode cX8_againstRule 29 = .ok (.iconst 0, 1) := ckS_g gdX8_againstRule_0 13 rfl
theorem dX8_againstRule_30 : decode cX8_againstRule 30 = .ok (.ireturn, 1) := ckS_g gdX8_againstRule_0 14 rfl
set_option maxRecDepth 100000 in
theorem zc379 : wZ (.fieldLink RX8 117 "MotionFloor$Pile" "size" "I") := ⟨wT1 (List.mem_of_getElem? (i := 91) (by decide +kernel)), Or.inl rfl⟩
set_option maxRecDepth 100000 in
theorem zc380 : wZ (.fieldLink RX8 86 "MotionFloor$Assembly" "pending" "LMotionFloor$Pile;") := ⟨wT1 (List.mem_of_getElem? (i := 185) (by decide +kernel)), Or.inl rfl⟩
set_option maxRecDepth 100000 in
theorem zc381 : wZ (.code yX8_againstRule cX8_againstRule 2 (some .int)) := ⟨wT2 (List.mem_of_getElem? (i := 186) rfl), Or.inl rfl⟩
def b_Y8_againstRule_30 (S : Cst) (x0 : Nat) (x1 : Option Nat) (y0 : Int32) : Int32 := y0
def q_Y8_againstRule_30 (S : Cst) (x0 : Nat) (x1 : Option Nat) (y0 : Int32) : Prop := True
def f_Y8_againstRule (S : Cst) (x0 : Nat) (x1 : Option Nat) : Int32 := if (giC S (x1.getD 0) 2) = 9 then (11 : Int32) else if (giC S ((grC S x0 1).getD 0) 1) < 9 then (b_Y8_againstRule_30 S x0 x1 0) else (b_Y8_againstRule_30 S x0 x1 10)
def p_Y8_againstRule (S : Cst) (x0 : Nat) (x1 : Option Nat) : Prop := (iR S x1 3) ∧ (if (giC S (x1.getD 0) 2) = 9 then True else (iR S (grC S x0 1) 4) ∧ (if (giC S ((grC S x0 1).getD 0) 1) < 9 then (q_Y8_againstRule_30 S x0 x1 0) else (q_Y8_againstRule_30 S x0 x1 10)))
def e_Y8_againstRule : List Cond := [.fieldLink RX8 128 "MotionFloor$Motion" "kind" "I", .fieldLink RX8 86 "MotionFloor$Assembly" "pending" "LMotionFloor$Pile;", .fieldLink RX8 117 "MotionFloor$Pile" "size" "I"]
def v_Y8_againstRule : List Cond := .code yX8_againstRule cX8_againstRule 2 (some .int) :: (e_Y8_againstRule ++ (wsX40 ++ (wsX00 ++ (wsX50 ++ []))))
theorem te_Y8_againstRule : GoodIn lw_tbl e_Y8_againstRule := wGc zc371 (wGc zc380 (wGc zc379 (wG0)))
theorem t_Y8_againstRule : GoodIn lw_tbl v_Y8_againstRule := wGc zc381 (wGa te_Y8_againstRule (wGa zcX4 (wGa zcX0 (wGa zcX5 (wG0)))))
set_option maxHeartbeats 4000000 in
set_option maxRecDepth 100000 in
theorem c_Y8_againstRule (l : Launch) (G : va_G) (K : Nat → ClassId) (ad : Nat → Nat) (S : Cst) (x0 : Nat) (a1 : Option Nat) (sz : Nat) : Met l yX8_againstRule v_Y8_againstRule ({ frames := 0, cells := 0, slots := 0, locals := 0 }) (va_Pc [.ref (ad x0), va_re ad a1] (cSt G K ad sz S (iK S x0 0 ∧ p_Y8_againstRule S x0 a1))) (va_Qi (fun (r : Int32) (u : Cst) => (r, u) = (f_Y8_againstRule S x0 a1, S)) (cBt G K ad (va_A (wsC K ad S) sz)) (va_A (wsC K ad S) sz)) 0 0 (va_A (wsC K ad S) sz) := by
  refine Met.ofW (cc := cX8_againstRule) (maxL := 2) (ret := (some .int)) (by decide) rfl ?_
  intro p e s m args below meth c s₁ B hml hv
  obtain ⟨rfl, ⟨hsz, hP, hK, hD0, hTE⟩, hp⟩ := hv
  obtain ⟨k_x0, hp⟩ := hp
  have hx := B.exec
  have hb := B.bytes
  have hr := B.returns
  have hts := atoms_spec (ws := v_Y8_againstRule) B.pre
  have t_ := t_Y8_againstRule
  have mw : ∀ w ∈ e_Y8_againstRule, w ∈ v_Y8_againstRule := fun w h => List.mem_cons_of_mem _ (List.mem_append_left _ h)
  have hw := fun w (h : w ∈ e_Y8_againstRule) => hts w (mw w h)
  have iX4 : ∀ w ∈ wsX40, w ∈ v_Y8_againstRule := fun w h => List.mem_cons_of_mem _ (List.mem_append_right _ (List.mem_append_left _ h))
  have iX0 : ∀ w ∈ wsX00, w ∈ v_Y8_againstRule := fun w h => List.mem_cons_of_mem _ (List.mem_append_right _ (List.mem_append_right _ (List.mem_append_left _ h)))
  have iX5 : ∀ w ∈ wsX50, w ∈ v_Y8_againstRule := fun w h => List.mem_cons_of_mem _ (List.mem_append_right _ (List.mem_append_right _ (List.mem_append_right _ (List.mem_append_left _ h))))
  have hown : s.vm.findClass RX8 = some m.cls := findClass_of_methodNamed B.named
  have hlocks := B.notSynchronized
  subst hsz
  have hD := hD0.self (sz := s.heap.size)
  generalize hAe : va_A (wsC K ad S) s.heap.size = A at hD ⊢
  have hA : ∀ q : Nat, s.heap.size ≤ q → A q := fun q h => by rw [← hAe]; exact Or.inr h
  have hS : va_S A s.heap s.heap [] := va_S.rf
  have hl : lv_has (lg_sl ([.ref (ad x0), va_re ad a1]) ++ List.replicate (2 - (lg_sl ([.ref (ad x0), va_re ad a1])).length) Slot.unset).toArray 2 [(0, .ref (ad x0)), (1, va_re ad a1)] := by
    cases a1 <;> exact lv_entry _ (n := 2) (Nat.le_of_ble_eq_true rfl)
  rw [lg_entry_eq]
  generalize (lg_sl ([.ref (ad x0), va_re ad a1]) ++ List.replicate (2 - (lg_sl ([.ref (ad x0), va_re ad a1])).length) Slot.unset).toArray = ls_ at hl ⊢
  refine wGen (fun Q hQ => ?_)
  obtain ⟨X, hX⟩ : ∃ X, f_Y8_againstRule S x0 a1 = X := ⟨_, rfl⟩
  have B_Y8_againstRule_30 : ∀ (x1 : Option Nat) (y0 : Int32) (H : Heap) (locs : List Loc) (ls_ : Array Slot), b_Y8_againstRule_30 S x0 x1 y0 = X → q_Y8_againstRule_30 S x0 x1 y0 → va_P G vwCl (wsC K ad S) H → va_D A (wsC K ad S) → va_S A s.heap H locs → lv_has ls_ 2 [(0, .ref (ad x0)), (1, va_re ad x1)] → W p l e ({ frames := 0, cells := 0, slots := 0, locals := 0 } : Room) s m #[Value.ref (ad x0), va_re ad a1] below meth c H locs 0 0 Q (F0 m 30 ls_ [.int y0]) := by
    intro x1 y0 H locs ls_ hE hp hP hD hS hl
    unfold b_Y8_againstRule_30 at hE
    unfold q_Y8_againstRule_30 at hp
    subst hQ
    exact W.iret (v := y0) hx hb hr (fun t ht hW => ⟨⟨y0, S, rfl, (pair_i (hE.trans hX.symm)), by rw [ht]; exact hP, hD⟩, hS.F ht⟩) hS.2.2 dX8_againstRule_30
  have B_M : ∀ (x1 : Option Nat) (H : Heap) (locs : List Loc) (ls_ : Array Slot), f_Y8_againstRule S x0 x1 = X → p_Y8_againstRule S x0 x1 → va_P G vwCl (wsC K ad S) H → va_D A (wsC K ad S) → va_S A s.heap H locs → lv_has ls_ 2 [(0, .ref (ad x0)), (1, va_re ad x1)] → W p l e ({ frames := 0, cells := 0, slots := 0, locals := 0 } : Room) s m #[Value.ref (ad x0), va_re ad a1] below meth c H locs 0 0 Q (F0 m 0 ls_ []) := by
    intro x1 H locs ls_ hE hp hP hD hS hl
    unfold f_Y8_againstRule at hE
    unfold p_Y8_againstRule at hp
    refine cAload_n (ad := ad) (r := x1) hx hb dX8_againstRule_0 rfl (lv_at hl 1 rfl) ?_
    obtain ⟨hy1, hp⟩ := hp
    refine cTop (r := x1) hy1.1 ?_
    refine va_get (D := G) (ci := 3) (v := .int (giC S (x1.getD 0) 2)) (C := RX4) (T := TX4) (N := 16) hx hb hts iX4 hown hK hP (x1.getD 0) (at_3 hy1.2) rfl 2 (by decide) (hw (.fieldLink RX8 128 "MotionFloor$Motion" "kind" "I") (List.mem_of_getElem? (i := 0) rfl)) (fun _ h9 => h9) rfl dX8_againstRule_1 ?_
    refine lv_bipush (v := 9) hx hb dX8_againstRule_4 (by decide) ?_
    refine lv_icmp_ne (tgt := 12) hx hb dX8_againstRule_6 (by decide) (fun c2 => ?_) (fun c2 => ?_)
    · rw [if_neg c2] at hE hp
      refine lv_aload_n hx hb dX8_againstRule_12 rfl (lv_at hl 0 rfl) ?_
      refine va_get (D := G) (ci := 0) (v := va_re ad (grC S x0 1)) (C := RX0) (T := TX0) (N := 11) hx hb hts iX0 hown hK hP x0 (at_0 k_x0) rfl 1 (by decide) (hw (.fieldLink RX8 86 "MotionFloor$Assembly" "pending" "LMotionFloor$Pile;") (List.mem_of_getElem? (i := 1) rfl)) (fun _ h9 => h9) rfl dX8_againstRule_13 ?_
      obtain ⟨hy3, hp⟩ := hp
      refine cTop (r := (grC S x0 1)) hy3.1 ?_
      refine va_get (D := G) (ci := 4) (v := .int (giC S ((grC S x0 1).getD 0) 1)) (C := RX5) (T := TX5) (N := 2) hx hb hts iX5 hown hK hP ((grC S x0 1).getD 0) (at_4 hy3.2) rfl 1 (by decide) (hw (.fieldLink RX8 117 "MotionFloor$Pile" "size" "I") (List.mem_of_getElem? (i := 2) rfl)) (fun _ h9 => h9) rfl dX8_againstRule_16 ?_
      refine lv_bipush (v := 9) hx hb dX8_againstRule_19 (by decide) ?_
      refine lv_icmp_lt (tgt := 29) hx hb dX8_againstRule_21 (by decide) (fun c4 => ?_) (fun c4 => ?_)
      · rw [if_pos c4] at hE hp
        refine lv_iconst (v := 0) hx hb dX8_againstRule_29 (by decide) ?_
        exact B_Y8_againstRule_30 x1 0 _ _ _ hE hp hP hD hS (lv_sub hl [0, 1] rfl)
      · rw [if_neg c4] at hE hp
        refine lv_bipush (v := 10) hx hb dX8_againstRule_24 (by decide) ?_
        refine lv_goto (tgt := 30) hx hb dX8_againstRule_26 (by decide) ?_
        exact B_Y8_againstRule_30 x1 10 _ _ _ hE hp hP hD hS (lv_sub hl [0, 1] rfl)
    · rw [if_pos c2] at hE hp
      refine lv_bipush (v := 11) hx hb dX8_againstRule_9 (by decide) ?_
      subst hQ
      exact W.iret (v := (11 : Int32)) hx hb hr (fun t ht hW => ⟨⟨(11 : Int32), S, rfl, (pair_i (hE.trans hX.symm)), by rw [ht]; exact hP, hD⟩, hS.F ht⟩) hS.2.2 dX8_againstRule_11
  exact B_M a1 _ _ _ hX hp hP hD hS hl
theorem gdX8_againstAppeal_0 : ckS (List.drop 0 cX8_againstAppeal.data.toList) 0 [(0, .aload_n 1, 1), (1, .getfield 128, 3), (4, .bipush 9, 2), (6, .if_icmp .ne 11, 3), (9, .aload_n 1, 1), (10, .getfield 138, 3), (13, .iconst (-1), 1), (14, .if_icmp .eq 6, 3), (17, .bipush 11, 2), (19, .ireturn, 1), (20, .aload_n 0, 1), (21, .iload_n 2, 1), (22, .invokestatic 42, 3), (25, .istore_n 3, 1), (26, .iload_n 3, 1), (27, .ifCond .eq 5, 3), (30, .iload_n 3, 1), (31, .ireturn, 1), (32, .iload_n 2, 1), (33, .aload_n 0, 1), (34, .getfield 79, 3), (37, .if_icmp .ne 7, 3), (40, .iconst 2, 1), (41, .goto 4, 3), (44, .iconst 0, 1), (45, .ireturn, 1)] = true := by decide +kernel
theorem dX8_againstAppeal_0 : decode cX8_againstAppeal 0 = .ok (.aload_n 1, 1) := ckS_g gdX8_againstAppeal_0 0 rfl
theorem dX8_againstAppeal_1 : decode cX8_againstAppeal 1 = .ok (.getfield 128, 3) := ckS_g gdX8_againstAppeal_0 1 rfl
theorem dX8_againstAppeal_4 : decode cX8_againstAppeal 4 = .ok (.bipush 9, 2) := ckS_g gdX8_againstAppeal_0 2 rfl
theorem dX8_againstAppeal_6 : decode cX8_againstAppeal 6 = .ok (.if_icmp .ne 11, 3) := ckS_g gdX8_againstAppeal_0 3 rfl
theorem dX8_againstAppeal_9 : decode cX8_againstAppeal 9 = .ok (.aload_n 1, 1) := ckS_g gdX8_againstAppeal_0 4 rfl
theorem dX8_againstAppeal_10 : decode cX8_againstAppeal 10 = .ok (.getfield 138, 3) := ckS_g gdX8_againstAppeal_0 5 rfl
theorem dX8_againstAppeal_13 : decode cX8_againstAppeal 13 = .ok (.iconst (-1), 1) := ckS_g gdX8_againstAppeal_0 6 rfl
theorem dX8_againstAppeal_14 : decode cX8_againstAppeal 14 = .ok (.if_icmp .eq 6, 3) := ckS_g gdX8_againstAppeal_0 7 rfl
theorem dX8_againstAppeal_17 : decode cX8_againstAppeal 17 = .ok (.bipush 11, 2) := ckS_g gdX8_againstAppeal_0 8 rfl
theorem dX8_againstAppeal_19 : decode cX8_againstAppeal 19 = .ok (.ireturn, 1) := ckS_g gdX8_againstAppeal_0 9 rfl
theorem dX8_againstAppeal_20 : decode cX8_againstAppeal 20 = .ok (.aload_n 0, 1) := ckS_g gdX8_againstAppeal_0 10 rfl
theorem dX8_againstAppeal_21 : decode cX8_againstAppeal 21 = .ok (.iload_n 2, 1) := ckS_g gdX8_againstAppeal_0 11 rfl
theorem dX8_againstAppeal_22 : decode cX8_againstAppeal 22 = .ok (.invokestatic 42, 3) := ckS_g gdX8_againstAppeal_0 12 rfl
theorem dX8_againstAppeal_25 : decode cX8_againstAppeal 25 = .ok (.istore_n 3, 1) := ckS_g gdX8_againstAppeal_0 13 rfl
theorem dX8_againstAppeal_26 : decode cX8_againstAppeal 26 = .ok (.iload_n 3, 1) := ckS_g gdX8_againstAppeal_0 14 rfl
theorem dX8_againstAppeal_27 : decode cX8_againstAppeal 27 = .ok (.ifCond .eq 5, 3) := ckS_g gdX8_againstAppeal_0 15 rfl
theorem dX8_againstAppeal_30 : decode cX8_againstAppeal 30 = .ok (.iload_n 3, 1) := ckS_g gdX8_againstAppeal_0 16 rfl
theorem dX8_againstAppeal_31 : decode cX8_againstAppeal 31 = .ok (.ireturn, 1) := ckS_g gdX8_againstAppeal_0 17 rfl
theorem dX8_againstAppeal_32 : decode cX8_againstAppeal 32 = .ok (.iload_n 2, 1) := ckS_g gdX8_againstAppeal_0 18 rfl
theorem dX8_againstAppeal_33 : decode cX8_againstAppeal 33 = .ok (.aload_n 0, 1) := ckS_g gdX8_againstAppeal_0 19 rfl
theorem dX8_againstAppeal_34 : decode cX8_againstAppeal 34 = .ok (.getfield 79, 3) := ckS_g gdX8_againstAppeal_0 20 rfl
theorem dX8_againstAppeal_37 : decode cX8_againstAppeal 37 = .ok (.if_icmp .ne 7, 3) := ckS_g gdX8_againstAppeal_0 21 rfl
theorem dX8_againstAppeal_40 : decode cX8_againstAppeal 40 = .ok (.iconst 2, 1) := ckS_g gdX8_againstAppeal_0 22 rfl
theorem dX8_againstAppeal_41 : decode cX8_againstAppeal 41 = .ok (.goto 4, 3) := ckS_g gdX8_againstAppeal_0 23 rfl
theorem dX8_againstAppeal_44 : decode cX8_againstAppeal 44 = .ok (.iconst 0, 1) := ckS_g gdX8_againstAppeal_0 24 rfl
theorem dX8_againstAppeal_45 : decode cX8_againstAppeal 45 = .ok (.ireturn, 1) := ckS_g gdX8_againstAppeal_0 25 rfl
theorem gdX8_againstOnMotion_164 : ckS (List.drop 164 cX8_againstOnMotion.data.toList) 164 [(164, .ireturn, 1), (165, .aload_n 0, 1), (166, .getfield 34, 3), (169, .aload 5, 2), (171, .iload_n 2, 1), (172, .invokestatic 111, 3)] = true := by decide +kernel
theorem dX8_againstOnMotion_164 : decode cX8_againstOnMotion 164 = .ok (.ireturn, 1) := ckS_g gdX8_againstOnMotion_164 0 rfl
theorem dX8_againstOnMotion_165 : decode cX8_againstOnMotion 165 = .ok (.aload_n 0, 1) := ckS_g gdX8_againstOnMotion_164 1 rfl
theorem dX8_againstOnMotion_166 : decode cX8_againstOnMotion 166 = .ok (.getfield 34, 3) := ckS_g gdX8_againstOnMotion_164 2 rfl
theorem dX8_againstOnMotion_169 : decode cX8_againstOnMotion 169 = .ok (.aload 5, 2) := ckS_g gdX8_againstOnMotion_164 3 rfl
theorem dX8_againstOnMotion_171 : decode cX8_againstOnMotion 171 = .ok (.iload_n 2, 1) := ckS_g gdX8_againstOnMotion_164 4 rfl
theorem dX8_againstOnMotion_172 : decode cX8_againstOnMotion 172 = .ok (.invokestatic 111, 3) := ckS_g gdX8_againstOnMotion_164 5 rfl
set_option maxRecDepth 100000 in
theorem zc382 : wZ (.code yX8_againstAppeal cX8_againstAppeal 4 (some .int)) := ⟨wT2 (List.mem_of_getElem? (i := 189) rfl), Or.inl rfl⟩
def b_Y8_againstAppeal_17 (S : Cst) (x0 : Nat) (x1 : Option Nat) (x2 : Int32) : Int32 := (11 : Int32)
def q_Y8_againstAppeal_17 (S : Cst) (x0 : Nat) (x1 : Option Nat) (x2 : Int32) : Prop := True
def b_Y8_againstAppeal_45 (S : Cst) (x0 : Nat) (x1 : Option Nat) (x2 : Int32) (x3 : Int32) (y0 : Int32) : Int32 := y0
def q_Y8_againstAppeal_45 (S : Cst) (x0 : Nat) (x1 : Option Nat) (x2 : Int32) (x3 : Int32) (y0 : Int32) : Prop := True
def f_Y8_againstAppeal (S : Cst) (x0 : Nat) (x1 : Option Nat) (x2 : Int32) : Int32 := if (giC S (x1.getD 0) 2) = 9 then if (giC S (x1.getD 0) 4) = (-1) then if (f_Y8_againstAbsent S x0 x2) = 0 then if x2 = (giC S x0 3) then (b_Y8_againstAppeal_45 S x0 x1 x2 (f_Y8_againstAbsent S x0 x2) 2) else (b_Y8_againstAppeal_45 S x0 x1 x2 (f_Y8_againstAbsent S x0 x2) 0) else (f_Y8_againstAbsent S x0 x2) else (b_Y8_againstAppeal_17 S x0 x1 x2) else (b_Y8_againstAppeal_17 S x0 x1 x2)
def p_Y8_againstAppeal (S : Cst) (x0 : Nat) (x1 : Option Nat) (x2 : Int32) : Prop := (iR S x1 3) ∧ (if (giC S (x1.getD 0) 2) = 9 then (iR S x1 3) ∧ (if (giC S (x1.getD 0) 4) = (-1) then (p_Y8_againstAbsent S x0 x2) ∧ (if (f_Y8_againstAbsent S x0 x2) = 0 then (if x2 = (giC S x0 3) then (q_Y8_againstAppeal_45 S x0 x1 x2 (f_Y8_againstAbsent S x0 x2) 2) else (q_Y8_againstAppeal_45 S x0 x1 x2 (f_Y8_againstAbsent S x0 x2) 0)) else True) else (q_Y8_againstAppeal_17 S x0 x1 x2)) else (q_Y8_againstAppeal_17 S x0 x1 x2))
def e_Y8_againstAppeal : List Cond := [.fieldLink RX8 128 "MotionFloor$Motion" "kind" "I", .fieldLink RX8 138 "MotionFloor$Motion" "seconder" "I", .methodLink RX8 42 yX8_againstAbsent, .static yX8_againstAbsent, .initialized RX8, .fieldLink RX8 79 "MotionFloor$House" "chair" "I"]
def v_Y8_againstAppeal : List Cond := .code yX8_againstAppeal cX8_againstAppeal 4 (some .int) :: (e_Y8_againstAppeal ++ (wsX40 ++ (wsX20 ++ (v_Y8_againstAbsent ++ []))))
theorem te_Y8_againstAppeal : GoodIn lw_tbl e_Y8_againstAppeal := wGc zc371 (wGc zc372 (wGc zc375 (wGc zc374 (wGc zc373 (wGc zc369 (wG0))))))
theorem t_Y8_againstAppeal : GoodIn lw_tbl v_Y8_againstAppeal := wGc zc382 (wGa te_Y8_againstAppeal (wGa zcX4 (wGa zcX2 (wGa t_Y8_againstAbsent (wG0)))))
set_option maxHeartbeats 4000000 in
set_option maxRecDepth 100000 in
theorem c_Y8_againstAppeal (l : Launch) (G : va_G) (K : Nat → ClassId) (ad : Nat → Nat) (S : Cst) (x0 : Nat) (a1 : Option Nat) (a2 : Int32) (sz : Nat) : Met l yX8_againstAppeal v_Y8_againstAppeal ({ frames := 2, cells := 0, slots := 0, locals := 42 }) (va_Pc [.ref (ad x0), va_re ad a1, .int a2] (cSt G K ad sz S (iK S x0 1 ∧ p_Y8_againstAppeal S x0 a1 a2))) (va_Qi (fun (r : Int32) (u : Cst) => (r, u) = (f_Y8_againstAppeal S x0 a1 a2, S)) (cBt G K ad (va_A (wsC K ad S) sz)) (va_A (wsC K ad S) sz)) 0 0 (va_A (wsC K ad S) sz) := by
  refine Met.ofW (cc := cX8_againstAppeal) (maxL := 4) (ret := (some .int)) (by decide) rfl ?_
  intro p e s m args below meth c s₁ B hml hv
  obtain ⟨rfl, ⟨hsz, hP, hK, hD0, hTE⟩, hp⟩ := hv
  obtain ⟨k_x0, hp⟩ := hp
  have hx := B.exec
  have hb := B.bytes
  have hr := B.returns
  have hts := atoms_spec (ws := v_Y8_againstAppeal) B.pre
  have t_ := t_Y8_againstAppeal
  have mw : ∀ w ∈ e_Y8_againstAppeal, w ∈ v_Y8_againstAppeal := fun w h => List.mem_cons_of_mem _ (List.mem_append_left _ h)
  have hw := fun w (h : w ∈ e_Y8_againstAppeal) => hts w (mw w h)
  have iX4 : ∀ w ∈ wsX40, w ∈ v_Y8_againstAppeal := fun w h => List.mem_cons_of_mem _ (List.mem_append_right _ (List.mem_append_left _ h))
  have iX2 : ∀ w ∈ wsX20, w ∈ v_Y8_againstAppeal := fun w h => List.mem_cons_of_mem _ (List.mem_append_right _ (List.mem_append_right _ (List.mem_append_left _ h)))
  have j_Y8_againstAbsent : ∀ w ∈ v_Y8_againstAbsent, w ∈ v_Y8_againstAppeal := fun w h => List.mem_cons_of_mem _ (List.mem_append_right _ (List.mem_append_right _ (List.mem_append_right _ (List.mem_append_left _ h))))
  have hown : s.vm.findClass RX8 = some m.cls := findClass_of_methodNamed B.named
  have hlocks := B.notSynchronized
  subst hsz
  have hD := hD0.self (sz := s.heap.size)
  generalize hAe : va_A (wsC K ad S) s.heap.size = A at hD ⊢
  have hA : ∀ q : Nat, s.heap.size ≤ q → A q := fun q h => by rw [← hAe]; exact Or.inr h
  have hS : va_S A s.heap s.heap [] := va_S.rf
  have hl : lv_has (lg_sl ([.ref (ad x0), va_re ad a1, .int a2]) ++ List.replicate (4 - (lg_sl ([.ref (ad x0), va_re ad a1, .int a2])).length) Slot.unset).toArray 4 [(0, .ref (ad x0)), (1, va_re ad a1), (2, .int a2)] := by
    cases a1 <;> exact lv_entry _ (n := 4) (Nat.le_of_ble_eq_true rfl)
  rw [lg_entry_eq]
  generalize (lg_sl ([.ref (ad x0), va_re ad a1, .int a2]) ++ List.replicate (4 - (lg_sl ([.ref (ad x0), va_re ad a1, .int a2])).length) Slot.unset).toArray = ls_ at hl ⊢
  refine wGen (fun Q hQ => ?_)
  obtain ⟨X, hX⟩ : ∃ X, f_Y8_againstAppeal S x0 a1 a2 = X := ⟨_, rfl⟩
  have B_Y8_againstAppeal_17 : ∀ (x1 : Option Nat) (x2 : Int32) (H : Heap) (locs : List Loc) (ls_ : Array Slot), b_Y8_againstAppeal_17 S x0 x1 x2 = X → q_Y8_againstAppeal_17 S x0 x1 x2 → va_P G vwCl (wsC K ad S) H → va_D A (wsC K ad S) → va_S A s.heap H locs → lv_has ls_ 4 [(0, .ref (ad x0)), (1, va_re ad x1), (2, .int x2)] → W p l e ({ frames := 2, cells := 0, slots := 0, locals := 42 } : Room) s m #[Value.ref (ad x0), va_re ad a1, Value.int a2] below meth c H locs 0 0 Q (F0 m 17 ls_ []) := by
    intro x1 x2 H locs ls_ hE hp hP hD hS hl
    unfold b_Y8_againstAppeal_17 at hE
    unfold q_Y8_againstAppeal_17 at hp
    refine lv_bipush (v := 11) hx hb dX8_againstAppeal_17 (by decide) ?_
    subst hQ
    exact W.iret (v := (11 : Int32)) hx hb hr (fun t ht hW => ⟨⟨(11 : Int32), S, rfl, (pair_i (hE.trans hX.symm)), by rw [ht]; exact hP, hD⟩, hS.F ht⟩) hS.2.2 dX8_againstAppeal_19
  have B_Y8_againstAppeal_45 : ∀ (x1 : Option Nat) (x2 : Int32) (x3 : Int32) (y0 : Int32) (H : Heap) (locs : List Loc) (ls_ : Array Slot), b_Y8_againstAppeal_45 S x0 x1 x2 x3 y0 = X → q_Y8_againstAppeal_45 S x0 x1 x2 x3 y0 → va_P G vwCl (wsC K ad S) H → va_D A (wsC K ad S) → va_S A s.heap H locs → lv_has ls_ 4 [(0, .ref (ad x0)), (1, va_re ad x1), (2, .int x2), (3, .int x3)] → W p l e ({ frames := 2, cells := 0, slots := 0, locals := 42 } : Room) s m #[Value.ref (ad x0), va_re ad a1, Value.int a2] below meth c H locs 0 0 Q (F0 m 45 ls_ [.int y0]) := by
    intro x1 x2 x3 y0 H locs ls_ hE hp hP hD hS hl
    unfold b_Y8_againstAppeal_45 at hE
    unfold q_Y8_againstAppeal_45 at hp
    subst hQ
    exact W.iret (v := y0) hx hb hr (fun t ht hW => ⟨⟨y0, S, rfl, (pair_i (hE.trans hX.symm)), by rw [ht]; exact hP, hD⟩, hS.F ht⟩) hS.2.2 dX8_againstAppeal_45
  have B_M : ∀ (x1 : Option Nat) (x2 : Int32) (H : Heap) (locs : List Loc) (ls_ : Array Slot), f_Y8_againstAppeal S x0 x1 x2 = X → p_Y8_againstAppeal S x0 x1 x2 → va_P G vwCl (wsC K ad S) H → va_D A (wsC K ad S) → va_S A s.heap H locs → lv_has ls_ 4 [(0, .ref (ad x0)), (1, va_re ad x1), (2, .int x2)] → W p l e ({ frames := 2, cells := 0, slots := 0, locals := 42 } : Room) s m #[Value.ref (ad x0), va_re ad a1, Value.int a2] below meth c H locs 0 0 Q (F0 m 0 ls_ []) := by
    intro x1 x2 H locs ls_ hE hp hP hD hS hl
    unfold f_Y8_againstAppeal at hE
    unfold p_Y8_againstAppeal at hp
    refine cAload_n (ad := ad) (r := x1) hx hb dX8_againstAppeal_0 rfl (lv_at hl 1 rfl) ?_
    obtain ⟨hy1, hp⟩ := hp
    refine cTop (r := x1) hy1.1 ?_
    refine va_get (D := G) (ci := 3) (v := .int (giC S (x1.getD 0) 2)) (C := RX4) (T := TX4) (N := 16) hx hb hts iX4 hown hK hP (x1.getD 0) (at_3 hy1.2) rfl 2 (by decide) (hw (.fieldLink RX8 128 "MotionFloor$Motion" "kind" "I") (List.mem_of_getElem? (i := 0) rfl)) (fun _ h9 => h9) rfl dX8_againstAppeal_1 ?_
    refine lv_bipush (v := 9) hx hb dX8_againstAppeal_4 (by decide) ?_
    refine lv_icmp_ne (tgt := 17) hx hb dX8_againstAppeal_6 (by decide) (fun c2 => ?_) (fun c2 => ?_)
    · rw [if_neg c2] at hE hp
      exact B_Y8_againstAppeal_17 x1 x2 _ _ _ hE hp hP hD hS (lv_sub hl [0, 1, 2] rfl)
    · rw [if_pos c2] at hE hp
      refine cAload_n (ad := ad) (r := x1) hx hb dX8_againstAppeal_9 rfl (lv_at hl 1 rfl) ?_
      obtain ⟨hy3, hp⟩ := hp
      refine cTop (r := x1) hy3.1 ?_
      refine va_get (D := G) (ci := 3) (v := .int (giC S (x1.getD 0) 4)) (C := RX4) (T := TX4) (N := 16) hx hb hts iX4 hown hK hP (x1.getD 0) (at_3 hy3.2) rfl 4 (by decide) (hw (.fieldLink RX8 138 "MotionFloor$Motion" "seconder" "I") (List.mem_of_getElem? (i := 1) rfl)) (fun _ h9 => h9) rfl dX8_againstAppeal_10 ?_
      refine lv_iconst (v := (-1)) hx hb dX8_againstAppeal_13 (by decide) ?_
      refine lv_icmp_eq (tgt := 20) hx hb dX8_againstAppeal_14 (by decide) (fun c4 => ?_) (fun c4 => ?_)
      · rw [if_pos c4] at hE hp
        refine lv_aload_n hx hb dX8_againstAppeal_20 rfl (lv_at hl 0 rfl) ?_
        refine lv_iload_n hx hb dX8_againstAppeal_21 rfl (lv_at hl 2 rfl) ?_
        obtain ⟨hy5, hp⟩ := hp
        refine cGoi (va_runS (As := [.ref (ad x0), .int x2]) (rest := []) ⟨hx, hb, hml, hown, hts⟩ (c_Y8_againstAbsent l G K ad S x0 x2 _) (va_cwS 2 hts (wGS t_ (mw (.methodLink RX8 42 yX8_againstAbsent) (List.mem_of_getElem? (i := 2) rfl)) (mw (.static yX8_againstAbsent) (List.mem_of_getElem? (i := 3) rfl)) (mw (.initialized RX8) (List.mem_of_getElem? (i := 4) rfl)) j_Y8_againstAbsent) rfl rfl rfl (by decide +kernel) ⟨Nat.le_of_ble_eq_true rfl, Nat.le_of_ble_eq_true rfl⟩) (cPS hK hTE hP hD ⟨k_x0, hy5⟩) rfl rfl hl.1 rfl (lv_room (Nat.le_of_ble_eq_true rfl)) dX8_againstAppeal_22 ⟨Nat.le_of_ble_eq_true rfl, Nat.le_of_ble_eq_true rfl⟩) hP hD hS hA (fun r7 u6 H locs hv hP hD hS => ?_)
        have h1 := congrArg Prod.fst hv
        have h2 := (congrArg Prod.snd hv).symm
        dsimp only at h1 h2
        subst h1
        subst h2
        refine lv_istore_n (i := 3) (lv' := [(3, .int (f_Y8_againstAbsent S x0 x2)), (0, .ref (ad x0)), (1, va_re ad x1), (2, .int x2)]) hx hb dX8_againstAppeal_25 rfl hl (by decide) rfl (fun ls_ hl => ?_)
        refine lv_iload_n hx hb dX8_againstAppeal_26 rfl (lv_at hl 0 rfl) ?_
        refine lv_if_eq (tgt := 32) hx hb dX8_againstAppeal_27 (by decide) (fun c8 => ?_) (fun c8 => ?_)
        · rw [if_pos c8] at hE hp
          refine lv_iload_n hx hb dX8_againstAppeal_32 rfl (lv_at hl 3 rfl) ?_
          refine lv_aload_n hx hb dX8_againstAppeal_33 rfl (lv_at hl 1 rfl) ?_
          refine va_get (D := G) (ci := 1) (v := .int (giC S x0 3)) (C := RX2) (T := TX2) (N := 8) hx hb hts iX2 hown hK hP x0 (at_1 k_x0) rfl 3 (by decide) (hw (.fieldLink RX8 79 "MotionFloor$House" "chair" "I") (List.mem_of_getElem? (i := 5) rfl)) (fun _ h9 => h9) rfl dX8_againstAppeal_34 ?_
          refine lv_icmp_ne (tgt := 44) hx hb dX8_againstAppeal_37 (by decide) (fun c9 => ?_) (fun c9 => ?_)
          · rw [if_neg c9] at hE hp
            refine lv_iconst (v := 0) hx hb dX8_againstAppeal_44 (by decide) ?_
            exact B_Y8_againstAppeal_45 x1 x2 (f_Y8_againstAbsent S x0 x2) 0 _ _ _ hE hp hP hD hS (lv_sub hl [1, 2, 3, 0] rfl)
          · rw [if_pos c9] at hE hp
            refine lv_iconst (v := 2) hx hb dX8_againstAppeal_40 (by decide) ?_
            refine lv_goto (tgt := 45) hx hb dX8_againstAppeal_41 (by decide) ?_
            exact B_Y8_againstAppeal_45 x1 x2 (f_Y8_againstAbsent S x0 x2) 2 _ _ _ hE hp hP hD hS (lv_sub hl [1, 2, 3, 0] rfl)
        · rw [if_neg c8] at hE hp
          refine lv_iload_n hx hb dX8_againstAppeal_30 rfl (lv_at hl 0 rfl) ?_
          subst hQ
          exact W.iret (v := (f_Y8_againstAbsent S x0 x2)) hx hb hr (fun t ht hW => ⟨⟨(f_Y8_againstAbsent S x0 x2), S, rfl, (pair_i (hE.trans hX.symm)), by rw [ht]; exact hP, hD⟩, hS.F ht⟩) hS.2.2 dX8_againstAppeal_31
      · rw [if_neg c4] at hE hp
        exact B_Y8_againstAppeal_17 x1 x2 _ _ _ hE hp hP hD hS (lv_sub hl [0, 1, 2] rfl)
  exact B_M a1 a2 _ _ _ hX hp hP hD hS hl
theorem gdX8_againstMove_0 : ckS (List.drop 0 cX8_againstMove.data.toList) 0 [(0, .aload_n 0, 1), (1, .getfield 141, 3), (4, .invokevirtual 170, 3), (7, .ifCond .eq 6, 3), (13, .aload_n 0, 1), (14, .getfield 141, 3), (17, .invokevirtual 145, 3), (20, .astore_n 2, 1), (21, .aload_n 0, 1), (22, .getfield 86, 3), (25, .invokevirtual 90, 3), (28, .astore_n 3, 1), (29, .aload_n 0, 1), (30, .getfield 86, 3), (33, .aload_n 2, 1), (34, .aload_n 3, 1), (35, .invokestatic 187, 3)] = true := by decide +kernel
theorem dX8_againstMove_0 : decode cX8_againstMove 0 = .ok (.aload_n 0, 1) := ckS_g gdX8_againstMove_0 0 rfl
theorem dX8_againstMove_1 : decode cX8_againstMove 1 = .ok (.getfield 141, 3) := ckS_g gdX8_againstMove_0 1 rfl
theorem dX8_againstMove_4 : decode cX8_againstMove 4 = .ok (.invokevirtual 170, 3) := ckS_g gdX8_againstMove_0 2 rfl
theorem dX8_againstMove_7 : decode cX8_againstMove 7 = .ok (.ifCond .eq 6, 3) := ckS_g gdX8_againstMove_0 3 rfl
theorem dX8_againstMove_13 : decode cX8_againstMove 13 = .ok (.aload_n 0, 1) := ckS_g gdX8_againstMove_0 4 rfl
theorem dX8_againstMove_14 : decode cX8_againstMove 14 = .ok (.getfield 141, 3) := ckS_g gdX8_againstMove_0 5 rfl
theorem dX8_againstMove_17 : decode cX8_againstMove 17 = .ok (.invokevirtual 145, 3) := ckS_g gdX8_againstMove_0 6 rfl
theorem dX8_againstMove_20 : decode cX8_againstMove 20 = .ok (.astore_n 2, 1) := ckS_g gdX8_againstMove_0 7 rfl
theorem dX8_againstMove_21 : decode cX8_againstMove 21 = .ok (.aload_n 0, 1) := ckS_g gdX8_againstMove_0 8 rfl
theorem dX8_againstMove_22 : decode cX8_againstMove 22 = .ok (.getfield 86, 3) := ckS_g gdX8_againstMove_0 9 rfl
theorem dX8_againstMove_25 : decode cX8_againstMove 25 = .ok (.invokevirtual 90, 3) := ckS_g gdX8_againstMove_0 10 rfl
theorem dX8_againstMove_28 : decode cX8_againstMove 28 = .ok (.astore_n 3, 1) := ckS_g gdX8_againstMove_0 11 rfl
theorem dX8_againstMove_29 : decode cX8_againstMove 29 = .ok (.aload_n 0, 1) := ckS_g gdX8_againstMove_0 12 rfl
theorem dX8_againstMove_30 : decode cX8_againstMove 30 = .ok (.getfield 86, 3) := ckS_g gdX8_againstMove_0 13 rfl
theorem dX8_againstMove_33 : decode cX8_againstMove 33 = .ok (.aload_n 2, 1) := ckS_g gdX8_againstMove_0 14 rfl
theorem dX8_againstMove_34 : decode cX8_againstMove 34 = .ok (.aload_n 3, 1) := ckS_g gdX8_againstMove_0 15 rfl
theorem dX8_againstMove_35 : decode cX8_againstMove 35 = .ok (.invokestatic 187, 3) := ckS_g gdX8_againstMove_0 16 rfl
theorem gdX8_againstOnMotion_6 : ckS (List.drop 6 cX8_againstOnMotion.data.toList) 6 [(6, .aload_n 0, 1), (7, .iload_n 2, 1), (8, .invokestatic 76, 3), (34, .iload 4, 2), (36, .ifCond .eq 7, 3), (39, .iconst 0, 1), (40, .goto 5, 3), (43, .bipush 8, 2), (45, .ireturn, 1), (52, .iload_n 1, 1), (53, .bipush 21, 2), (55, .if_icmp .ne 11, 3), (63, .bipush 8, 2), (65, .ireturn, 1), (175, .ireturn, 1), (176, .iconst 0, 1), (177, .ireturn, 1), (178, .bipush 11, 2), (180, .ireturn, 1)] = true := by decide +kernel
theorem dX8_againstOnMotion_6 : decode cX8_againstOnMotion 6 = .ok (.aload_n 0, 1) := ckS_g gdX8_againstOnMotion_6 0 rfl
theorem dX8_againstOnMotion_7 : decode cX8_againstOnMotion 7 = .ok (.iload_n 2, 1) := ckS_g gdX8_againstOnMotion_6 1 rfl
theorem dX8_againstOnMotion_8 : decode cX8_againstOnMotion 8 = .ok (.invokestatic 76, 3) := ckS_g gdX8_againstOnMotion_6 2 rfl
theorem dX8_againstOnMotion_34 : decode cX8_againstOnMotion 34 = .ok (.iload 4, 2) := ckS_g gdX8_againstOnMotion_6 3 rfl
theorem dX8_againstOnMotion_36 : decode cX8_againstOnMotion 36 = .ok (.ifCond .eq 7, 3) := ckS_g gdX8_againstOnMotion_6 4 rfl
theorem dX8_againstOnMotion_39 : decode cX8_againstOnMotion 39 = .ok (.iconst 0, 1) := ckS_g gdX8_againstOnMotion_6 5 rfl
theorem dX8_againstOnMotion_40 : decode cX8_againstOnMotion 40 = .ok (.goto 5, 3) := ckS_g gdX8_againstOnMotion_6 6 rfl
theorem dX8_againstOnMotion_43 : decode cX8_againstOnMotion 43 = .ok (.bipush 8, 2) := ckS_g gdX8_againstOnMotion_6 7 rfl
theorem dX8_againstOnMotion_45 : decode cX8_againstOnMotion 45 = .ok (.ireturn, 1) := ckS_g gdX8_againstOnMotion_6 8 rfl
theorem dX8_againstOnMotion_52 : decode cX8_againstOnMotion 52 = .ok (.iload_n 1, 1) := ckS_g gdX8_againstOnMotion_6 9 rfl
theorem dX8_againstOnMotion_53 : decode cX8_againstOnMotion 53 = .ok (.bipush 21, 2) := ckS_g gdX8_againstOnMotion_6 10 rfl
theorem dX8_againstOnMotion_55 : decode cX8_againstOnMotion 55 = .ok (.if_icmp .ne 11, 3) := ckS_g gdX8_againstOnMotion_6 11 rfl
theorem dX8_againstOnMotion_63 : decode cX8_againstOnMotion 63 = .ok (.bipush 8, 2) := ckS_g gdX8_againstOnMotion_6 12 rfl
theorem dX8_againstOnMotion_65 : decode cX8_againstOnMotion 65 = .ok (.ireturn, 1) := ckS_g gdX8_againstOnMotion_6 13 rfl
theorem dX8_againstOnMotion_175 : decode cX8_againstOnMotion 175 = .ok (.ireturn, 1) := ckS_g gdX8_againstOnMotion_6 14 rfl
theorem dX8_againstOnMotion_176 : decode cX8_againstOnMotion 176 = .ok (.iconst 0, 1) := ckS_g gdX8_againstOnMotion_6 15 rfl
theorem dX8_againstOnMotion_177 : decode cX8_againstOnMotion 177 = .ok (.ireturn, 1) := ckS_g gdX8_againstOnMotion_6 16 rfl
theorem dX8_againstOnMotion_178 : decode cX8_againstOnMotion 178 = .ok (.bipush 11, 2) := ckS_g gdX8_againstOnMotion_6 17 rfl
theorem dX8_againstOnMotion_180 : decode cX8_againstOnMotion 180 = .ok (.ireturn, 1) := ckS_g gdX8_againstOnMotion_6 18 rfl
theorem gdX8_isOutOfRank_0 : ckS (List.drop 0 cX8_isOutOfRank.data.toList) 0 [(0, .aload_n 1, 1), (1, .ifnull 11, 3), (4, .aload_n 1, 1), (5, .getfield 128, 3), (8, .iconst 1, 1), (9, .if_icmp .ne 13, 3), (12, .aload_n 2, 1), (13, .ifnull 7, 3), (16, .iconst 1, 1), (17, .goto 4, 3), (20, .iconst 0, 1), (21, .ireturn, 1), (22, .aload_n 1, 1), (23, .invokevirtual 150, 3), (26, .ifCond .eq 17, 3), (29, .aload_n 1, 1), (30, .aload_n 2, 1), (31, .invokevirtual 173, 3), (34, .ifCond .ne 7, 3), (37, .iconst 1, 1), (38, .goto 4, 3), (41, .iconst 0, 1), (42, .ireturn, 1), (43, .aload_n 2, 1), (44, .ifnull 14, 3), (47, .aload_n 0, 1), (48, .invokevirtual 202, 3), (51, .aload_n 1, 1), (52, .getfield 128, 3), (55, .if_icmp .lt 7, 3), (58, .iconst 1, 1), (59, .goto 4, 3), (62, .iconst 0, 1), (63, .ireturn, 1)] = true := by decide +kernel
theorem dX8_isOutOfRank_0 : decode cX8_isOutOfRank 0 = .ok (.aload_n 1, 1) := ckS_g gdX8_isOutOfRank_0 0 rfl
theorem dX8_isOutOfRank_1 : decode cX8_isOutOfRank 1 = .ok (.ifnull 11, 3) := ckS_g gdX8_isOutOfRank_0 1 rfl
theorem dX8_isOutOfRank_4 : decode cX8_isOutOfRank 4 = .ok (.aload_n 1, 1) := ckS_g gdX8_isOutOfRank_0 2 rfl
theorem dX8_isOutOfRank_5 : decode cX8_isOutOfRank 5 = .ok (.getfield 128, 3) := ckS_g gdX8_isOutOfRank_0 3 rfl
theorem dX8_isOutOfRank_8 : decode cX8_isOutOfRank 8 = .ok (.iconst 1, 1) := ckS_g gdX8_isOutOfRank_0 4 rfl
theorem dX8_isOutOfRank_9 : decode cX8_isOutOfRank 9 = .ok (.if_icmp .ne 13, 3) := ckS_g gdX8_isOutOfRank_0 5 rfl
theorem dX8_isOutOfRank_12 : decode cX8_isOutOfRank 12 = .ok (.aload_n 2, 1) := ckS_g gdX8_isOutOfRank_0 6 rfl
theorem dX8_isOutOfRank_13 : decode cX8_isOutOfRank 13 = .ok (.ifnull 7, 3) := ckS_g gdX8_isOutOfRank_0 7 rfl
theorem dX8_isOutOfRank_16 : decode cX8_isOutOfRank 16 = .ok (.iconst 1, 1) := ckS_g gdX8_isOutOfRank_0 8 rfl
theorem dX8_isOutOfRank_17 : decode cX8_isOutOfRank 17 = .ok (.goto 4, 3) := ckS_g gdX8_isOutOfRank_0 9 rfl
theorem dX8_isOutOfRank_20 : decode cX8_isOutOfRank 20 = .ok (.iconst 0, 1) := ckS_g gdX8_isOutOfRank_0 10 rfl
theorem dX8_isOutOfRank_21 : decode cX8_isOutOfRank 21 = .ok (.ireturn, 1) := ckS_g gdX8_isOutOfRank_0 11 rfl
theorem dX8_isOutOfRank_22 : decode cX8_isOutOfRank 22 = .ok (.aload_n 1, 1) := ckS_g gdX8_isOutOfRank_0 12 rfl
theorem dX8_isOutOfRank_23 : decode cX8_isOutOfRank 23 = .ok (.invokevirtual 150, 3) := ckS_g gdX8_isOutOfRank_0 13 rfl
theorem dX8_isOutOfRank_26 : decode cX8_isOutOfRank 26 = .ok (.ifCond .eq 17, 3) := ckS_g gdX8_isOutOfRank_0 14 rfl
theorem dX8_isOutOfRank_29 : decode cX8_isOutOfRank 29 = .ok (.aload_n 1, 1) := ckS_g gdX8_isOutOfRank_0 15 rfl
theorem dX8_isOutOfRank_30 : decode cX8_isOutOfRank 30 = .ok (.aload_n 2, 1) := ckS_g gdX8_isOutOfRank_0 16 rfl
theorem dX8_isOutOfRank_31 : decode cX8_isOutOfRank 31 = .ok (.invokevirtual 173, 3) := ckS_g gdX8_isOutOfRank_0 17 rfl
theorem dX8_isOutOfRank_34 : decode cX8_isOutOfRank 34 = .ok (.ifCond .ne 7, 3) := ckS_g gdX8_isOutOfRank_0 18 rfl
theorem dX8_isOutOfRank_37 : decode cX8_isOutOfRank 37 = .ok (.iconst 1, 1) := ckS_g gdX8_isOutOfRank_0 19 rfl
theorem dX8_isOutOfRank_38 : decode cX8_isOutOfRank 38 = .ok (.goto 4, 3) := ckS_g gdX8_isOutOfRank_0 20 rfl
theorem dX8_isOutOfRank_41 : decode cX8_isOutOfRank 41 = .ok (.iconst 0, 1) := ckS_g gdX8_isOutOfRank_0 21 rfl
theorem dX8_isOutOfRank_42 : decode cX8_isOutOfRank 42 = .ok (.ireturn, 1) := ckS_g gdX8_isOutOfRank_0 22 rfl
theorem dX8_isOutOfRank_43 : decode cX8_isOutOfRank 43 = .ok (.aload_n 2, 1) := ckS_g gdX8_isOutOfRank_0 23 rfl
theorem dX8_isOutOfRank_44 : decode cX8_isOutOfRank 44 = .ok (.ifnull 14, 3) := ckS_g gdX8_isOutOfRank_0 24 rfl
theorem dX8_isOutOfRank_47 : decode cX8_isOutOfRank 47 = .ok (.aload_n 0, 1) := ckS_g gdX8_isOutOfRank_0 25 rfl
theorem dX8_isOutOfRank_48 : decode cX8_isOutOfRank 48 = .ok (.invokevirtual 202, 3) := ckS_g gdX8_isOutOfRank_0 26 rfl
theorem dX8_isOutOfRank_51 : decode cX8_isOutOfRank 51 = .ok (.aload_n 1, 1) := ckS_g gdX8_isOutOfRank_0 27 rfl
theorem dX8_isOutOfRank_52 : decode cX8_isOutOfRank 52 = .ok (.getfield 128, 3) := ckS_g gdX8_isOutOfRank_0 28 rfl
theorem dX8_isOutOfRank_55 : decode cX8_isOutOfRank 55 = .ok (.if_icmp .lt 7, 3) := ckS_g gdX8_isOutOfRank_0 29 rfl
theorem dX8_isOutOfRank_58 : decode cX8_isOutOfRank 58 = .ok (.iconst 1, 1) := ckS_g gdX8_isOutOfRank_0 30 rfl
theorem dX8_isOutOfRank_59 : decode cX8_isOutOfRank 59 = .ok (.goto 4, 3) := ckS_g gdX8_isOutOfRank_0 31 rfl
theorem dX8_isOutOfRank_62 : decode cX8_isOutOfRank 62 = .ok (.iconst 0, 1) := ckS_g gdX8_isOutOfRank_0 32 rfl
theorem dX8_isOutOfRank_63 : decode cX8_isOutOfRank 63 = .ok (.ireturn, 1) := ckS_g gdX8_isOutOfRank_0 33 rfl
set_option maxRecDepth 100000 in
theorem zc383 : wZ (.selects RX4 yX4_canBeAbout yX4_canBeAbout) := ⟨wT2 (List.mem_of_getElem? (i := 124) (by decide +kernel)), Or.inl rfl⟩
set_option maxRecDepth 100000 in
theorem zc384 : wZ (.instanceMethod yX4_canBeAbout) := ⟨wT2 (List.mem_of_getElem? (i := 123) (by decide +kernel)), Or.inl rfl⟩
set_option maxRecDepth 100000 in
theorem zc385 : wZ (.methodLink RX8 173 yX4_canBeAbout) := ⟨wT2 (List.mem_of_getElem? (i := 122) (by decide +kernel)), Or.inl rfl⟩
set_option maxRecDepth 100000 in
theorem zc386 : wZ (.selects RX5 yX5_highestRank yX5_highestRank) := ⟨wT2 (List.mem_of_getElem? (i := 153) (by decide +kernel)), Or.inl rfl⟩
set_option maxRecDepth 100000 in
theorem zc387 : wZ (.instanceMethod yX5_highestRank) := ⟨wT2 (List.mem_of_getElem? (i := 152) (by decide +kernel)), Or.inl rfl⟩
set_option maxRecDepth 100000 in
theorem zc388 : wZ (.methodLink RX8 202 yX5_highestRank) := ⟨wT2 (List.mem_of_getElem? (i := 151) (by decide +kernel)), Or.inl rfl⟩
set_option maxRecDepth 100000 in
theorem zc389 : wZ (.methodLink RX8 150 yX4_amends) := ⟨wT2 (List.mem_of_getElem? (i := 101) (by decide +kernel)), Or.inl rfl⟩
set_option maxRecDepth 100000 in
theorem zc390 : wZ (.code yX8_isOutOfRank cX8_isOutOfRank 3 (some .boolean)) := ⟨wT2 (List.mem_of_getElem? (i := 150) rfl), Or.inl rfl⟩
def b_Y8_isOutOfRank_21 (S : Cst) (x0 : Nat) (x1 : Option Nat) (x2 : Option Nat) (y0 : Int32) : Int32 := y0
def q_Y8_isOutOfRank_21 (S : Cst) (x0 : Nat) (x1 : Option Nat) (x2 : Option Nat) (y0 : Int32) : Prop := (narrow .boolean (.int y0) = .int y0) ∧ True
def b_Y8_isOutOfRank_12 (S : Cst) (x0 : Nat) (x1 : Option Nat) (x2 : Option Nat) : Int32 := if x2 = none then (b_Y8_isOutOfRank_21 S x0 x1 x2 0) else (b_Y8_isOutOfRank_21 S x0 x1 x2 1)
def q_Y8_isOutOfRank_12 (S : Cst) (x0 : Nat) (x1 : Option Nat) (x2 : Option Nat) : Prop := (if x2 = none then (q_Y8_isOutOfRank_21 S x0 x1 x2 0) else (q_Y8_isOutOfRank_21 S x0 x1 x2 1))
def b_Y8_isOutOfRank_63 (S : Cst) (x0 : Nat) (x1 : Option Nat) (x2 : Option Nat) (y0 : Int32) : Int32 := y0
def q_Y8_isOutOfRank_63 (S : Cst) (x0 : Nat) (x1 : Option Nat) (x2 : Option Nat) (y0 : Int32) : Prop := (narrow .boolean (.int y0) = .int y0) ∧ True
def b_Y8_isOutOfRank_58 (S : Cst) (x0 : Nat) (x1 : Option Nat) (x2 : Option Nat) : Int32 := (b_Y8_isOutOfRank_63 S x0 x1 x2 1)
def q_Y8_isOutOfRank_58 (S : Cst) (x0 : Nat) (x1 : Option Nat) (x2 : Option Nat) : Prop := (q_Y8_isOutOfRank_63 S x0 x1 x2 1)
def b_Y8_isOutOfRank_42 (S : Cst) (x0 : Nat) (x1 : Option Nat) (x2 : Option Nat) (y0 : Int32) : Int32 := y0
def q_Y8_isOutOfRank_42 (S : Cst) (x0 : Nat) (x1 : Option Nat) (x2 : Option Nat) (y0 : Int32) : Prop := (narrow .boolean (.int y0) = .int y0) ∧ True
def f_Y8_isOutOfRank (S : Cst) (x0 : Nat) (x1 : Option Nat) (x2 : Option Nat) : Int32 := if x1 = none then (b_Y8_isOutOfRank_12 S x0 x1 x2) else if (giC S (x1.getD 0) 2) = 1 then (b_Y8_isOutOfRank_12 S x0 x1 x2) else if (f_Y4_amends S (x1.getD 0)) = 0 then if x2 = none then (b_Y8_isOutOfRank_58 S x0 x1 x2) else if (f_Y5_highestRank S x0) < (giC S (x1.getD 0) 2) then (b_Y8_isOutOfRank_63 S x0 x1 x2 0) else (b_Y8_isOutOfRank_58 S x0 x1 x2) else if (f_Y4_canBeAbout S (x1.getD 0) x2) = 0 then (b_Y8_isOutOfRank_42 S x0 x1 x2 1) else (b_Y8_isOutOfRank_42 S x0 x1 x2 0)
def p_Y8_isOutOfRank (S : Cst) (x0 : Nat) (x1 : Option Nat) (x2 : Option Nat) : Prop := (if x1 = none then (q_Y8_isOutOfRank_12 S x0 x1 x2) else (iR S x1 3) ∧ (if (giC S (x1.getD 0) 2) = 1 then (q_Y8_isOutOfRank_12 S x0 x1 x2) else (iR S x1 3) ∧ (p_Y4_amends S (x1.getD 0)) ∧ (if (f_Y4_amends S (x1.getD 0)) = 0 then (if x2 = none then (q_Y8_isOutOfRank_58 S x0 x1 x2) else (p_Y5_highestRank S x0) ∧ (iR S x1 3) ∧ (if (f_Y5_highestRank S x0) < (giC S (x1.getD 0) 2) then (q_Y8_isOutOfRank_63 S x0 x1 x2 0) else (q_Y8_isOutOfRank_58 S x0 x1 x2))) else (iR S x1 3) ∧ (p_Y4_canBeAbout S (x1.getD 0) x2) ∧ (if (f_Y4_canBeAbout S (x1.getD 0) x2) = 0 then (q_Y8_isOutOfRank_42 S x0 x1 x2 1) else (q_Y8_isOutOfRank_42 S x0 x1 x2 0)))))
def e_Y8_isOutOfRank : List Cond := [.fieldLink RX8 128 "MotionFloor$Motion" "kind" "I", .methodLink RX8 150 yX4_amends, .instanceMethod yX4_amends, .selects RX4 yX4_amends yX4_amends, .initialized RX4, .methodLink RX8 202 yX5_highestRank, .instanceMethod yX5_highestRank, .selects RX5 yX5_highestRank yX5_highestRank, .initialized RX5, .methodLink RX8 173 yX4_canBeAbout, .instanceMethod yX4_canBeAbout, .selects RX4 yX4_canBeAbout yX4_canBeAbout]
def v_Y8_isOutOfRank : List Cond := .code yX8_isOutOfRank cX8_isOutOfRank 3 (some .boolean) :: (e_Y8_isOutOfRank ++ (wsX40 ++ (v_Y4_amends ++ (v_Y5_highestRank ++ (v_Y4_canBeAbout ++ [])))))
theorem te_Y8_isOutOfRank : GoodIn lw_tbl e_Y8_isOutOfRank := wGc zc371 (wGc zc389 (wGc zc172 (wGc zc171 (wGc zc170 (wGc zc388 (wGc zc387 (wGc zc386 (wGc zc34 (wGc zc385 (wGc zc384 (wGc zc383 (wG0))))))))))))
theorem t_Y8_isOutOfRank : GoodIn lw_tbl v_Y8_isOutOfRank := wGc zc390 (wGa te_Y8_isOutOfRank (wGa zcX4 (wGa t_Y4_amends (wGa t_Y5_highestRank (wGa t_Y4_canBeAbout (wG0))))))
set_option maxHeartbeats 4000000 in
set_option maxRecDepth 100000 in
theorem c_Y8_isOutOfRank (l : Launch) (G : va_G) (K : Nat → ClassId) (ad : Nat → Nat) (S : Cst) (x0 : Nat) (a1 : Option Nat) (a2 : Option Nat) (sz : Nat) : Met l yX8_isOutOfRank v_Y8_isOutOfRank ({ frames := 2, cells := 0, slots := 0, locals := 44 }) (va_Pc [.ref (ad x0), va_re ad a1, va_re ad a2] (cSt G K ad sz S (iK S x0 4 ∧ p_Y8_isOutOfRank S x0 a1 a2))) (va_Qi (fun (r : Int32) (u : Cst) => (r, u) = (f_Y8_isOutOfRank S x0 a1 a2, S)) (cBt G K ad (va_A (wsC K ad S) sz)) (va_A (wsC K ad S) sz)) 0 0 (va_A (wsC K ad S) sz) := by
  refine Met.ofW (cc := cX8_isOutOfRank) (maxL := 3) (ret := (some .boolean)) (by decide) rfl ?_
  intro p e s m args below meth c s₁ B hml hv
  obtain ⟨rfl, ⟨hsz, hP, hK, hD0, hTE⟩, hp⟩ := hv
  obtain ⟨k_x0, hp⟩ := hp
  have hx := B.exec
  have hb := B.bytes
  have hr := B.returns
  have hts := atoms_spec (ws := v_Y8_isOutOfRank) B.pre
  have t_ := t_Y8_isOutOfRank
  have mw : ∀ w ∈ e_Y8_isOutOfRank, w ∈ v_Y8_isOutOfRank := fun w h => List.mem_cons_of_mem _ (List.mem_append_left _ h)
  have hw := fun w (h : w ∈ e_Y8_isOutOfRank) => hts w (mw w h)
  have iX4 : ∀ w ∈ wsX40, w ∈ v_Y8_isOutOfRank := fun w h => List.mem_cons_of_mem _ (List.mem_append_right _ (List.mem_append_left _ h))
  have j_Y4_amends : ∀ w ∈ v_Y4_amends, w ∈ v_Y8_isOutOfRank := fun w h => List.mem_cons_of_mem _ (List.mem_append_right _ (List.mem_append_right _ (List.mem_append_left _ h)))
  have j_Y5_highestRank : ∀ w ∈ v_Y5_highestRank, w ∈ v_Y8_isOutOfRank := fun w h => List.mem_cons_of_mem _ (List.mem_append_right _ (List.mem_append_right _ (List.mem_append_right _ (List.mem_append_left _ h))))
  have j_Y4_canBeAbout : ∀ w ∈ v_Y4_canBeAbout, w ∈ v_Y8_isOutOfRank := fun w h => List.mem_cons_of_mem _ (List.mem_append_right _ (List.mem_append_right _ (List.mem_append_right _ (List.mem_append_right _ (List.mem_append_left _ h)))))
  have hown : s.vm.findClass RX8 = some m.cls := findClass_of_methodNamed B.named
  have hlocks := B.notSynchronized
  subst hsz
  have hD := hD0.self (sz := s.heap.size)
  generalize hAe : va_A (wsC K ad S) s.heap.size = A at hD ⊢
  have hA : ∀ q : Nat, s.heap.size ≤ q → A q := fun q h => by rw [← hAe]; exact Or.inr h
  have hS : va_S A s.heap s.heap [] := va_S.rf
  have hl : lv_has (lg_sl ([.ref (ad x0), va_re ad a1, va_re ad a2]) ++ List.replicate (3 - (lg_sl ([.ref (ad x0), va_re ad a1, va_re ad a2])).length) Slot.unset).toArray 3 [(0, .ref (ad x0)), (1, va_re ad a1), (2, va_re ad a2)] := by
    cases a1 <;> cases a2 <;> exact lv_entry _ (n := 3) (Nat.le_of_ble_eq_true rfl)
  rw [lg_entry_eq]
  generalize (lg_sl ([.ref (ad x0), va_re ad a1, va_re ad a2]) ++ List.replicate (3 - (lg_sl ([.ref (ad x0), va_re ad a1, va_re ad a2])).length) Slot.unset).toArray = ls_ at hl ⊢
  refine wGen (fun Q hQ => ?_)
  obtain ⟨X, hX⟩ : ∃ X, f_Y8_isOutOfRank S x0 a1 a2 = X := ⟨_, rfl⟩
  have B_Y8_isOutOfRank_21 : ∀ (x1 : Option Nat) (x2 : Option Nat) (y0 : Int32) (H : Heap) (locs : List Loc) (ls_ : Array Slot), b_Y8_isOutOfRank_21 S x0 x1 x2 y0 = X → q_Y8_isOutOfRank_21 S x0 x1 x2 y0 → va_P G vwCl (wsC K ad S) H → va_D A (wsC K ad S) → va_S A s.heap H locs → lv_has ls_ 3 [(0, .ref (ad x0)), (1, va_re ad x1), (2, va_re ad x2)] → W p l e ({ frames := 2, cells := 0, slots := 0, locals := 44 } : Room) s m #[Value.ref (ad x0), va_re ad a1, va_re ad a2] below meth c H locs 0 0 Q (F0 m 21 ls_ [.int y0]) := by
    intro x1 x2 y0 H locs ls_ hE hp hP hD hS hl
    unfold b_Y8_isOutOfRank_21 at hE
    unfold q_Y8_isOutOfRank_21 at hp
    obtain ⟨hy3, hp⟩ := hp
    subst hQ
    exact W.zret (v := y0) (ty := .boolean) hx hb hr hy3 (fun t ht hW => ⟨⟨y0, S, rfl, (pair_i (hE.trans hX.symm)), by rw [ht]; exact hP, hD⟩, hS.F ht⟩) hS.2.2 dX8_isOutOfRank_21
  have B_Y8_isOutOfRank_12 : ∀ (x1 : Option Nat) (x2 : Option Nat) (H : Heap) (locs : List Loc) (ls_ : Array Slot), b_Y8_isOutOfRank_12 S x0 x1 x2 = X → q_Y8_isOutOfRank_12 S x0 x1 x2 → va_P G vwCl (wsC K ad S) H → va_D A (wsC K ad S) → va_S A s.heap H locs → lv_has ls_ 3 [(0, .ref (ad x0)), (1, va_re ad x1), (2, va_re ad x2)] → W p l e ({ frames := 2, cells := 0, slots := 0, locals := 44 } : Room) s m #[Value.ref (ad x0), va_re ad a1, va_re ad a2] below meth c H locs 0 0 Q (F0 m 12 ls_ []) := by
    intro x1 x2 H locs ls_ hE hp hP hD hS hl
    unfold b_Y8_isOutOfRank_12 at hE
    unfold q_Y8_isOutOfRank_12 at hp
    refine cAload_n (ad := ad) (r := x2) hx hb dX8_isOutOfRank_12 rfl (lv_at hl 2 rfl) ?_
    refine cIfnull (ad := ad) (r := x2) (tgt := 20) hx hb dX8_isOutOfRank_13 (by decide) (fun c2 => ?_) (fun c2 => ?_)
    · rw [if_pos c2] at hE hp
      refine lv_iconst (v := 0) hx hb dX8_isOutOfRank_20 (by decide) ?_
      exact B_Y8_isOutOfRank_21 x1 x2 0 _ _ _ hE hp hP hD hS (lv_sub hl [0, 1, 2] rfl)
    · rw [if_neg c2] at hE hp
      refine lv_iconst (v := 1) hx hb dX8_isOutOfRank_16 (by decide) ?_
      refine lv_goto (tgt := 21) hx hb dX8_isOutOfRank_17 (by decide) ?_
      exact B_Y8_isOutOfRank_21 x1 x2 1 _ _ _ hE hp hP hD hS (lv_sub hl [0, 1, 2] rfl)
  have B_Y8_isOutOfRank_63 : ∀ (x1 : Option Nat) (x2 : Option Nat) (y0 : Int32) (H : Heap) (locs : List Loc) (ls_ : Array Slot), b_Y8_isOutOfRank_63 S x0 x1 x2 y0 = X → q_Y8_isOutOfRank_63 S x0 x1 x2 y0 → va_P G vwCl (wsC K ad S) H → va_D A (wsC K ad S) → va_S A s.heap H locs → lv_has ls_ 3 [(0, .ref (ad x0)), (1, va_re ad x1), (2, va_re ad x2)] → W p l e ({ frames := 2, cells := 0, slots := 0, locals := 44 } : Room) s m #[Value.ref (ad x0), va_re ad a1, va_re ad a2] below meth c H locs 0 0 Q (F0 m 63 ls_ [.int y0]) := by
    intro x1 x2 y0 H locs ls_ hE hp hP hD hS hl
    unfold b_Y8_isOutOfRank_63 at hE
    unfold q_Y8_isOutOfRank_63 at hp
    obtain ⟨hy12, hp⟩ := hp
    subst hQ
    exact W.zret (v := y0) (ty := .boolean) hx hb hr hy12 (fun t ht hW => ⟨⟨y0, S, rfl, (pair_i (hE.trans hX.symm)), by rw [ht]; exact hP, hD⟩, hS.F ht⟩) hS.2.2 dX8_isOutOfRank_63
  have B_Y8_isOutOfRank_58 : ∀ (x1 : Option Nat) (x2 : Option Nat) (H : Heap) (locs : List Loc) (ls_ : Array Slot), b_Y8_isOutOfRank_58 S x0 x1 x2 = X → q_Y8_isOutOfRank_58 S x0 x1 x2 → va_P G vwCl (wsC K ad S) H → va_D A (wsC K ad S) → va_S A s.heap H locs → lv_has ls_ 3 [(0, .ref (ad x0)), (1, va_re ad x1), (2, va_re ad x2)] → W p l e ({ frames := 2, cells := 0, slots := 0, locals := 44 } : Room) s m #[Value.ref (ad x0), va_re ad a1, va_re ad a2] below meth c H locs 0 0 Q (F0 m 58 ls_ []) := by
    intro x1 x2 H locs ls_ hE hp hP hD hS hl
    unfold b_Y8_isOutOfRank_58 at hE
    unfold q_Y8_isOutOfRank_58 at hp
    refine lv_iconst (v := 1) hx hb dX8_isOutOfRank_58 (by decide) ?_
    refine lv_goto (tgt := 63) hx hb dX8_isOutOfRank_59 (by decide) ?_
    exact B_Y8_isOutOfRank_63 x1 x2 1 _ _ _ hE hp hP hD hS (lv_sub hl [0, 1, 2] rfl)
  have B_Y8_isOutOfRank_42 : ∀ (x1 : Option Nat) (x2 : Option Nat) (y0 : Int32) (H : Heap) (locs : List Loc) (ls_ : Array Slot), b_Y8_isOutOfRank_42 S x0 x1 x2 y0 = X → q_Y8_isOutOfRank_42 S x0 x1 x2 y0 → va_P G vwCl (wsC K ad S) H → va_D A (wsC K ad S) → va_S A s.heap H locs → lv_has ls_ 3 [(0, .ref (ad x0)), (1, va_re ad x1), (2, va_re ad x2)] → W p l e ({ frames := 2, cells := 0, slots := 0, locals := 44 } : Room) s m #[Value.ref (ad x0), va_re ad a1, va_re ad a2] below meth c H locs 0 0 Q (F0 m 42 ls_ [.int y0]) := by
    intro x1 x2 y0 H locs ls_ hE hp hP hD hS hl
    unfold b_Y8_isOutOfRank_42 at hE
    unfold q_Y8_isOutOfRank_42 at hp
    obtain ⟨hy23, hp⟩ := hp
    subst hQ
    exact W.zret (v := y0) (ty := .boolean) hx hb hr hy23 (fun t ht hW => ⟨⟨y0, S, rfl, (pair_i (hE.trans hX.symm)), by rw [ht]; exact hP, hD⟩, hS.F ht⟩) hS.2.2 dX8_isOutOfRank_42
  have B_M : ∀ (x1 : Option Nat) (x2 : Option Nat) (H : Heap) (locs : List Loc) (ls_ : Array Slot), f_Y8_isOutOfRank S x0 x1 x2 = X → p_Y8_isOutOfRank S x0 x1 x2 → va_P G vwCl (wsC K ad S) H → va_D A (wsC K ad S) → va_S A s.heap H locs → lv_has ls_ 3 [(0, .ref (ad x0)), (1, va_re ad x1), (2, va_re ad x2)] → W p l e ({ frames := 2, cells := 0, slots := 0, locals := 44 } : Room) s m #[Value.ref (ad x0), va_re ad a1, va_re ad a2] below meth c H locs 0 0 Q (F0 m 0 ls_ []) := by
    intro x1 x2 H locs ls_ hE hp hP hD hS hl
    unfold f_Y8_isOutOfRank at hE
    unfold p_Y8_isOutOfRank at hp
    refine cAload_n (ad := ad) (r := x1) hx hb dX8_isOutOfRank_0 rfl (lv_at hl 1 rfl) ?_
    refine cIfnull (ad := ad) (r := x1) (tgt := 12) hx hb dX8_isOutOfRank_1 (by decide) (fun c1 => ?_) (fun c1 => ?_)
    · rw [if_pos c1] at hE hp
      exact B_Y8_isOutOfRank_12 x1 x2 _ _ _ hE hp hP hD hS (lv_sub hl [0, 1, 2] rfl)
    · rw [if_neg c1] at hE hp
      refine cAload_n (ad := ad) (r := x1) hx hb dX8_isOutOfRank_4 rfl (lv_at hl 1 rfl) ?_
      obtain ⟨hy4, hp⟩ := hp
      refine cTop (r := x1) hy4.1 ?_
      refine va_get (D := G) (ci := 3) (v := .int (giC S (x1.getD 0) 2)) (C := RX4) (T := TX4) (N := 16) hx hb hts iX4 hown hK hP (x1.getD 0) (at_3 hy4.2) rfl 2 (by decide) (hw (.fieldLink RX8 128 "MotionFloor$Motion" "kind" "I") (List.mem_of_getElem? (i := 0) rfl)) (fun _ h9 => h9) rfl dX8_isOutOfRank_5 ?_
      refine lv_iconst (v := 1) hx hb dX8_isOutOfRank_8 (by decide) ?_
      refine lv_icmp_ne (tgt := 22) hx hb dX8_isOutOfRank_9 (by decide) (fun c5 => ?_) (fun c5 => ?_)
      · rw [if_neg c5] at hE hp
        refine cAload_n (ad := ad) (r := x1) hx hb dX8_isOutOfRank_22 rfl (lv_at hl 1 rfl) ?_
        obtain ⟨hy6, hp⟩ := hp
        refine cTop (r := x1) hy6.1 ?_
        obtain ⟨hy7, hp⟩ := hp
        refine cGoi (va_runV (As := []) (rest := []) ⟨hx, hb, hml, hown, hts⟩ (c_Y4_amends l G K ad S (x1.getD 0) _) (cwV 0 hts (wGV t_ (mw (.methodLink RX8 150 yX4_amends) (List.mem_of_getElem? (i := 1) rfl)) (mw (.instanceMethod yX4_amends) (List.mem_of_getElem? (i := 2) rfl)) (mw (.selects RX4 yX4_amends yX4_amends) (List.mem_of_getElem? (i := 3) rfl)) (mw (.initialized RX4) (List.mem_of_getElem? (i := 4) rfl)) j_Y4_amends) rfl rfl rfl (by decide +kernel) ⟨Nat.le_of_ble_eq_true rfl, Nat.le_of_ble_eq_true rfl⟩) (cPV hK hTE hP hD 3 rfl (at_3 hy6.2) ⟨hy6.2, hy7⟩) rfl rfl hl.1 rfl (lv_room (Nat.le_of_ble_eq_true rfl)) dX8_isOutOfRank_23 ⟨Nat.le_of_ble_eq_true rfl, Nat.le_of_ble_eq_true rfl⟩) hP hD hS hA (fun r9 u8 H locs hv hP hD hS => ?_)
        have h1 := congrArg Prod.fst hv
        have h2 := (congrArg Prod.snd hv).symm
        dsimp only at h1 h2
        subst h1
        subst h2
        refine lv_if_eq (tgt := 43) hx hb dX8_isOutOfRank_26 (by decide) (fun c10 => ?_) (fun c10 => ?_)
        · rw [if_pos c10] at hE hp
          refine cAload_n (ad := ad) (r := x2) hx hb dX8_isOutOfRank_43 rfl (lv_at hl 2 rfl) ?_
          refine cIfnull (ad := ad) (r := x2) (tgt := 58) hx hb dX8_isOutOfRank_44 (by decide) (fun c11 => ?_) (fun c11 => ?_)
          · rw [if_pos c11] at hE hp
            exact B_Y8_isOutOfRank_58 x1 x2 _ _ _ hE hp hP hD hS (lv_sub hl [0, 1, 2] rfl)
          · rw [if_neg c11] at hE hp
            refine lv_aload_n hx hb dX8_isOutOfRank_47 rfl (lv_at hl 0 rfl) ?_
            obtain ⟨hy13, hp⟩ := hp
            refine cGoi (va_runV (As := []) (rest := []) ⟨hx, hb, hml, hown, hts⟩ (c_Y5_highestRank l G K ad S x0 _) (cwV 0 hts (wGV t_ (mw (.methodLink RX8 202 yX5_highestRank) (List.mem_of_getElem? (i := 5) rfl)) (mw (.instanceMethod yX5_highestRank) (List.mem_of_getElem? (i := 6) rfl)) (mw (.selects RX5 yX5_highestRank yX5_highestRank) (List.mem_of_getElem? (i := 7) rfl)) (mw (.initialized RX5) (List.mem_of_getElem? (i := 8) rfl)) j_Y5_highestRank) rfl rfl rfl (by decide +kernel) ⟨Nat.le_of_ble_eq_true rfl, Nat.le_of_ble_eq_true rfl⟩) (cPV hK hTE hP hD 4 rfl (at_4 k_x0) ⟨k_x0, hy13⟩) rfl rfl hl.1 rfl (lv_room (Nat.le_of_ble_eq_true rfl)) dX8_isOutOfRank_48 ⟨Nat.le_of_ble_eq_true rfl, Nat.le_of_ble_eq_true rfl⟩) hP hD hS hA (fun r15 u14 H locs hv hP hD hS => ?_)
            have h1 := congrArg Prod.fst hv
            have h2 := (congrArg Prod.snd hv).symm
            dsimp only at h1 h2
            subst h1
            subst h2
            refine cAload_n (ad := ad) (r := x1) hx hb dX8_isOutOfRank_51 rfl (lv_at hl 1 rfl) ?_
            obtain ⟨hy16, hp⟩ := hp
            refine cTop (r := x1) hy16.1 ?_
            refine va_get (D := G) (ci := 3) (v := .int (giC S (x1.getD 0) 2)) (C := RX4) (T := TX4) (N := 16) hx hb hts iX4 hown hK hP (x1.getD 0) (at_3 hy16.2) rfl 2 (by decide) (hw (.fieldLink RX8 128 "MotionFloor$Motion" "kind" "I") (List.mem_of_getElem? (i := 0) rfl)) (fun _ h9 => h9) rfl dX8_isOutOfRank_52 ?_
            refine lv_icmp_lt (tgt := 62) hx hb dX8_isOutOfRank_55 (by decide) (fun c17 => ?_) (fun c17 => ?_)
            · rw [if_pos c17] at hE hp
              refine lv_iconst (v := 0) hx hb dX8_isOutOfRank_62 (by decide) ?_
              exact B_Y8_isOutOfRank_63 x1 x2 0 _ _ _ hE hp hP hD hS (lv_sub hl [0, 1, 2] rfl)
            · rw [if_neg c17] at hE hp
              exact B_Y8_isOutOfRank_58 x1 x2 _ _ _ hE hp hP hD hS (lv_sub hl [0, 1, 2] rfl)
        · rw [if_neg c10] at hE hp
          refine cAload_n (ad := ad) (r := x1) hx hb dX8_isOutOfRank_29 rfl (lv_at hl 1 rfl) ?_
          refine cAload_n (ad := ad) (r := x2) hx hb dX8_isOutOfRank_30 rfl (lv_at hl 2 rfl) ?_
          obtain ⟨hy18, hp⟩ := hp
          refine cTop2 (r := x1) hy18.1 ?_
          obtain ⟨hy19, hp⟩ := hp
          refine cGoi (va_runV (As := [va_re ad x2]) (rest := []) ⟨hx, hb, hml, hown, hts⟩ (c_Y4_canBeAbout l G K ad S (x1.getD 0) x2 _) (cwV 1 hts (wGV t_ (mw (.methodLink RX8 173 yX4_canBeAbout) (List.mem_of_getElem? (i := 9) rfl)) (mw (.instanceMethod yX4_canBeAbout) (List.mem_of_getElem? (i := 10) rfl)) (mw (.selects RX4 yX4_canBeAbout yX4_canBeAbout) (List.mem_of_getElem? (i := 11) rfl)) (mw (.initialized RX4) (List.mem_of_getElem? (i := 4) rfl)) j_Y4_canBeAbout) rfl rfl rfl (by decide +kernel) ⟨Nat.le_of_ble_eq_true rfl, Nat.le_of_ble_eq_true rfl⟩) (cPV hK hTE hP hD 3 rfl (at_3 hy18.2) ⟨hy18.2, hy19⟩) rfl rfl hl.1 rfl (lv_room (Nat.le_of_ble_eq_true rfl)) dX8_isOutOfRank_31 ⟨Nat.le_of_ble_eq_true rfl, Nat.le_of_ble_eq_true rfl⟩) hP hD hS hA (fun r21 u20 H locs hv hP hD hS => ?_)
          have h1 := congrArg Prod.fst hv
          have h2 := (congrArg Prod.snd hv).symm
          dsimp only at h1 h2
          subst h1
          subst h2
          refine lv_if_ne (tgt := 41) hx hb dX8_isOutOfRank_34 (by decide) (fun c22 => ?_) (fun c22 => ?_)
          · rw [if_neg c22] at hE hp
            refine lv_iconst (v := 0) hx hb dX8_isOutOfRank_41 (by decide) ?_
            exact B_Y8_isOutOfRank_42 x1 x2 0 _ _ _ hE hp hP hD hS (lv_sub hl [0, 1, 2] rfl)
          · rw [if_pos c22] at hE hp
            refine lv_iconst (v := 1) hx hb dX8_isOutOfRank_37 (by decide) ?_
            refine lv_goto (tgt := 42) hx hb dX8_isOutOfRank_38 (by decide) ?_
            exact B_Y8_isOutOfRank_42 x1 x2 1 _ _ _ hE hp hP hD hS (lv_sub hl [0, 1, 2] rfl)
      · rw [if_pos c5] at hE hp
        exact B_Y8_isOutOfRank_12 x1 x2 _ _ _ hE hp hP hD hS (lv_sub hl [0, 1, 2] rfl)
  exact B_M a1 a2 _ _ _ hX hp hP hD hS hl
theorem gdX8_againstMove_38 : ckS (List.drop 38 cX8_againstMove.data.toList) 38 [(38, .ifCond .eq 5, 3), (43, .aload_n 0, 1), (44, .getfield 34, 3), (47, .iload_n 1, 1), (48, .invokevirtual 135, 3), (51, .ifCond .ne 5, 3), (56, .aload_n 3, 1), (57, .ifnull 22, 3), (79, .aload_n 0, 1), (80, .getfield 34, 3), (83, .invokevirtual 191, 3), (86, .ifCond .ne 5, 3), (91, .aload_n 2, 1), (92, .ifnonnull 5, 3), (95, .iconst 0, 1), (96, .ireturn, 1), (97, .aload_n 2, 1), (98, .invokevirtual 150, 3), (101, .ifCond .eq 13, 3), (114, .aload_n 0, 1), (115, .aload_n 2, 1), (116, .aload_n 3, 1), (117, .invokestatic 198, 3)] = true := by decide +kernel
theorem dX8_againstMove_38 : decode cX8_againstMove 38 = .ok (.ifCond .eq 5, 3) := ckS_g gdX8_againstMove_38 0 rfl
theorem dX8_againstMove_43 : decode cX8_againstMove 43 = .ok (.aload_n 0, 1) := ckS_g gdX8_againstMove_38 1 rfl
theorem dX8_againstMove_44 : decode cX8_againstMove 44 = .ok (.getfield 34, 3) := ckS_g gdX8_againstMove_38 2 rfl
theorem dX8_againstMove_47 : decode cX8_againstMove 47 = .ok (.iload_n 1, 1) := ckS_g gdX8_againstMove_38 3 rfl
theorem dX8_againstMove_48 : decode cX8_againstMove 48 = .ok (.invokevirtual 135, 3) := ckS_g gdX8_againstMove_38 4 rfl
theorem dX8_againstMove_51 : decode cX8_againstMove 51 = .ok (.ifCond .ne 5, 3) := ckS_g gdX8_againstMove_38 5 rfl
theorem dX8_againstMove_56 : decode cX8_againstMove 56 = .ok (.aload_n 3, 1) := ckS_g gdX8_againstMove_38 6 rfl
theorem dX8_againstMove_57 : decode cX8_againstMove 57 = .ok (.ifnull 22, 3) := ckS_g gdX8_againstMove_38 7 rfl
theorem dX8_againstMove_79 : decode cX8_againstMove 79 = .ok (.aload_n 0, 1) := ckS_g gdX8_againstMove_38 8 rfl
theorem dX8_againstMove_80 : decode cX8_againstMove 80 = .ok (.getfield 34, 3) := ckS_g gdX8_againstMove_38 9 rfl
theorem dX8_againstMove_83 : decode cX8_againstMove 83 = .ok (.invokevirtual 191, 3) := ckS_g gdX8_againstMove_38 10 rfl
theorem dX8_againstMove_86 : decode cX8_againstMove 86 = .ok (.ifCond .ne 5, 3) := ckS_g gdX8_againstMove_38 11 rfl
theorem dX8_againstMove_91 : decode cX8_againstMove 91 = .ok (.aload_n 2, 1) := ckS_g gdX8_againstMove_38 12 rfl
theorem dX8_againstMove_92 : decode cX8_againstMove 92 = .ok (.ifnonnull 5, 3) := ckS_g gdX8_againstMove_38 13 rfl
theorem dX8_againstMove_95 : decode cX8_againstMove 95 = .ok (.iconst 0, 1) := ckS_g gdX8_againstMove_38 14 rfl
theorem dX8_againstMove_96 : decode cX8_againstMove 96 = .ok (.ireturn, 1) := ckS_g gdX8_againstMove_38 15 rfl
theorem dX8_againstMove_97 : decode cX8_againstMove 97 = .ok (.aload_n 2, 1) := ckS_g gdX8_againstMove_38 16 rfl
theorem dX8_againstMove_98 : decode cX8_againstMove 98 = .ok (.invokevirtual 150, 3) := ckS_g gdX8_againstMove_38 17 rfl
theorem dX8_againstMove_101 : decode cX8_againstMove 101 = .ok (.ifCond .eq 13, 3) := ckS_g gdX8_againstMove_38 18 rfl
theorem dX8_againstMove_114 : decode cX8_againstMove 114 = .ok (.aload_n 0, 1) := ckS_g gdX8_againstMove_38 19 rfl
theorem dX8_againstMove_115 : decode cX8_againstMove 115 = .ok (.aload_n 2, 1) := ckS_g gdX8_againstMove_38 20 rfl
theorem dX8_againstMove_116 : decode cX8_againstMove 116 = .ok (.aload_n 3, 1) := ckS_g gdX8_againstMove_38 21 rfl
theorem dX8_againstMove_117 : decode cX8_againstMove 117 = .ok (.invokestatic 198, 3) := ckS_g gdX8_againstMove_38 22 rfl
theorem gdX8_lacksRoom_0 : ckS (List.drop 0 cX8_lacksRoom.data.toList) 0 [(0, .aload_n 0, 1), (1, .getfield 86, 3), (4, .getfield 117, 3), (7, .bipush 9, 2), (9, .if_icmp .lt 5, 3), (14, .aload_n 1, 1), (15, .invokevirtual 214, 3), (18, .ifCond .eq 16, 3), (34, .aload_n 1, 1), (35, .invokevirtual 150, 3), (38, .ifCond .eq 23, 3), (41, .aload_n 2, 1), (42, .ifnull 19, 3), (45, .aload_n 0, 1), (46, .getfield 86, 3), (49, .aload_n 1, 1), (50, .aload_n 2, 1), (51, .invokestatic 215, 3), (61, .iconst 0, 1), (62, .ireturn, 1)] = true := by decide +kernel
theorem dX8_lacksRoom_0 : decode cX8_lacksRoom 0 = .ok (.aload_n 0, 1) := ckS_g gdX8_lacksRoom_0 0 rfl
theorem dX8_lacksRoom_1 : decode cX8_lacksRoom 1 = .ok (.getfield 86, 3) := ckS_g gdX8_lacksRoom_0 1 rfl
theorem dX8_lacksRoom_4 : decode cX8_lacksRoom 4 = .ok (.getfield 117, 3) := ckS_g gdX8_lacksRoom_0 2 rfl
theorem dX8_lacksRoom_7 : decode cX8_lacksRoom 7 = .ok (.bipush 9, 2) := ckS_g gdX8_lacksRoom_0 3 rfl
theorem dX8_lacksRoom_9 : decode cX8_lacksRoom 9 = .ok (.if_icmp .lt 5, 3) := ckS_g gdX8_lacksRoom_0 4 rfl
theorem dX8_lacksRoom_14 : decode cX8_lacksRoom 14 = .ok (.aload_n 1, 1) := ckS_g gdX8_lacksRoom_0 5 rfl
theorem dX8_lacksRoom_15 : decode cX8_lacksRoom 15 = .ok (.invokevirtual 214, 3) := ckS_g gdX8_lacksRoom_0 6 rfl
theorem dX8_lacksRoom_18 : decode cX8_lacksRoom 18 = .ok (.ifCond .eq 16, 3) := ckS_g gdX8_lacksRoom_0 7 rfl
theorem dX8_lacksRoom_34 : decode cX8_lacksRoom 34 = .ok (.aload_n 1, 1) := ckS_g gdX8_lacksRoom_0 8 rfl
theorem dX8_lacksRoom_35 : decode cX8_lacksRoom 35 = .ok (.invokevirtual 150, 3) := ckS_g gdX8_lacksRoom_0 9 rfl
theorem dX8_lacksRoom_38 : decode cX8_lacksRoom 38 = .ok (.ifCond .eq 23, 3) := ckS_g gdX8_lacksRoom_0 10 rfl
theorem dX8_lacksRoom_41 : decode cX8_lacksRoom 41 = .ok (.aload_n 2, 1) := ckS_g gdX8_lacksRoom_0 11 rfl
theorem dX8_lacksRoom_42 : decode cX8_lacksRoom 42 = .ok (.ifnull 19, 3) := ckS_g gdX8_lacksRoom_0 12 rfl
theorem dX8_lacksRoom_45 : decode cX8_lacksRoom 45 = .ok (.aload_n 0, 1) := ckS_g gdX8_lacksRoom_0 13 rfl
theorem dX8_lacksRoom_46 : decode cX8_lacksRoom 46 = .ok (.getfield 86, 3) := ckS_g gdX8_lacksRoom_0 14 rfl
theorem dX8_lacksRoom_49 : decode cX8_lacksRoom 49 = .ok (.aload_n 1, 1) := ckS_g gdX8_lacksRoom_0 15 rfl
theorem dX8_lacksRoom_50 : decode cX8_lacksRoom 50 = .ok (.aload_n 2, 1) := ckS_g gdX8_lacksRoom_0 16 rfl
theorem dX8_lacksRoom_51 : decode cX8_lacksRoom 51 = .ok (.invokestatic 215, 3) := ckS_g gdX8_lacksRoom_0 17 rfl
theorem dX8_lacksRoom_61 : decode cX8_lacksRoom 61 = .ok (.iconst 0, 1) := ckS_g gdX8_lacksRoom_0 18 rfl
theorem dX8_lacksRoom_62 : decode cX8_lacksRoom 62 = .ok (.ireturn, 1) := ckS_g gdX8_lacksRoom_0 19 rfl
theorem gdX8_makesTextTooLong_0 : ckS (List.drop 0 cX8_makesTextTooLong.data.toList) 0 [(0, .aload_n 2, 1), (1, .getfield 159, 3), (4, .aload_n 1, 1), (5, .getfield 218, 3), (8, .aload_n 1, 1), (9, .getfield 177, 3), (12, .aload_n 1, 1), (13, .getfield 159, 3), (16, .getfield 163, 3), (19, .invokevirtual 221, 3), (22, .istore_n 3, 1), (23, .aload_n 0, 1), (24, .aload_n 0, 1), (25, .getfield 117, 3), (28, .iconst 2, 1), (29, .isub, 1), (30, .invokevirtual 225, 3), (33, .astore 4, 2), (35, .iload_n 3, 1), (36, .sipush 400, 3), (39, .if_icmp .le 5, 3), (42, .iconst 1, 1), (43, .ireturn, 1), (44, .aload_n 1, 1), (45, .getfield 128, 3), (48, .iconst 3, 1), (49, .if_icmp .ne 35, 3), (52, .aload 4, 2), (54, .ifnull 30, 3), (57, .aload 4, 2), (59, .getfield 159, 3), (62, .aload_n 2, 1), (63, .getfield 218, 3), (66, .aload_n 2, 1), (67, .getfield 177, 3), (70, .iload_n 3, 1), (71, .invokevirtual 221, 3), (74, .sipush 400, 3), (77, .if_icmp .le 7, 3), (80, .iconst 1, 1)] = true := by decide +kernel
theorem dX8_makesTextTooLong_0 : decode cX8_makesTextTooLong 0 = .ok (.aload_n 2, 1) := ckS_g gdX8_makesTextTooLong_0 0 rfl
theorem dX8_makesTextTooLong_1 : decode cX8_makesTextTooLong 1 = .ok (.getfield 159, 3) := ckS_g gdX8_makesTextTooLong_0 1 rfl
theorem dX8_makesTextTooLong_4 : decode cX8_makesTextTooLong 4 = .ok (.aload_n 1, 1) := ckS_g gdX8_makesTextTooLong_0 2 rfl
theorem dX8_makesTextTooLong_5 : decode cX8_makesTextTooLong 5 = .ok (.getfield 218, 3) := ckS_g gdX8_makesTextTooLong_0 3 rfl
theorem dX8_makesTextTooLong_8 : decode cX8_makesTextTooLong 8 = .ok (.aload_n 1, 1) := ckS_g gdX8_makesTextTooLong_0 4 rfl
theorem dX8_makesTextTooLong_9 : decode cX8_makesTextTooLong 9 = .ok (.getfield 177, 3) := ckS_g gdX8_makesTextTooLong_0 5 rfl
theorem dX8_makesTextTooLong_12 : decode cX8_makesTextTooLong 12 = .ok (.aload_n 1, 1) := ckS_g gdX8_makesTextTooLong_0 6 rfl
theorem dX8_makesTextTooLong_13 : decode cX8_makesTextTooLong 13 = .ok (.getfield 159, 3) := ckS_g gdX8_makesTextTooLong_0 7 rfl
theorem dX8_makesTextTooLong_16 : decode cX8_makesTextTooLong 16 = .ok (.getfield 163, 3) := ckS_g gdX8_makesTextTooLong_0 8 rfl
theorem dX8_makesTextTooLong_19 : decode cX8_makesTextTooLong 19 = .ok (.invokevirtual 221, 3) := ckS_g gdX8_makesTextTooLong_0 9 rfl
theorem dX8_makesTextTooLong_22 : decode cX8_makesTextTooLong 22 = .ok (.istore_n 3, 1) := ckS_g gdX8_makesTextTooLong_0 10 rfl
theorem dX8_makesTextTooLong_23 : decode cX8_makesTextTooLong 23 = .ok (.aload_n 0, 1) := ckS_g gdX8_makesTextTooLong_0 11 rfl
theorem dX8_makesTextTooLong_24 : decode cX8_makesTextTooLong 24 = .ok (.aload_n 0, 1) := ckS_g gdX8_makesTextTooLong_0 12 rfl
theorem dX8_makesTextTooLong_25 : decode cX8_makesTextTooLong 25 = .ok (.getfield 117, 3) := ckS_g gdX8_makesTextTooLong_0 13 rfl
theorem dX8_makesTextTooLong_28 : decode cX8_makesTextTooLong 28 = .ok (.iconst 2, 1) := ckS_g gdX8_makesTextTooLong_0 14 rfl
theorem dX8_makesTextTooLong_29 : decode cX8_makesTextTooLong 29 = .ok (.isub, 1) := ckS_g gdX8_makesTextTooLong_0 15 rfl
theorem dX8_makesTextTooLong_30 : decode cX8_makesTextTooLong 30 = .ok (.invokevirtual 225, 3) := ckS_g gdX8_makesTextTooLong_0 16 rfl
theorem dX8_makesTextTooLong_33 : decode cX8_makesTextTooLong 33 = .ok (.astore 4, 2) := ckS_g gdX8_makesTextTooLong_0 17 rfl
theorem dX8_makesTextTooLong_35 : decode cX8_makesTextTooLong 35 = .ok (.iload_n 3, 1) := ckS_g gdX8_makesTextTooLong_0 18 rfl
theorem dX8_makesTextTooLong_36 : decode cX8_makesTextTooLong 36 = .ok (.sipush 400, 3) := ckS_g gdX8_makesTextTooLong_0 19 rfl
theorem dX8_makesTextTooLong_39 : decode cX8_makesTextTooLong 39 = .ok (.if_icmp .le 5, 3) := ckS_g gdX8_makesTextTooLong_0 20 rfl
theorem dX8_makesTextTooLong_42 : decode cX8_makesTextTooLong 42 = .ok (.iconst 1, 1) := ckS_g gdX8_makesTextTooLong_0 21 rfl
theorem dX8_makesTextTooLong_43 : decode cX8_makesTextTooLong 43 = .ok (.ireturn, 1) := ckS_g gdX8_makesTextTooLong_0 22 rfl
theorem dX8_makesTextTooLong_44 : decode cX8_makesTextTooLong 44 = .ok (.aload_n 1, 1) := ckS_g gdX8_makesTextTooLong_0 23 rfl
theorem dX8_makesTextTooLong_45 : decode cX8_makesTextTooLong 45 = .ok (.getfield 128, 3) := ckS_g gdX8_makesTextTooLong_0 24 rfl
theorem dX8_makesTextTooLong_48 : decode cX8_makesTextTooLong 48 = .ok (.iconst 3, 1) := ckS_g gdX8_makesTextTooLong_0 25 rfl
theorem dX8_makesTextTooLong_49 : decode cX8_makesTextTooLong 49 = .ok (.if_icmp .ne 35, 3) := ckS_g gdX8_makesTextTooLong_0 26 rfl
theorem dX8_makesTextTooLong_52 : decode cX8_makesTextTooLong 52 = .ok (.aload 4, 2) := ckS_g gdX8_makesTextTooLong_0 27 rfl
theorem dX8_makesTextTooLong_54 : decode cX8_makesTextTooLong 54 = .ok (.ifnull 30, 3) := ckS_g gdX8_makesTextTooLong_0 28 rfl
theorem dX8_makesTextTooLong_57 : decode cX8_makesTextTooLong 57 = .ok (.aload 4, 2) := ckS_g gdX8_makesTextTooLong_0 29 rfl
theorem dX8_makesTextTooLong_59 : decode cX8_makesTextTooLong 59 = .ok (.getfield 159, 3) := ckS_g gdX8_makesTextTooLong_0 30 rfl
theorem dX8_makesTextTooLong_62 : decode cX8_makesTextTooLong 62 = .ok (.aload_n 2, 1) := ckS_g gdX8_makesTextTooLong_0 31 rfl
theorem dX8_makesTextTooLong_63 : decode cX8_makesTextTooLong 63 = .ok (.getfield 218, 3) := ckS_g gdX8_makesTextTooLong_0 32 rfl
theorem dX8_makesTextTooLong_66 : decode cX8_makesTextTooLong 66 = .ok (.aload_n 2, 1) := ckS_g gdX8_makesTextTooLong_0 33 rfl
theorem dX8_makesTextTooLong_67 : decode cX8_makesTextTooLong 67 = .ok (.getfield 177, 3) := ckS_g gdX8_makesTextTooLong_0 34 rfl
theorem dX8_makesTextTooLong_70 : decode cX8_makesTextTooLong 70 = .ok (.iload_n 3, 1) := ckS_g gdX8_makesTextTooLong_0 35 rfl
theorem dX8_makesTextTooLong_71 : decode cX8_makesTextTooLong 71 = .ok (.invokevirtual 221, 3) := ckS_g gdX8_makesTextTooLong_0 36 rfl
theorem dX8_makesTextTooLong_74 : decode cX8_makesTextTooLong 74 = .ok (.sipush 400, 3) := ckS_g gdX8_makesTextTooLong_0 37 rfl
theorem dX8_makesTextTooLong_77 : decode cX8_makesTextTooLong 77 = .ok (.if_icmp .le 7, 3) := ckS_g gdX8_makesTextTooLong_0 38 rfl
theorem dX8_makesTextTooLong_80 : decode cX8_makesTextTooLong 80 = .ok (.iconst 1, 1) := ckS_g gdX8_makesTextTooLong_0 39 rfl
theorem gdX8_makesTextTooLong_81 : ckS (List.drop 81 cX8_makesTextTooLong.data.toList) 81 [(81, .goto 4, 3), (84, .iconst 0, 1), (85, .ireturn, 1)] = true := by decide +kernel
theorem dX8_makesTextTooLong_81 : decode cX8_makesTextTooLong 81 = .ok (.goto 4, 3) := ckS_g gdX8_makesTextTooLong_81 0 rfl
theorem dX8_makesTextTooLong_84 : decode cX8_makesTextTooLong 84 = .ok (.iconst 0, 1) := ckS_g gdX8_makesTextTooLong_81 1 rfl
theorem dX8_makesTextTooLong_85 : decode cX8_makesTextTooLong 85 = .ok (.ireturn, 1) := ckS_g gdX8_makesTextTooLong_81 2 rfl
set_option maxRecDepth 100000 in
theorem zc391 : wZ (.methodLink RX8 225 yX5_at) := ⟨wT2 (List.mem_of_getElem? (i := 174) (by decide +kernel)), Or.inl rfl⟩
set_option maxRecDepth 100000 in
theorem zc392 : wZ (.methodLink RX8 221 yX9_sizeWith) := ⟨wT2 (List.mem_of_getElem? (i := 170) (by decide +kernel)), Or.inl rfl⟩
set_option maxRecDepth 100000 in
theorem zc393 : wZ (.fieldLink RX8 163 "MotionFloor$Text" "size" "I") := ⟨wT1 (List.mem_of_getElem? (i := 159) (by decide +kernel)), Or.inl rfl⟩
set_option maxRecDepth 100000 in
theorem zc394 : wZ (.fieldLink RX8 177 "MotionFloor$Motion" "to" "I") := ⟨wT3 (List.mem_of_getElem? (i := 45) (by decide +kernel)), Or.inl rfl⟩
set_option maxRecDepth 100000 in
theorem zc395 : wZ (.fieldLink RX8 218 "MotionFloor$Motion" "from" "I") := ⟨wT3 (List.mem_of_getElem? (i := 40) (by decide +kernel)), Or.inl rfl⟩
set_option maxRecDepth 100000 in
theorem zc396 : wZ (.fieldLink RX8 159 "MotionFloor$Motion" "text" "LMotionFloor$Text;") := ⟨wT3 (List.mem_of_getElem? (i := 57) (by decide +kernel)), Or.inl rfl⟩
set_option maxRecDepth 100000 in
theorem zc397 : wZ (.code yX8_makesTextTooLong cX8_makesTextTooLong 5 (some .boolean)) := ⟨wT2 (List.mem_of_getElem? (i := 169) rfl), Or.inl rfl⟩
def b_Y8_makesTextTooLong_85 (S : Cst) (x0 : Nat) (x1 : Option Nat) (x2 : Option Nat) (x3 : Int32) (x4 : Option Nat) (y0 : Int32) : Int32 := y0
def q_Y8_makesTextTooLong_85 (S : Cst) (x0 : Nat) (x1 : Option Nat) (x2 : Option Nat) (x3 : Int32) (x4 : Option Nat) (y0 : Int32) : Prop := (narrow .boolean (.int y0) = .int y0) ∧ True
def b_Y8_makesTextTooLong_84 (S : Cst) (x0 : Nat) (x1 : Option Nat) (x2 : Option Nat) (x3 : Int32) (x4 : Option Nat) : Int32 := (b_Y8_makesTextTooLong_85 S x0 x1 x2 x3 x4 0)
def q_Y8_makesTextTooLong_84 (S : Cst) (x0 : Nat) (x1 : Option Nat) (x2 : Option Nat) (x3 : Int32) (x4 : Option Nat) : Prop := (q_Y8_makesTextTooLong_85 S x0 x1 x2 x3 x4 0)
def b_Y8_makesTextTooLong_74a (S : Cst) (x0 : Nat) (x1 : Option Nat) (x2 : Option Nat) (x3 : Int32) (x4 : Option Nat) (y0 : Int32) : Int32 := if y0 ≤ 400 then (b_Y8_makesTextTooLong_84 S x0 x1 x2 x3 x4) else (b_Y8_makesTextTooLong_85 S x0 x1 x2 x3 x4 1)
def q_Y8_makesTextTooLong_74a (S : Cst) (x0 : Nat) (x1 : Option Nat) (x2 : Option Nat) (x3 : Int32) (x4 : Option Nat) (y0 : Int32) : Prop := (if y0 ≤ 400 then (q_Y8_makesTextTooLong_84 S x0 x1 x2 x3 x4) else (q_Y8_makesTextTooLong_85 S x0 x1 x2 x3 x4 1))
def b_Y8_makesTextTooLong_22a (S : Cst) (x0 : Nat) (x1 : Option Nat) (x2 : Option Nat) (y0 : Int32) : Int32 := if y0 ≤ 400 then if (giC S (x1.getD 0) 2) = 3 then if (f_Y5_at S x0 ((giC S x0 1) - 2)) = none then (b_Y8_makesTextTooLong_84 S x0 x1 x2 y0 (f_Y5_at S x0 ((giC S x0 1) - 2))) else (b_Y8_makesTextTooLong_74a S x0 x1 x2 y0 (f_Y5_at S x0 ((giC S x0 1) - 2)) (f_Y9_sizeWith S ((grC S ((f_Y5_at S x0 ((giC S x0 1) - 2)).getD 0) 12).getD 0) (giC S (x2.getD 0) 8) (giC S (x2.getD 0) 9) y0)) else (b_Y8_makesTextTooLong_84 S x0 x1 x2 y0 (f_Y5_at S x0 ((giC S x0 1) - 2))) else (1 : Int32)
def q_Y8_makesTextTooLong_22a (S : Cst) (x0 : Nat) (x1 : Option Nat) (x2 : Option Nat) (y0 : Int32) : Prop := (p_Y5_at S x0 ((giC S x0 1) - 2)) ∧ (if y0 ≤ 400 then (iR S x1 3) ∧ (if (giC S (x1.getD 0) 2) = 3 then (if (f_Y5_at S x0 ((giC S x0 1) - 2)) = none then (q_Y8_makesTextTooLong_84 S x0 x1 x2 y0 (f_Y5_at S x0 ((giC S x0 1) - 2))) else (iR S (f_Y5_at S x0 ((giC S x0 1) - 2)) 3) ∧ (iR S x2 3) ∧ (iR S x2 3) ∧ (iR S (grC S ((f_Y5_at S x0 ((giC S x0 1) - 2)).getD 0) 12) 6) ∧ (p_Y9_sizeWith S ((grC S ((f_Y5_at S x0 ((giC S x0 1) - 2)).getD 0) 12).getD 0) (giC S (x2.getD 0) 8) (giC S (x2.getD 0) 9) y0) ∧ (q_Y8_makesTextTooLong_74a S x0 x1 x2 y0 (f_Y5_at S x0 ((giC S x0 1) - 2)) (f_Y9_sizeWith S ((grC S ((f_Y5_at S x0 ((giC S x0 1) - 2)).getD 0) 12).getD 0) (giC S (x2.getD 0) 8) (giC S (x2.getD 0) 9) y0))) else (q_Y8_makesTextTooLong_84 S x0 x1 x2 y0 (f_Y5_at S x0 ((giC S x0 1) - 2)))) else True)
def f_Y8_makesTextTooLong (S : Cst) (x0 : Nat) (x1 : Option Nat) (x2 : Option Nat) : Int32 := (b_Y8_makesTextTooLong_22a S x0 x1 x2 (f_Y9_sizeWith S ((grC S (x2.getD 0) 12).getD 0) (giC S (x1.getD 0) 8) (giC S (x1.getD 0) 9) (giC S ((grC S (x1.getD 0) 12).getD 0) 1)))
def p_Y8_makesTextTooLong (S : Cst) (x0 : Nat) (x1 : Option Nat) (x2 : Option Nat) : Prop := (iR S x2 3) ∧ (iR S x1 3) ∧ (iR S x1 3) ∧ (iR S x1 3) ∧ (iR S (grC S (x1.getD 0) 12) 6) ∧ (iR S (grC S (x2.getD 0) 12) 6) ∧ (p_Y9_sizeWith S ((grC S (x2.getD 0) 12).getD 0) (giC S (x1.getD 0) 8) (giC S (x1.getD 0) 9) (giC S ((grC S (x1.getD 0) 12).getD 0) 1)) ∧ (q_Y8_makesTextTooLong_22a S x0 x1 x2 (f_Y9_sizeWith S ((grC S (x2.getD 0) 12).getD 0) (giC S (x1.getD 0) 8) (giC S (x1.getD 0) 9) (giC S ((grC S (x1.getD 0) 12).getD 0) 1)))
def e_Y8_makesTextTooLong : List Cond := [.fieldLink RX8 159 "MotionFloor$Motion" "text" "LMotionFloor$Text;", .fieldLink RX8 218 "MotionFloor$Motion" "from" "I", .fieldLink RX8 177 "MotionFloor$Motion" "to" "I", .fieldLink RX8 163 "MotionFloor$Text" "size" "I", .methodLink RX8 221 yX9_sizeWith, .instanceMethod yX9_sizeWith, .selects RX9 yX9_sizeWith yX9_sizeWith, .initialized RX9, .fieldLink RX8 117 "MotionFloor$Pile" "size" "I", .methodLink RX8 225 yX5_at, .instanceMethod yX5_at, .selects RX5 yX5_at yX5_at, .initialized RX5, .fieldLink RX8 128 "MotionFloor$Motion" "kind" "I"]
def v_Y8_makesTextTooLong : List Cond := .code yX8_makesTextTooLong cX8_makesTextTooLong 5 (some .boolean) :: (e_Y8_makesTextTooLong ++ (wsX40 ++ (wsX90 ++ (wsX50 ++ (v_Y9_sizeWith ++ (v_Y5_at ++ []))))))
theorem te_Y8_makesTextTooLong : GoodIn lw_tbl e_Y8_makesTextTooLong := wGc zc396 (wGc zc395 (wGc zc394 (wGc zc393 (wGc zc392 (wGc zc314 (wGc zc313 (wGc zc130 (wGc zc379 (wGc zc391 (wGc zc123 (wGc zc122 (wGc zc34 (wGc zc371 (wG0))))))))))))))
theorem t_Y8_makesTextTooLong : GoodIn lw_tbl v_Y8_makesTextTooLong := wGc zc397 (wGa te_Y8_makesTextTooLong (wGa zcX4 (wGa zcX9 (wGa zcX5 (wGa t_Y9_sizeWith (wGa t_Y5_at (wG0)))))))
set_option maxHeartbeats 4000000 in
set_option maxRecDepth 100000 in
theorem c_Y8_makesTextTooLong (l : Launch) (G : va_G) (K : Nat → ClassId) (ad : Nat → Nat) (S : Cst) (x0 : Nat) (a1 : Option Nat) (a2 : Option Nat) (sz : Nat) : Met l yX8_makesTextTooLong v_Y8_makesTextTooLong ({ frames := 1, cells := 0, slots := 0, locals := 23 }) (va_Pc [.ref (ad x0), va_re ad a1, va_re ad a2] (cSt G K ad sz S (iK S x0 4 ∧ p_Y8_makesTextTooLong S x0 a1 a2))) (va_Qi (fun (r : Int32) (u : Cst) => (r, u) = (f_Y8_makesTextTooLong S x0 a1 a2, S)) (cBt G K ad (va_A (wsC K ad S) sz)) (va_A (wsC K ad S) sz)) 0 0 (va_A (wsC K ad S) sz) := by
  refine Met.ofW (cc := cX8_makesTextTooLong) (maxL := 5) (ret := (some .boolean)) (by decide) rfl ?_
  intro p e s m args below meth c s₁ B hml hv
  obtain ⟨rfl, ⟨hsz, hP, hK, hD0, hTE⟩, hp⟩ := hv
  obtain ⟨k_x0, hp⟩ := hp
  have hx := B.exec
  have hb := B.bytes
  have hr := B.returns
  have hts := atoms_spec (ws := v_Y8_makesTextTooLong) B.pre
  have t_ := t_Y8_makesTextTooLong
  have mw : ∀ w ∈ e_Y8_makesTextTooLong, w ∈ v_Y8_makesTextTooLong := fun w h => List.mem_cons_of_mem _ (List.mem_append_left _ h)
  have hw := fun w (h : w ∈ e_Y8_makesTextTooLong) => hts w (mw w h)
  have iX4 : ∀ w ∈ wsX40, w ∈ v_Y8_makesTextTooLong := fun w h => List.mem_cons_of_mem _ (List.mem_append_right _ (List.mem_append_left _ h))
  have iX9 : ∀ w ∈ wsX90, w ∈ v_Y8_makesTextTooLong := fun w h => List.mem_cons_of_mem _ (List.mem_append_right _ (List.mem_append_right _ (List.mem_append_left _ h)))
  have iX5 : ∀ w ∈ wsX50, w ∈ v_Y8_makesTextTooLong := fun w h => List.mem_cons_of_mem _ (List.mem_append_right _ (List.mem_append_right _ (List.mem_append_right _ (List.mem_append_left _ h))))
  have j_Y9_sizeWith : ∀ w ∈ v_Y9_sizeWith, w ∈ v_Y8_makesTextTooLong := fun w h => List.mem_cons_of_mem _ (List.mem_append_right _ (List.mem_append_right _ (List.mem_append_right _ (List.mem_append_right _ (List.mem_append_left _ h)))))
  have j_Y5_at : ∀ w ∈ v_Y5_at, w ∈ v_Y8_makesTextTooLong := fun w h => List.mem_cons_of_mem _ (List.mem_append_right _ (List.mem_append_right _ (List.mem_append_right _ (List.mem_append_right _ (List.mem_append_right _ (List.mem_append_left _ h))))))
  have hown : s.vm.findClass RX8 = some m.cls := findClass_of_methodNamed B.named
  have hlocks := B.notSynchronized
  subst hsz
  have hD := hD0.self (sz := s.heap.size)
  generalize hAe : va_A (wsC K ad S) s.heap.size = A at hD ⊢
  have hA : ∀ q : Nat, s.heap.size ≤ q → A q := fun q h => by rw [← hAe]; exact Or.inr h
  have hS : va_S A s.heap s.heap [] := va_S.rf
  have hl : lv_has (lg_sl ([.ref (ad x0), va_re ad a1, va_re ad a2]) ++ List.replicate (5 - (lg_sl ([.ref (ad x0), va_re ad a1, va_re ad a2])).length) Slot.unset).toArray 5 [(0, .ref (ad x0)), (1, va_re ad a1), (2, va_re ad a2)] := by
    cases a1 <;> cases a2 <;> exact lv_entry _ (n := 5) (Nat.le_of_ble_eq_true rfl)
  rw [lg_entry_eq]
  generalize (lg_sl ([.ref (ad x0), va_re ad a1, va_re ad a2]) ++ List.replicate (5 - (lg_sl ([.ref (ad x0), va_re ad a1, va_re ad a2])).length) Slot.unset).toArray = ls_ at hl ⊢
  refine wGen (fun Q hQ => ?_)
  obtain ⟨X, hX⟩ : ∃ X, f_Y8_makesTextTooLong S x0 a1 a2 = X := ⟨_, rfl⟩
  have B_Y8_makesTextTooLong_85 : ∀ (x1 : Option Nat) (x2 : Option Nat) (x3 : Int32) (x4 : Option Nat) (y0 : Int32) (H : Heap) (locs : List Loc) (ls_ : Array Slot), b_Y8_makesTextTooLong_85 S x0 x1 x2 x3 x4 y0 = X → q_Y8_makesTextTooLong_85 S x0 x1 x2 x3 x4 y0 → va_P G vwCl (wsC K ad S) H → va_D A (wsC K ad S) → va_S A s.heap H locs → lv_has ls_ 5 [(0, .ref (ad x0)), (1, va_re ad x1), (2, va_re ad x2), (3, .int x3), (4, va_re ad x4)] → W p l e ({ frames := 1, cells := 0, slots := 0, locals := 23 } : Room) s m #[Value.ref (ad x0), va_re ad a1, va_re ad a2] below meth c H locs 0 0 Q (F0 m 85 ls_ [.int y0]) := by
    intro x1 x2 x3 x4 y0 H locs ls_ hE hp hP hD hS hl
    unfold b_Y8_makesTextTooLong_85 at hE
    unfold q_Y8_makesTextTooLong_85 at hp
    obtain ⟨hy16, hp⟩ := hp
    subst hQ
    exact W.zret (v := y0) (ty := .boolean) hx hb hr hy16 (fun t ht hW => ⟨⟨y0, S, rfl, (pair_i (hE.trans hX.symm)), by rw [ht]; exact hP, hD⟩, hS.F ht⟩) hS.2.2 dX8_makesTextTooLong_85
  have B_Y8_makesTextTooLong_84 : ∀ (x1 : Option Nat) (x2 : Option Nat) (x3 : Int32) (x4 : Option Nat) (H : Heap) (locs : List Loc) (ls_ : Array Slot), b_Y8_makesTextTooLong_84 S x0 x1 x2 x3 x4 = X → q_Y8_makesTextTooLong_84 S x0 x1 x2 x3 x4 → va_P G vwCl (wsC K ad S) H → va_D A (wsC K ad S) → va_S A s.heap H locs → lv_has ls_ 5 [(0, .ref (ad x0)), (1, va_re ad x1), (2, va_re ad x2), (3, .int x3), (4, va_re ad x4)] → W p l e ({ frames := 1, cells := 0, slots := 0, locals := 23 } : Room) s m #[Value.ref (ad x0), va_re ad a1, va_re ad a2] below meth c H locs 0 0 Q (F0 m 84 ls_ []) := by
    intro x1 x2 x3 x4 H locs ls_ hE hp hP hD hS hl
    unfold b_Y8_makesTextTooLong_84 at hE
    unfold q_Y8_makesTextTooLong_84 at hp
    refine lv_iconst (v := 0) hx hb dX8_makesTextTooLong_84 (by decide) ?_
    exact B_Y8_makesTextTooLong_85 x1 x2 x3 x4 0 _ _ _ hE hp hP hD hS (lv_sub hl [0, 1, 2, 3, 4] rfl)
  have B_Y8_makesTextTooLong_74a : ∀ (x1 : Option Nat) (x2 : Option Nat) (x3 : Int32) (x4 : Option Nat) (y0 : Int32) (H : Heap) (locs : List Loc) (ls_ : Array Slot), b_Y8_makesTextTooLong_74a S x0 x1 x2 x3 x4 y0 = X → q_Y8_makesTextTooLong_74a S x0 x1 x2 x3 x4 y0 → va_P G vwCl (wsC K ad S) H → va_D A (wsC K ad S) → va_S A s.heap H locs → lv_has ls_ 5 [(0, .ref (ad x0)), (1, va_re ad x1), (2, va_re ad x2), (3, .int x3), (4, va_re ad x4)] → W p l e ({ frames := 1, cells := 0, slots := 0, locals := 23 } : Room) s m #[Value.ref (ad x0), va_re ad a1, va_re ad a2] below meth c H locs 0 0 Q (F0 m 74 ls_ [.int y0]) := by
    intro x1 x2 x3 x4 y0 H locs ls_ hE hp hP hD hS hl
    unfold b_Y8_makesTextTooLong_74a at hE
    unfold q_Y8_makesTextTooLong_74a at hp
    refine lv_sipush (v := 400) hx hb dX8_makesTextTooLong_74 (by decide) ?_
    refine lv_icmp_le (tgt := 84) hx hb dX8_makesTextTooLong_77 (by decide) (fun c25 => ?_) (fun c25 => ?_)
    · rw [if_pos c25] at hE hp
      exact B_Y8_makesTextTooLong_84 x1 x2 x3 x4 _ _ _ hE hp hP hD hS (lv_sub hl [0, 1, 2, 3, 4] rfl)
    · rw [if_neg c25] at hE hp
      refine lv_iconst (v := 1) hx hb dX8_makesTextTooLong_80 (by decide) ?_
      refine lv_goto (tgt := 85) hx hb dX8_makesTextTooLong_81 (by decide) ?_
      exact B_Y8_makesTextTooLong_85 x1 x2 x3 x4 1 _ _ _ hE hp hP hD hS (lv_sub hl [0, 1, 2, 3, 4] rfl)
  have B_Y8_makesTextTooLong_22a : ∀ (x1 : Option Nat) (x2 : Option Nat) (y0 : Int32) (H : Heap) (locs : List Loc) (ls_ : Array Slot), b_Y8_makesTextTooLong_22a S x0 x1 x2 y0 = X → q_Y8_makesTextTooLong_22a S x0 x1 x2 y0 → va_P G vwCl (wsC K ad S) H → va_D A (wsC K ad S) → va_S A s.heap H locs → lv_has ls_ 5 [(0, .ref (ad x0)), (1, va_re ad x1), (2, va_re ad x2)] → W p l e ({ frames := 1, cells := 0, slots := 0, locals := 23 } : Room) s m #[Value.ref (ad x0), va_re ad a1, va_re ad a2] below meth c H locs 0 0 Q (F0 m 22 ls_ [.int y0]) := by
    intro x1 x2 y0 H locs ls_ hE hp hP hD hS hl
    unfold b_Y8_makesTextTooLong_22a at hE
    unfold q_Y8_makesTextTooLong_22a at hp
    refine lv_istore_n (i := 3) (lv' := [(3, .int y0), (0, .ref (ad x0)), (1, va_re ad x1), (2, va_re ad x2)]) hx hb dX8_makesTextTooLong_22 rfl hl (by decide) (by simp [List.filter, re_cat]) (fun ls_ hl => ?_)
    refine lv_aload_n hx hb dX8_makesTextTooLong_23 rfl (lv_at hl 1 rfl) ?_
    refine lv_aload_n hx hb dX8_makesTextTooLong_24 rfl (lv_at hl 1 rfl) ?_
    refine va_get (D := G) (ci := 4) (v := .int (giC S x0 1)) (C := RX5) (T := TX5) (N := 2) hx hb hts iX5 hown hK hP x0 (at_4 k_x0) rfl 1 (by decide) (hw (.fieldLink RX8 117 "MotionFloor$Pile" "size" "I") (List.mem_of_getElem? (i := 8) rfl)) (fun _ h9 => h9) rfl dX8_makesTextTooLong_25 ?_
    refine lv_iconst (v := 2) hx hb dX8_makesTextTooLong_28 (by decide) ?_
    refine lv_isub hx hb dX8_makesTextTooLong_29 ?_
    obtain ⟨hy10, hp⟩ := hp
    refine cGoq (va_runV (As := [.int ((giC S x0 1) - 2)]) (rest := []) ⟨hx, hb, hml, hown, hts⟩ (c_Y5_at l G K ad S x0 ((giC S x0 1) - 2) _) (cwV 1 hts (wGV t_ (mw (.methodLink RX8 225 yX5_at) (List.mem_of_getElem? (i := 9) rfl)) (mw (.instanceMethod yX5_at) (List.mem_of_getElem? (i := 10) rfl)) (mw (.selects RX5 yX5_at yX5_at) (List.mem_of_getElem? (i := 11) rfl)) (mw (.initialized RX5) (List.mem_of_getElem? (i := 12) rfl)) j_Y5_at) rfl rfl rfl (by decide +kernel) ⟨Nat.le_of_ble_eq_true rfl, Nat.le_of_ble_eq_true rfl⟩) (cPV hK hTE hP hD 4 rfl (at_4 k_x0) ⟨k_x0, hy10⟩) rfl rfl hl.1 rfl (lv_room (Nat.le_of_ble_eq_true rfl)) dX8_makesTextTooLong_30 ⟨Nat.le_of_ble_eq_true rfl, Nat.le_of_ble_eq_true rfl⟩) hP hD hS hA (fun r12 u11 H locs hv hP hD hS => ?_)
    have h1 := congrArg Prod.fst hv
    have h2 := (congrArg Prod.snd hv).symm
    dsimp only at h1 h2
    subst h1
    subst h2
    refine cAstore (ad := ad) (r := (f_Y5_at S x0 ((giC S x0 1) - 2))) (i := 4) (lv' := [(4, va_re ad (f_Y5_at S x0 ((giC S x0 1) - 2))), (3, .int y0), (0, .ref (ad x0)), (1, va_re ad x1), (2, va_re ad x2)]) hx hb dX8_makesTextTooLong_33 hl (by decide) rfl (fun ls_ hl => ?_)
    refine lv_iload_n hx hb dX8_makesTextTooLong_35 rfl (lv_at hl 1 rfl) ?_
    refine lv_sipush (v := 400) hx hb dX8_makesTextTooLong_36 (by decide) ?_
    refine lv_icmp_le (tgt := 44) hx hb dX8_makesTextTooLong_39 (by decide) (fun c13 => ?_) (fun c13 => ?_)
    · rw [if_pos c13] at hE hp
      refine cAload_n (ad := ad) (r := x1) hx hb dX8_makesTextTooLong_44 rfl (lv_at hl 3 rfl) ?_
      obtain ⟨hy14, hp⟩ := hp
      refine cTop (r := x1) hy14.1 ?_
      refine va_get (D := G) (ci := 3) (v := .int (giC S (x1.getD 0) 2)) (C := RX4) (T := TX4) (N := 16) hx hb hts iX4 hown hK hP (x1.getD 0) (at_3 hy14.2) rfl 2 (by decide) (hw (.fieldLink RX8 128 "MotionFloor$Motion" "kind" "I") (List.mem_of_getElem? (i := 13) rfl)) (fun _ h9 => h9) rfl dX8_makesTextTooLong_45 ?_
      refine lv_iconst (v := 3) hx hb dX8_makesTextTooLong_48 (by decide) ?_
      refine lv_icmp_ne (tgt := 84) hx hb dX8_makesTextTooLong_49 (by decide) (fun c15 => ?_) (fun c15 => ?_)
      · rw [if_neg c15] at hE hp
        exact B_Y8_makesTextTooLong_84 x1 x2 y0 (f_Y5_at S x0 ((giC S x0 1) - 2)) _ _ _ hE hp hP hD hS (lv_sub hl [2, 3, 4, 1, 0] rfl)
      · rw [if_pos c15] at hE hp
        refine cAload (ad := ad) (r := (f_Y5_at S x0 ((giC S x0 1) - 2))) hx hb dX8_makesTextTooLong_52 (lv_at hl 0 rfl) ?_
        refine cIfnull (ad := ad) (r := (f_Y5_at S x0 ((giC S x0 1) - 2))) (tgt := 84) hx hb dX8_makesTextTooLong_54 (by decide) (fun c17 => ?_) (fun c17 => ?_)
        · rw [if_pos c17] at hE hp
          exact B_Y8_makesTextTooLong_84 x1 x2 y0 (f_Y5_at S x0 ((giC S x0 1) - 2)) _ _ _ hE hp hP hD hS (lv_sub hl [2, 3, 4, 1, 0] rfl)
        · rw [if_neg c17] at hE hp
          refine cAload (ad := ad) (r := (f_Y5_at S x0 ((giC S x0 1) - 2))) hx hb dX8_makesTextTooLong_57 (lv_at hl 0 rfl) ?_
          obtain ⟨hy18, hp⟩ := hp
          refine cTop (r := (f_Y5_at S x0 ((giC S x0 1) - 2))) hy18.1 ?_
          refine va_get (D := G) (ci := 3) (v := va_re ad (grC S ((f_Y5_at S x0 ((giC S x0 1) - 2)).getD 0) 12)) (C := RX4) (T := TX4) (N := 16) hx hb hts iX4 hown hK hP ((f_Y5_at S x0 ((giC S x0 1) - 2)).getD 0) (at_3 hy18.2) rfl 12 (by decide) (hw (.fieldLink RX8 159 "MotionFloor$Motion" "text" "LMotionFloor$Text;") (List.mem_of_getElem? (i := 0) rfl)) (fun _ h9 => h9) rfl dX8_makesTextTooLong_59 ?_
          refine cAload_n (ad := ad) (r := x2) hx hb dX8_makesTextTooLong_62 rfl (lv_at hl 4 rfl) ?_
          obtain ⟨hy19, hp⟩ := hp
          refine cTop (r := x2) hy19.1 ?_
          refine va_get (D := G) (ci := 3) (v := .int (giC S (x2.getD 0) 8)) (C := RX4) (T := TX4) (N := 16) hx hb hts iX4 hown hK hP (x2.getD 0) (at_3 hy19.2) rfl 8 (by decide) (hw (.fieldLink RX8 218 "MotionFloor$Motion" "from" "I") (List.mem_of_getElem? (i := 1) rfl)) (fun _ h9 => h9) rfl dX8_makesTextTooLong_63 ?_
          refine cAload_n (ad := ad) (r := x2) hx hb dX8_makesTextTooLong_66 rfl (lv_at hl 4 rfl) ?_
          obtain ⟨hy20, hp⟩ := hp
          refine cTop (r := x2) hy20.1 ?_
          refine va_get (D := G) (ci := 3) (v := .int (giC S (x2.getD 0) 9)) (C := RX4) (T := TX4) (N := 16) hx hb hts iX4 hown hK hP (x2.getD 0) (at_3 hy20.2) rfl 9 (by decide) (hw (.fieldLink RX8 177 "MotionFloor$Motion" "to" "I") (List.mem_of_getElem? (i := 2) rfl)) (fun _ h9 => h9) rfl dX8_makesTextTooLong_67 ?_
          refine lv_iload_n hx hb dX8_makesTextTooLong_70 rfl (lv_at hl 1 rfl) ?_
          obtain ⟨hy21, hp⟩ := hp
          refine cTop4 (r := (grC S ((f_Y5_at S x0 ((giC S x0 1) - 2)).getD 0) 12)) hy21.1 ?_
          obtain ⟨hy22, hp⟩ := hp
          refine cGoi (va_runV (As := [.int (giC S (x2.getD 0) 8), .int (giC S (x2.getD 0) 9), .int y0]) (rest := []) ⟨hx, hb, hml, hown, hts⟩ (c_Y9_sizeWith l G K ad S ((grC S ((f_Y5_at S x0 ((giC S x0 1) - 2)).getD 0) 12).getD 0) (giC S (x2.getD 0) 8) (giC S (x2.getD 0) 9) y0 _) (cwV 3 hts (wGV t_ (mw (.methodLink RX8 221 yX9_sizeWith) (List.mem_of_getElem? (i := 4) rfl)) (mw (.instanceMethod yX9_sizeWith) (List.mem_of_getElem? (i := 5) rfl)) (mw (.selects RX9 yX9_sizeWith yX9_sizeWith) (List.mem_of_getElem? (i := 6) rfl)) (mw (.initialized RX9) (List.mem_of_getElem? (i := 7) rfl)) j_Y9_sizeWith) rfl rfl rfl (by decide +kernel) ⟨Nat.le_of_ble_eq_true rfl, Nat.le_of_ble_eq_true rfl⟩) (cPV hK hTE hP hD 6 rfl (at_6 hy21.2) ⟨hy21.2, hy22⟩) rfl rfl hl.1 rfl (lv_room (Nat.le_of_ble_eq_true rfl)) dX8_makesTextTooLong_71 ⟨Nat.le_of_ble_eq_true rfl, Nat.le_of_ble_eq_true rfl⟩) hP hD hS hA (fun r24 u23 H locs hv hP hD hS => ?_)
          have h1 := congrArg Prod.fst hv
          have h2 := (congrArg Prod.snd hv).symm
          dsimp only at h1 h2
          subst h1
          subst h2
          exact B_Y8_makesTextTooLong_74a x1 x2 y0 (f_Y5_at S x0 ((giC S x0 1) - 2)) (f_Y9_sizeWith S ((grC S ((f_Y5_at S x0 ((giC S x0 1) - 2)).getD 0) 12).getD 0) (giC S (x2.getD 0) 8) (giC S (x2.getD 0) 9) y0) _ _ _ hE hp hP hD hS (lv_sub hl [2, 3, 4, 1, 0] rfl)
    · rw [if_neg c13] at hE hp
      refine lv_iconst (v := 1) hx hb dX8_makesTextTooLong_42 (by decide) ?_
      subst hQ
      exact W.zret (v := (1 : Int32)) (ty := .boolean) hx hb hr rfl (fun t ht hW => ⟨⟨(1 : Int32), S, rfl, (pair_i (hE.trans hX.symm)), by rw [ht]; exact hP, hD⟩, hS.F ht⟩) hS.2.2 dX8_makesTextTooLong_43
  have B_M : ∀ (x1 : Option Nat) (x2 : Option Nat) (H : Heap) (locs : List Loc) (ls_ : Array Slot), f_Y8_makesTextTooLong S x0 x1 x2 = X → p_Y8_makesTextTooLong S x0 x1 x2 → va_P G vwCl (wsC K ad S) H → va_D A (wsC K ad S) → va_S A s.heap H locs → lv_has ls_ 5 [(0, .ref (ad x0)), (1, va_re ad x1), (2, va_re ad x2)] → W p l e ({ frames := 1, cells := 0, slots := 0, locals := 23 } : Room) s m #[Value.ref (ad x0), va_re ad a1, va_re ad a2] below meth c H locs 0 0 Q (F0 m 0 ls_ []) := by
    intro x1 x2 H locs ls_ hE hp hP hD hS hl
    unfold f_Y8_makesTextTooLong at hE
    unfold p_Y8_makesTextTooLong at hp
    refine cAload_n (ad := ad) (r := x2) hx hb dX8_makesTextTooLong_0 rfl (lv_at hl 2 rfl) ?_
    obtain ⟨hy1, hp⟩ := hp
    refine cTop (r := x2) hy1.1 ?_
    refine va_get (D := G) (ci := 3) (v := va_re ad (grC S (x2.getD 0) 12)) (C := RX4) (T := TX4) (N := 16) hx hb hts iX4 hown hK hP (x2.getD 0) (at_3 hy1.2) rfl 12 (by decide) (hw (.fieldLink RX8 159 "MotionFloor$Motion" "text" "LMotionFloor$Text;") (List.mem_of_getElem? (i := 0) rfl)) (fun _ h9 => h9) rfl dX8_makesTextTooLong_1 ?_
    refine cAload_n (ad := ad) (r := x1) hx hb dX8_makesTextTooLong_4 rfl (lv_at hl 1 rfl) ?_
    obtain ⟨hy2, hp⟩ := hp
    refine cTop (r := x1) hy2.1 ?_
    refine va_get (D := G) (ci := 3) (v := .int (giC S (x1.getD 0) 8)) (C := RX4) (T := TX4) (N := 16) hx hb hts iX4 hown hK hP (x1.getD 0) (at_3 hy2.2) rfl 8 (by decide) (hw (.fieldLink RX8 218 "MotionFloor$Motion" "from" "I") (List.mem_of_getElem? (i := 1) rfl)) (fun _ h9 => h9) rfl dX8_makesTextTooLong_5 ?_
    refine cAload_n (ad := ad) (r := x1) hx hb dX8_makesTextTooLong_8 rfl (lv_at hl 1 rfl) ?_
    obtain ⟨hy3, hp⟩ := hp
    refine cTop (r := x1) hy3.1 ?_
    refine va_get (D := G) (ci := 3) (v := .int (giC S (x1.getD 0) 9)) (C := RX4) (T := TX4) (N := 16) hx hb hts iX4 hown hK hP (x1.getD 0) (at_3 hy3.2) rfl 9 (by decide) (hw (.fieldLink RX8 177 "MotionFloor$Motion" "to" "I") (List.mem_of_getElem? (i := 2) rfl)) (fun _ h9 => h9) rfl dX8_makesTextTooLong_9 ?_
    refine cAload_n (ad := ad) (r := x1) hx hb dX8_makesTextTooLong_12 rfl (lv_at hl 1 rfl) ?_
    obtain ⟨hy4, hp⟩ := hp
    refine cTop (r := x1) hy4.1 ?_
    refine va_get (D := G) (ci := 3) (v := va_re ad (grC S (x1.getD 0) 12)) (C := RX4) (T := TX4) (N := 16) hx hb hts iX4 hown hK hP (x1.getD 0) (at_3 hy4.2) rfl 12 (by decide) (hw (.fieldLink RX8 159 "MotionFloor$Motion" "text" "LMotionFloor$Text;") (List.mem_of_getElem? (i := 0) rfl)) (fun _ h9 => h9) rfl dX8_makesTextTooLong_13 ?_
    obtain ⟨hy5, hp⟩ := hp
    refine cTop (r := (grC S (x1.getD 0) 12)) hy5.1 ?_
    refine va_get (D := G) (ci := 6) (v := .int (giC S ((grC S (x1.getD 0) 12).getD 0) 1)) (C := RX9) (T := TX9) (N := 2) hx hb hts iX9 hown hK hP ((grC S (x1.getD 0) 12).getD 0) (at_6 hy5.2) rfl 1 (by decide) (hw (.fieldLink RX8 163 "MotionFloor$Text" "size" "I") (List.mem_of_getElem? (i := 3) rfl)) (fun _ h9 => h9) rfl dX8_makesTextTooLong_16 ?_
    obtain ⟨hy6, hp⟩ := hp
    refine cTop4 (r := (grC S (x2.getD 0) 12)) hy6.1 ?_
    obtain ⟨hy7, hp⟩ := hp
    refine cGoi (va_runV (As := [.int (giC S (x1.getD 0) 8), .int (giC S (x1.getD 0) 9), .int (giC S ((grC S (x1.getD 0) 12).getD 0) 1)]) (rest := []) ⟨hx, hb, hml, hown, hts⟩ (c_Y9_sizeWith l G K ad S ((grC S (x2.getD 0) 12).getD 0) (giC S (x1.getD 0) 8) (giC S (x1.getD 0) 9) (giC S ((grC S (x1.getD 0) 12).getD 0) 1) _) (cwV 3 hts (wGV t_ (mw (.methodLink RX8 221 yX9_sizeWith) (List.mem_of_getElem? (i := 4) rfl)) (mw (.instanceMethod yX9_sizeWith) (List.mem_of_getElem? (i := 5) rfl)) (mw (.selects RX9 yX9_sizeWith yX9_sizeWith) (List.mem_of_getElem? (i := 6) rfl)) (mw (.initialized RX9) (List.mem_of_getElem? (i := 7) rfl)) j_Y9_sizeWith) rfl rfl rfl (by decide +kernel) ⟨Nat.le_of_ble_eq_true rfl, Nat.le_of_ble_eq_true rfl⟩) (cPV hK hTE hP hD 6 rfl (at_6 hy6.2) ⟨hy6.2, hy7⟩) rfl rfl hl.1 rfl (lv_room (Nat.le_of_ble_eq_true rfl)) dX8_makesTextTooLong_19 ⟨Nat.le_of_ble_eq_true rfl, Nat.le_of_ble_eq_true rfl⟩) hP hD hS hA (fun r9 u8 H locs hv hP hD hS => ?_)
    have h1 := congrArg Prod.fst hv
    have h2 := (congrArg Prod.snd hv).symm
    dsimp only at h1 h2
    subst h1
    subst h2
    exact B_Y8_makesTextTooLong_22a x1 x2 (f_Y9_sizeWith S ((grC S (x2.getD 0) 12).getD 0) (giC S (x1.getD 0) 8) (giC S (x1.getD 0) 9) (giC S ((grC S (x1.getD 0) 12).getD 0) 1)) _ _ _ hE hp hP hD hS (lv_sub hl [0, 1, 2] rfl)
  exact B_M a1 a2 _ _ _ hX hp hP hD hS hl
