theorem gdX8_lacksRoom_12 : ckS (List.drop 12 cX8_lacksRoom.data.toList) 12 [(12, .iconst 1, 1), (13, .ireturn, 1), (21, .aload_n 0, 1), (22, .invokevirtual 180, 3), (25, .ifCond .ne 7, 3), (28, .iconst 1, 1), (29, .goto 4, 3), (32, .iconst 0, 1), (33, .ireturn, 1), (54, .ifCond .eq 7, 3), (57, .iconst 1, 1), (58, .goto 4, 3)] = true := by decide +kernel
theorem dX8_lacksRoom_12 : decode cX8_lacksRoom 12 = .ok (.iconst 1, 1) := ckS_g gdX8_lacksRoom_12 0 rfl
theorem dX8_lacksRoom_13 : decode cX8_lacksRoom 13 = .ok (.ireturn, 1) := ckS_g gdX8_lacksRoom_12 1 rfl
theorem dX8_lacksRoom_21 : decode cX8_lacksRoom 21 = .ok (.aload_n 0, 1) := ckS_g gdX8_lacksRoom_12 2 rfl
theorem dX8_lacksRoom_22 : decode cX8_lacksRoom 22 = .ok (.invokevirtual 180, 3) := ckS_g gdX8_lacksRoom_12 3 rfl
theorem dX8_lacksRoom_25 : decode cX8_lacksRoom 25 = .ok (.ifCond .ne 7, 3) := ckS_g gdX8_lacksRoom_12 4 rfl
theorem dX8_lacksRoom_28 : decode cX8_lacksRoom 28 = .ok (.iconst 1, 1) := ckS_g gdX8_lacksRoom_12 5 rfl
theorem dX8_lacksRoom_29 : decode cX8_lacksRoom 29 = .ok (.goto 4, 3) := ckS_g gdX8_lacksRoom_12 6 rfl
theorem dX8_lacksRoom_32 : decode cX8_lacksRoom 32 = .ok (.iconst 0, 1) := ckS_g gdX8_lacksRoom_12 7 rfl
theorem dX8_lacksRoom_33 : decode cX8_lacksRoom 33 = .ok (.ireturn, 1) := ckS_g gdX8_lacksRoom_12 8 rfl
theorem dX8_lacksRoom_54 : decode cX8_lacksRoom 54 = .ok (.ifCond .eq 7, 3) := ckS_g gdX8_lacksRoom_12 9 rfl
theorem dX8_lacksRoom_57 : decode cX8_lacksRoom 57 = .ok (.iconst 1, 1) := ckS_g gdX8_lacksRoom_12 10 rfl
theorem dX8_lacksRoom_58 : decode cX8_lacksRoom 58 = .ok (.goto 4, 3) := ckS_g gdX8_lacksRoom_12 11 rfl
set_option maxRecDepth 100000 in
theorem zc398 : wZ (.selects RX0 yX0_freePlaces yX0_freePlaces) := ⟨wT2 (List.mem_of_getElem? (i := 128) (by decide +kernel)), Or.inl rfl⟩
set_option maxRecDepth 100000 in
theorem zc399 : wZ (.instanceMethod yX0_freePlaces) := ⟨wT2 (List.mem_of_getElem? (i := 127) (by decide +kernel)), Or.inl rfl⟩
set_option maxRecDepth 100000 in
theorem zc400 : wZ (.methodLink RX8 180 yX0_freePlaces) := ⟨wT2 (List.mem_of_getElem? (i := 126) (by decide +kernel)), Or.inl rfl⟩
set_option maxRecDepth 100000 in
theorem zc401 : wZ (.static yX8_makesTextTooLong) := ⟨wT2 (List.mem_of_getElem? (i := 168) (by decide +kernel)), Or.inl rfl⟩
set_option maxRecDepth 100000 in
theorem zc402 : wZ (.methodLink RX8 215 yX8_makesTextTooLong) := ⟨wT2 (List.mem_of_getElem? (i := 167) (by decide +kernel)), Or.inl rfl⟩
set_option maxRecDepth 100000 in
theorem zc403 : wZ (.methodLink RX8 214 yX4_needsPlace) := ⟨wT2 (List.mem_of_getElem? (i := 166) (by decide +kernel)), Or.inl rfl⟩
set_option maxRecDepth 100000 in
theorem zc404 : wZ (.code yX8_lacksRoom cX8_lacksRoom 3 (some .boolean)) := ⟨wT2 (List.mem_of_getElem? (i := 165) rfl), Or.inl rfl⟩
def b_Y8_lacksRoom_62 (S : Cst) (x0 : Nat) (x1 : Option Nat) (x2 : Option Nat) (y0 : Int32) : Int32 := y0
def q_Y8_lacksRoom_62 (S : Cst) (x0 : Nat) (x1 : Option Nat) (x2 : Option Nat) (y0 : Int32) : Prop := (narrow .boolean (.int y0) = .int y0) ∧ True
def b_Y8_lacksRoom_61 (S : Cst) (x0 : Nat) (x1 : Option Nat) (x2 : Option Nat) : Int32 := (b_Y8_lacksRoom_62 S x0 x1 x2 0)
def q_Y8_lacksRoom_61 (S : Cst) (x0 : Nat) (x1 : Option Nat) (x2 : Option Nat) : Prop := (q_Y8_lacksRoom_62 S x0 x1 x2 0)
def b_Y8_lacksRoom_33 (S : Cst) (x0 : Nat) (x1 : Option Nat) (x2 : Option Nat) (y0 : Int32) : Int32 := y0
def q_Y8_lacksRoom_33 (S : Cst) (x0 : Nat) (x1 : Option Nat) (x2 : Option Nat) (y0 : Int32) : Prop := (narrow .boolean (.int y0) = .int y0) ∧ True
def f_Y8_lacksRoom (S : Cst) (x0 : Nat) (x1 : Option Nat) (x2 : Option Nat) : Int32 := if (giC S ((grC S x0 1).getD 0) 1) < 9 then if (f_Y4_needsPlace S (x1.getD 0)) = 0 then if (f_Y4_amends S (x1.getD 0)) = 0 then (b_Y8_lacksRoom_61 S x0 x1 x2) else if x2 = none then (b_Y8_lacksRoom_61 S x0 x1 x2) else if (f_Y8_makesTextTooLong S ((grC S x0 1).getD 0) x1 x2) = 0 then (b_Y8_lacksRoom_61 S x0 x1 x2) else (b_Y8_lacksRoom_62 S x0 x1 x2 1) else if (f_Y0_freePlaces S x0) = 0 then (b_Y8_lacksRoom_33 S x0 x1 x2 1) else (b_Y8_lacksRoom_33 S x0 x1 x2 0) else (1 : Int32)
def p_Y8_lacksRoom (S : Cst) (x0 : Nat) (x1 : Option Nat) (x2 : Option Nat) : Prop := (iR S (grC S x0 1) 4) ∧ (if (giC S ((grC S x0 1).getD 0) 1) < 9 then (iR S x1 3) ∧ (p_Y4_needsPlace S (x1.getD 0)) ∧ (if (f_Y4_needsPlace S (x1.getD 0)) = 0 then (iR S x1 3) ∧ (p_Y4_amends S (x1.getD 0)) ∧ (if (f_Y4_amends S (x1.getD 0)) = 0 then (q_Y8_lacksRoom_61 S x0 x1 x2) else (if x2 = none then (q_Y8_lacksRoom_61 S x0 x1 x2) else (iR S (grC S x0 1) 4) ∧ (p_Y8_makesTextTooLong S ((grC S x0 1).getD 0) x1 x2) ∧ (if (f_Y8_makesTextTooLong S ((grC S x0 1).getD 0) x1 x2) = 0 then (q_Y8_lacksRoom_61 S x0 x1 x2) else (q_Y8_lacksRoom_62 S x0 x1 x2 1)))) else (p_Y0_freePlaces S x0) ∧ (if (f_Y0_freePlaces S x0) = 0 then (q_Y8_lacksRoom_33 S x0 x1 x2 1) else (q_Y8_lacksRoom_33 S x0 x1 x2 0))) else True)
def e_Y8_lacksRoom : List Cond := [.fieldLink RX8 86 "MotionFloor$Assembly" "pending" "LMotionFloor$Pile;", .fieldLink RX8 117 "MotionFloor$Pile" "size" "I", .methodLink RX8 214 yX4_needsPlace, .instanceMethod yX4_needsPlace, .selects RX4 yX4_needsPlace yX4_needsPlace, .initialized RX4, .methodLink RX8 150 yX4_amends, .instanceMethod yX4_amends, .selects RX4 yX4_amends yX4_amends, .methodLink RX8 215 yX8_makesTextTooLong, .static yX8_makesTextTooLong, .initialized RX8, .methodLink RX8 180 yX0_freePlaces, .instanceMethod yX0_freePlaces, .selects RX0 yX0_freePlaces yX0_freePlaces, .initialized RX0]
def v_Y8_lacksRoom : List Cond := .code yX8_lacksRoom cX8_lacksRoom 3 (some .boolean) :: (e_Y8_lacksRoom ++ (wsX00 ++ (wsX50 ++ (v_Y4_needsPlace ++ (v_Y4_amends ++ (v_Y8_makesTextTooLong ++ (v_Y0_freePlaces ++ [])))))))
theorem te_Y8_lacksRoom : GoodIn lw_tbl e_Y8_lacksRoom := wGc zc380 (wGc zc379 (wGc zc403 (wGc zc290 (wGc zc289 (wGc zc170 (wGc zc389 (wGc zc172 (wGc zc171 (wGc zc402 (wGc zc401 (wGc zc373 (wGc zc400 (wGc zc399 (wGc zc398 (wGc zc39 (wG0))))))))))))))))
theorem t_Y8_lacksRoom : GoodIn lw_tbl v_Y8_lacksRoom := wGc zc404 (wGa te_Y8_lacksRoom (wGa zcX0 (wGa zcX5 (wGa t_Y4_needsPlace (wGa t_Y4_amends (wGa t_Y8_makesTextTooLong (wGa t_Y0_freePlaces (wG0))))))))
set_option maxHeartbeats 4000000 in
set_option maxRecDepth 100000 in
theorem c_Y8_lacksRoom (l : Launch) (G : va_G) (K : Nat → ClassId) (ad : Nat → Nat) (S : Cst) (x0 : Nat) (a1 : Option Nat) (a2 : Option Nat) (sz : Nat) : Met l yX8_lacksRoom v_Y8_lacksRoom ({ frames := 2, cells := 0, slots := 0, locals := 47 }) (va_Pc [.ref (ad x0), va_re ad a1, va_re ad a2] (cSt G K ad sz S (iK S x0 0 ∧ p_Y8_lacksRoom S x0 a1 a2))) (va_Qi (fun (r : Int32) (u : Cst) => (r, u) = (f_Y8_lacksRoom S x0 a1 a2, S)) (cBt G K ad (va_A (wsC K ad S) sz)) (va_A (wsC K ad S) sz)) 0 0 (va_A (wsC K ad S) sz) := by
  refine Met.ofW (cc := cX8_lacksRoom) (maxL := 3) (ret := (some .boolean)) (by decide) rfl ?_
  intro p e s m args below meth c s₁ B hml hv
  obtain ⟨rfl, ⟨hsz, hP, hK, hD0, hTE⟩, hp⟩ := hv
  obtain ⟨k_x0, hp⟩ := hp
  have hx := B.exec
  have hb := B.bytes
  have hr := B.returns
  have hts := atoms_spec (ws := v_Y8_lacksRoom) B.pre
  have t_ := t_Y8_lacksRoom
  have mw : ∀ w ∈ e_Y8_lacksRoom, w ∈ v_Y8_lacksRoom := fun w h => List.mem_cons_of_mem _ (List.mem_append_left _ h)
  have hw := fun w (h : w ∈ e_Y8_lacksRoom) => hts w (mw w h)
  have iX0 : ∀ w ∈ wsX00, w ∈ v_Y8_lacksRoom := fun w h => List.mem_cons_of_mem _ (List.mem_append_right _ (List.mem_append_left _ h))
  have iX5 : ∀ w ∈ wsX50, w ∈ v_Y8_lacksRoom := fun w h => List.mem_cons_of_mem _ (List.mem_append_right _ (List.mem_append_right _ (List.mem_append_left _ h)))
  have j_Y4_needsPlace : ∀ w ∈ v_Y4_needsPlace, w ∈ v_Y8_lacksRoom := fun w h => List.mem_cons_of_mem _ (List.mem_append_right _ (List.mem_append_right _ (List.mem_append_right _ (List.mem_append_left _ h))))
  have j_Y4_amends : ∀ w ∈ v_Y4_amends, w ∈ v_Y8_lacksRoom := fun w h => List.mem_cons_of_mem _ (List.mem_append_right _ (List.mem_append_right _ (List.mem_append_right _ (List.mem_append_right _ (List.mem_append_left _ h)))))
  have j_Y8_makesTextTooLong : ∀ w ∈ v_Y8_makesTextTooLong, w ∈ v_Y8_lacksRoom := fun w h => List.mem_cons_of_mem _ (List.mem_append_right _ (List.mem_append_right _ (List.mem_append_right _ (List.mem_append_right _ (List.mem_append_right _ (List.mem_append_left _ h))))))
  have j_Y0_freePlaces : ∀ w ∈ v_Y0_freePlaces, w ∈ v_Y8_lacksRoom := fun w h => List.mem_cons_of_mem _ (List.mem_append_right _ (List.mem_append_right _ (List.mem_append_right _ (List.mem_append_right _ (List.mem_append_right _ (List.mem_append_right _ (List.mem_append_left _ h)))))))
  have hown : s.vm.findClass RX8 = some m.cls := findClass_of_methodNamed B.named
  have hlocks := B.notSynchronized
  subst hsz
  have hD := hD0.self (sz := s.heap.size)
  generalize hAe : va_A (wsC K ad S) s.heap.size = A at hD ⊢
  have hA : ∀ q : Nat, s.heap.size ≤ q → A q := fun q h => by rw [← hAe]; exact Or.inr h
  have hS : va_S A s.heap s.heap [] := va_S.rf
  have hl : lv_has (lg_sl ([.ref (ad x0), va_re ad a1, va_re ad a2]) ++ List.replicate (3 - (lg_sl ([.ref (ad x0), va_re ad a1, va_re ad a2])).length) Slot.unset).toArray 3 [(0, .ref (ad x0)), (1, va_re ad a1), (2, va_re ad a2)] := by
    cases a1 <;> cases a2 <;> exact lv_entry _ (n := 3) (Nat.le_of_ble_eq_true rfl)
  rw [lg_entry_eq]
  generalize (lg_sl ([.ref (ad x0), va_re ad a1, va_re ad a2]) ++ List.replicate (3 - (lg_sl ([.ref (ad x0), va_re ad a1, va_re ad a2])).length) Slot.unset).toArray = ls_ at hl ⊢
  refine wGen (fun Q hQ => ?_)
  obtain ⟨X, hX⟩ : ∃ X, f_Y8_lacksRoom S x0 a1 a2 = X := ⟨_, rfl⟩
  have B_Y8_lacksRoom_62 : ∀ (x1 : Option Nat) (x2 : Option Nat) (y0 : Int32) (H : Heap) (locs : List Loc) (ls_ : Array Slot), b_Y8_lacksRoom_62 S x0 x1 x2 y0 = X → q_Y8_lacksRoom_62 S x0 x1 x2 y0 → va_P G vwCl (wsC K ad S) H → va_D A (wsC K ad S) → va_S A s.heap H locs → lv_has ls_ 3 [(0, .ref (ad x0)), (1, va_re ad x1), (2, va_re ad x2)] → W p l e ({ frames := 2, cells := 0, slots := 0, locals := 47 } : Room) s m #[Value.ref (ad x0), va_re ad a1, va_re ad a2] below meth c H locs 0 0 Q (F0 m 62 ls_ [.int y0]) := by
    intro x1 x2 y0 H locs ls_ hE hp hP hD hS hl
    unfold b_Y8_lacksRoom_62 at hE
    unfold q_Y8_lacksRoom_62 at hp
    obtain ⟨hy13, hp⟩ := hp
    subst hQ
    exact W.zret (v := y0) (ty := .boolean) hx hb hr hy13 (fun t ht hW => ⟨⟨y0, S, rfl, (pair_i (hE.trans hX.symm)), by rw [ht]; exact hP, hD⟩, hS.F ht⟩) hS.2.2 dX8_lacksRoom_62
  have B_Y8_lacksRoom_61 : ∀ (x1 : Option Nat) (x2 : Option Nat) (H : Heap) (locs : List Loc) (ls_ : Array Slot), b_Y8_lacksRoom_61 S x0 x1 x2 = X → q_Y8_lacksRoom_61 S x0 x1 x2 → va_P G vwCl (wsC K ad S) H → va_D A (wsC K ad S) → va_S A s.heap H locs → lv_has ls_ 3 [(0, .ref (ad x0)), (1, va_re ad x1), (2, va_re ad x2)] → W p l e ({ frames := 2, cells := 0, slots := 0, locals := 47 } : Room) s m #[Value.ref (ad x0), va_re ad a1, va_re ad a2] below meth c H locs 0 0 Q (F0 m 61 ls_ []) := by
    intro x1 x2 H locs ls_ hE hp hP hD hS hl
    unfold b_Y8_lacksRoom_61 at hE
    unfold q_Y8_lacksRoom_61 at hp
    refine lv_iconst (v := 0) hx hb dX8_lacksRoom_61 (by decide) ?_
    exact B_Y8_lacksRoom_62 x1 x2 0 _ _ _ hE hp hP hD hS (lv_sub hl [0, 1, 2] rfl)
  have B_Y8_lacksRoom_33 : ∀ (x1 : Option Nat) (x2 : Option Nat) (y0 : Int32) (H : Heap) (locs : List Loc) (ls_ : Array Slot), b_Y8_lacksRoom_33 S x0 x1 x2 y0 = X → q_Y8_lacksRoom_33 S x0 x1 x2 y0 → va_P G vwCl (wsC K ad S) H → va_D A (wsC K ad S) → va_S A s.heap H locs → lv_has ls_ 3 [(0, .ref (ad x0)), (1, va_re ad x1), (2, va_re ad x2)] → W p l e ({ frames := 2, cells := 0, slots := 0, locals := 47 } : Room) s m #[Value.ref (ad x0), va_re ad a1, va_re ad a2] below meth c H locs 0 0 Q (F0 m 33 ls_ [.int y0]) := by
    intro x1 x2 y0 H locs ls_ hE hp hP hD hS hl
    unfold b_Y8_lacksRoom_33 at hE
    unfold q_Y8_lacksRoom_33 at hp
    obtain ⟨hy24, hp⟩ := hp
    subst hQ
    exact W.zret (v := y0) (ty := .boolean) hx hb hr hy24 (fun t ht hW => ⟨⟨y0, S, rfl, (pair_i (hE.trans hX.symm)), by rw [ht]; exact hP, hD⟩, hS.F ht⟩) hS.2.2 dX8_lacksRoom_33
  have B_M : ∀ (x1 : Option Nat) (x2 : Option Nat) (H : Heap) (locs : List Loc) (ls_ : Array Slot), f_Y8_lacksRoom S x0 x1 x2 = X → p_Y8_lacksRoom S x0 x1 x2 → va_P G vwCl (wsC K ad S) H → va_D A (wsC K ad S) → va_S A s.heap H locs → lv_has ls_ 3 [(0, .ref (ad x0)), (1, va_re ad x1), (2, va_re ad x2)] → W p l e ({ frames := 2, cells := 0, slots := 0, locals := 47 } : Room) s m #[Value.ref (ad x0), va_re ad a1, va_re ad a2] below meth c H locs 0 0 Q (F0 m 0 ls_ []) := by
    intro x1 x2 H locs ls_ hE hp hP hD hS hl
    unfold f_Y8_lacksRoom at hE
    unfold p_Y8_lacksRoom at hp
    refine lv_aload_n hx hb dX8_lacksRoom_0 rfl (lv_at hl 0 rfl) ?_
    refine va_get (D := G) (ci := 0) (v := va_re ad (grC S x0 1)) (C := RX0) (T := TX0) (N := 11) hx hb hts iX0 hown hK hP x0 (at_0 k_x0) rfl 1 (by decide) (hw (.fieldLink RX8 86 "MotionFloor$Assembly" "pending" "LMotionFloor$Pile;") (List.mem_of_getElem? (i := 0) rfl)) (fun _ h9 => h9) rfl dX8_lacksRoom_1 ?_
    obtain ⟨hy1, hp⟩ := hp
    refine cTop (r := (grC S x0 1)) hy1.1 ?_
    refine va_get (D := G) (ci := 4) (v := .int (giC S ((grC S x0 1).getD 0) 1)) (C := RX5) (T := TX5) (N := 2) hx hb hts iX5 hown hK hP ((grC S x0 1).getD 0) (at_4 hy1.2) rfl 1 (by decide) (hw (.fieldLink RX8 117 "MotionFloor$Pile" "size" "I") (List.mem_of_getElem? (i := 1) rfl)) (fun _ h9 => h9) rfl dX8_lacksRoom_4 ?_
    refine lv_bipush (v := 9) hx hb dX8_lacksRoom_7 (by decide) ?_
    refine lv_icmp_lt (tgt := 14) hx hb dX8_lacksRoom_9 (by decide) (fun c2 => ?_) (fun c2 => ?_)
    · rw [if_pos c2] at hE hp
      refine cAload_n (ad := ad) (r := x1) hx hb dX8_lacksRoom_14 rfl (lv_at hl 1 rfl) ?_
      obtain ⟨hy3, hp⟩ := hp
      refine cTop (r := x1) hy3.1 ?_
      obtain ⟨hy4, hp⟩ := hp
      refine cGoi (va_runV (As := []) (rest := []) ⟨hx, hb, hml, hown, hts⟩ (c_Y4_needsPlace l G K ad S (x1.getD 0) _) (cwV 0 hts (wGV t_ (mw (.methodLink RX8 214 yX4_needsPlace) (List.mem_of_getElem? (i := 2) rfl)) (mw (.instanceMethod yX4_needsPlace) (List.mem_of_getElem? (i := 3) rfl)) (mw (.selects RX4 yX4_needsPlace yX4_needsPlace) (List.mem_of_getElem? (i := 4) rfl)) (mw (.initialized RX4) (List.mem_of_getElem? (i := 5) rfl)) j_Y4_needsPlace) rfl rfl rfl (by decide +kernel) ⟨Nat.le_of_ble_eq_true rfl, Nat.le_of_ble_eq_true rfl⟩) (cPV hK hTE hP hD 3 rfl (at_3 hy3.2) ⟨hy3.2, hy4⟩) rfl rfl hl.1 rfl (lv_room (Nat.le_of_ble_eq_true rfl)) dX8_lacksRoom_15 ⟨Nat.le_of_ble_eq_true rfl, Nat.le_of_ble_eq_true rfl⟩) hP hD hS hA (fun r6 u5 H locs hv hP hD hS => ?_)
      have h1 := congrArg Prod.fst hv
      have h2 := (congrArg Prod.snd hv).symm
      dsimp only at h1 h2
      subst h1
      subst h2
      refine lv_if_eq (tgt := 34) hx hb dX8_lacksRoom_18 (by decide) (fun c7 => ?_) (fun c7 => ?_)
      · rw [if_pos c7] at hE hp
        refine cAload_n (ad := ad) (r := x1) hx hb dX8_lacksRoom_34 rfl (lv_at hl 1 rfl) ?_
        obtain ⟨hy8, hp⟩ := hp
        refine cTop (r := x1) hy8.1 ?_
        obtain ⟨hy9, hp⟩ := hp
        refine cGoi (va_runV (As := []) (rest := []) ⟨hx, hb, hml, hown, hts⟩ (c_Y4_amends l G K ad S (x1.getD 0) _) (cwV 0 hts (wGV t_ (mw (.methodLink RX8 150 yX4_amends) (List.mem_of_getElem? (i := 6) rfl)) (mw (.instanceMethod yX4_amends) (List.mem_of_getElem? (i := 7) rfl)) (mw (.selects RX4 yX4_amends yX4_amends) (List.mem_of_getElem? (i := 8) rfl)) (mw (.initialized RX4) (List.mem_of_getElem? (i := 5) rfl)) j_Y4_amends) rfl rfl rfl (by decide +kernel) ⟨Nat.le_of_ble_eq_true rfl, Nat.le_of_ble_eq_true rfl⟩) (cPV hK hTE hP hD 3 rfl (at_3 hy8.2) ⟨hy8.2, hy9⟩) rfl rfl hl.1 rfl (lv_room (Nat.le_of_ble_eq_true rfl)) dX8_lacksRoom_35 ⟨Nat.le_of_ble_eq_true rfl, Nat.le_of_ble_eq_true rfl⟩) hP hD hS hA (fun r11 u10 H locs hv hP hD hS => ?_)
        have h1 := congrArg Prod.fst hv
        have h2 := (congrArg Prod.snd hv).symm
        dsimp only at h1 h2
        subst h1
        subst h2
        refine lv_if_eq (tgt := 61) hx hb dX8_lacksRoom_38 (by decide) (fun c12 => ?_) (fun c12 => ?_)
        · rw [if_pos c12] at hE hp
          exact B_Y8_lacksRoom_61 x1 x2 _ _ _ hE hp hP hD hS (lv_sub hl [0, 1, 2] rfl)
        · rw [if_neg c12] at hE hp
          refine cAload_n (ad := ad) (r := x2) hx hb dX8_lacksRoom_41 rfl (lv_at hl 2 rfl) ?_
          refine cIfnull (ad := ad) (r := x2) (tgt := 61) hx hb dX8_lacksRoom_42 (by decide) (fun c14 => ?_) (fun c14 => ?_)
          · rw [if_pos c14] at hE hp
            exact B_Y8_lacksRoom_61 x1 x2 _ _ _ hE hp hP hD hS (lv_sub hl [0, 1, 2] rfl)
          · rw [if_neg c14] at hE hp
            refine lv_aload_n hx hb dX8_lacksRoom_45 rfl (lv_at hl 0 rfl) ?_
            refine va_get (D := G) (ci := 0) (v := va_re ad (grC S x0 1)) (C := RX0) (T := TX0) (N := 11) hx hb hts iX0 hown hK hP x0 (at_0 k_x0) rfl 1 (by decide) (hw (.fieldLink RX8 86 "MotionFloor$Assembly" "pending" "LMotionFloor$Pile;") (List.mem_of_getElem? (i := 0) rfl)) (fun _ h9 => h9) rfl dX8_lacksRoom_46 ?_
            refine cAload_n (ad := ad) (r := x1) hx hb dX8_lacksRoom_49 rfl (lv_at hl 1 rfl) ?_
            refine cAload_n (ad := ad) (r := x2) hx hb dX8_lacksRoom_50 rfl (lv_at hl 2 rfl) ?_
            obtain ⟨hy15, hp⟩ := hp
            refine cTop3 (r := (grC S x0 1)) hy15.1 ?_
            obtain ⟨hy16, hp⟩ := hp
            refine cGoi (va_runS (As := [.ref (ad ((grC S x0 1).getD 0)), va_re ad x1, va_re ad x2]) (rest := []) ⟨hx, hb, hml, hown, hts⟩ (c_Y8_makesTextTooLong l G K ad S ((grC S x0 1).getD 0) x1 x2 _) (va_cwS 3 hts (wGS t_ (mw (.methodLink RX8 215 yX8_makesTextTooLong) (List.mem_of_getElem? (i := 9) rfl)) (mw (.static yX8_makesTextTooLong) (List.mem_of_getElem? (i := 10) rfl)) (mw (.initialized RX8) (List.mem_of_getElem? (i := 11) rfl)) j_Y8_makesTextTooLong) rfl rfl rfl (by decide +kernel) ⟨Nat.le_of_ble_eq_true rfl, Nat.le_of_ble_eq_true rfl⟩) (cPS hK hTE hP hD ⟨hy15.2, hy16⟩) rfl rfl hl.1 rfl (lv_room (Nat.le_of_ble_eq_true rfl)) dX8_lacksRoom_51 ⟨Nat.le_of_ble_eq_true rfl, Nat.le_of_ble_eq_true rfl⟩) hP hD hS hA (fun r18 u17 H locs hv hP hD hS => ?_)
            have h1 := congrArg Prod.fst hv
            have h2 := (congrArg Prod.snd hv).symm
            dsimp only at h1 h2
            subst h1
            subst h2
            refine lv_if_eq (tgt := 61) hx hb dX8_lacksRoom_54 (by decide) (fun c19 => ?_) (fun c19 => ?_)
            · rw [if_pos c19] at hE hp
              exact B_Y8_lacksRoom_61 x1 x2 _ _ _ hE hp hP hD hS (lv_sub hl [0, 1, 2] rfl)
            · rw [if_neg c19] at hE hp
              refine lv_iconst (v := 1) hx hb dX8_lacksRoom_57 (by decide) ?_
              refine lv_goto (tgt := 62) hx hb dX8_lacksRoom_58 (by decide) ?_
              exact B_Y8_lacksRoom_62 x1 x2 1 _ _ _ hE hp hP hD hS (lv_sub hl [0, 1, 2] rfl)
      · rw [if_neg c7] at hE hp
        refine lv_aload_n hx hb dX8_lacksRoom_21 rfl (lv_at hl 0 rfl) ?_
        obtain ⟨hy20, hp⟩ := hp
        refine cGoi (va_runV (As := []) (rest := []) ⟨hx, hb, hml, hown, hts⟩ (c_Y0_freePlaces l G K ad S x0 _) (cwV 0 hts (wGV t_ (mw (.methodLink RX8 180 yX0_freePlaces) (List.mem_of_getElem? (i := 12) rfl)) (mw (.instanceMethod yX0_freePlaces) (List.mem_of_getElem? (i := 13) rfl)) (mw (.selects RX0 yX0_freePlaces yX0_freePlaces) (List.mem_of_getElem? (i := 14) rfl)) (mw (.initialized RX0) (List.mem_of_getElem? (i := 15) rfl)) j_Y0_freePlaces) rfl rfl rfl (by decide +kernel) ⟨Nat.le_of_ble_eq_true rfl, Nat.le_of_ble_eq_true rfl⟩) (cPV hK hTE hP hD 0 rfl (at_0 k_x0) ⟨k_x0, hy20⟩) rfl rfl hl.1 rfl (lv_room (Nat.le_of_ble_eq_true rfl)) dX8_lacksRoom_22 ⟨Nat.le_of_ble_eq_true rfl, Nat.le_of_ble_eq_true rfl⟩) hP hD hS hA (fun r22 u21 H locs hv hP hD hS => ?_)
        have h1 := congrArg Prod.fst hv
        have h2 := (congrArg Prod.snd hv).symm
        dsimp only at h1 h2
        subst h1
        subst h2
        refine lv_if_ne (tgt := 32) hx hb dX8_lacksRoom_25 (by decide) (fun c23 => ?_) (fun c23 => ?_)
        · rw [if_neg c23] at hE hp
          refine lv_iconst (v := 0) hx hb dX8_lacksRoom_32 (by decide) ?_
          exact B_Y8_lacksRoom_33 x1 x2 0 _ _ _ hE hp hP hD hS (lv_sub hl [0, 1, 2] rfl)
        · rw [if_pos c23] at hE hp
          refine lv_iconst (v := 1) hx hb dX8_lacksRoom_28 (by decide) ?_
          refine lv_goto (tgt := 33) hx hb dX8_lacksRoom_29 (by decide) ?_
          exact B_Y8_lacksRoom_33 x1 x2 1 _ _ _ hE hp hP hD hS (lv_sub hl [0, 1, 2] rfl)
    · rw [if_neg c2] at hE hp
      refine lv_iconst (v := 1) hx hb dX8_lacksRoom_12 (by decide) ?_
      subst hQ
      exact W.zret (v := (1 : Int32)) (ty := .boolean) hx hb hr rfl (fun t ht hW => ⟨⟨(1 : Int32), S, rfl, (pair_i (hE.trans hX.symm)), by rw [ht]; exact hP, hD⟩, hS.F ht⟩) hS.2.2 dX8_lacksRoom_13
  exact B_M a1 a2 _ _ _ hX hp hP hD hS hl
theorem gdX8_againstMove_104 : ckS (List.drop 104 cX8_againstMove.data.toList) 104 [(104, .aload_n 2, 1), (105, .aload_n 3, 1), (106, .invokestatic 194, 3), (120, .ifCond .eq 8, 3), (123, .bipush 10, 2), (125, .goto 4, 3), (128, .iconst 0, 1), (129, .ireturn, 1)] = true := by decide +kernel
theorem dX8_againstMove_104 : decode cX8_againstMove 104 = .ok (.aload_n 2, 1) := ckS_g gdX8_againstMove_104 0 rfl
theorem dX8_againstMove_105 : decode cX8_againstMove 105 = .ok (.aload_n 3, 1) := ckS_g gdX8_againstMove_104 1 rfl
theorem dX8_againstMove_106 : decode cX8_againstMove 106 = .ok (.invokestatic 194, 3) := ckS_g gdX8_againstMove_104 2 rfl
theorem dX8_againstMove_120 : decode cX8_againstMove 120 = .ok (.ifCond .eq 8, 3) := ckS_g gdX8_againstMove_104 3 rfl
theorem dX8_againstMove_123 : decode cX8_againstMove 123 = .ok (.bipush 10, 2) := ckS_g gdX8_againstMove_104 4 rfl
theorem dX8_againstMove_125 : decode cX8_againstMove 125 = .ok (.goto 4, 3) := ckS_g gdX8_againstMove_104 5 rfl
theorem dX8_againstMove_128 : decode cX8_againstMove 128 = .ok (.iconst 0, 1) := ckS_g gdX8_againstMove_104 6 rfl
theorem dX8_againstMove_129 : decode cX8_againstMove 129 = .ok (.ireturn, 1) := ckS_g gdX8_againstMove_104 7 rfl
theorem gdX8_isOffSubject_0 : ckS (List.drop 0 cX8_isOffSubject.data.toList) 0 [(0, .aload_n 1, 1), (1, .ifnull 10, 3), (4, .aload_n 0, 1), (5, .getfield 205, 3), (8, .ifCond .eq 5, 3), (11, .iconst 1, 1), (12, .ireturn, 1), (13, .aload_n 0, 1), (14, .getfield 153, 3), (17, .ifCond .eq 14, 3), (20, .aload_n 0, 1), (21, .getfield 208, 3), (24, .aload_n 1, 1), (25, .getfield 211, 3), (28, .if_icmp .ne 17, 3), (31, .aload_n 0, 1), (32, .getfield 177, 3), (35, .aload_n 1, 1), (36, .getfield 159, 3), (39, .getfield 163, 3), (42, .if_icmp .le 7, 3), (45, .iconst 1, 1), (46, .goto 4, 3), (49, .iconst 0, 1), (50, .ireturn, 1)] = true := by decide +kernel
theorem dX8_isOffSubject_0 : decode cX8_isOffSubject 0 = .ok (.aload_n 1, 1) := ckS_g gdX8_isOffSubject_0 0 rfl
theorem dX8_isOffSubject_1 : decode cX8_isOffSubject 1 = .ok (.ifnull 10, 3) := ckS_g gdX8_isOffSubject_0 1 rfl
theorem dX8_isOffSubject_4 : decode cX8_isOffSubject 4 = .ok (.aload_n 0, 1) := ckS_g gdX8_isOffSubject_0 2 rfl
theorem dX8_isOffSubject_5 : decode cX8_isOffSubject 5 = .ok (.getfield 205, 3) := ckS_g gdX8_isOffSubject_0 3 rfl
theorem dX8_isOffSubject_8 : decode cX8_isOffSubject 8 = .ok (.ifCond .eq 5, 3) := ckS_g gdX8_isOffSubject_0 4 rfl
theorem dX8_isOffSubject_11 : decode cX8_isOffSubject 11 = .ok (.iconst 1, 1) := ckS_g gdX8_isOffSubject_0 5 rfl
theorem dX8_isOffSubject_12 : decode cX8_isOffSubject 12 = .ok (.ireturn, 1) := ckS_g gdX8_isOffSubject_0 6 rfl
theorem dX8_isOffSubject_13 : decode cX8_isOffSubject 13 = .ok (.aload_n 0, 1) := ckS_g gdX8_isOffSubject_0 7 rfl
theorem dX8_isOffSubject_14 : decode cX8_isOffSubject 14 = .ok (.getfield 153, 3) := ckS_g gdX8_isOffSubject_0 8 rfl
theorem dX8_isOffSubject_17 : decode cX8_isOffSubject 17 = .ok (.ifCond .eq 14, 3) := ckS_g gdX8_isOffSubject_0 9 rfl
theorem dX8_isOffSubject_20 : decode cX8_isOffSubject 20 = .ok (.aload_n 0, 1) := ckS_g gdX8_isOffSubject_0 10 rfl
theorem dX8_isOffSubject_21 : decode cX8_isOffSubject 21 = .ok (.getfield 208, 3) := ckS_g gdX8_isOffSubject_0 11 rfl
theorem dX8_isOffSubject_24 : decode cX8_isOffSubject 24 = .ok (.aload_n 1, 1) := ckS_g gdX8_isOffSubject_0 12 rfl
theorem dX8_isOffSubject_25 : decode cX8_isOffSubject 25 = .ok (.getfield 211, 3) := ckS_g gdX8_isOffSubject_0 13 rfl
theorem dX8_isOffSubject_28 : decode cX8_isOffSubject 28 = .ok (.if_icmp .ne 17, 3) := ckS_g gdX8_isOffSubject_0 14 rfl
theorem dX8_isOffSubject_31 : decode cX8_isOffSubject 31 = .ok (.aload_n 0, 1) := ckS_g gdX8_isOffSubject_0 15 rfl
theorem dX8_isOffSubject_32 : decode cX8_isOffSubject 32 = .ok (.getfield 177, 3) := ckS_g gdX8_isOffSubject_0 16 rfl
theorem dX8_isOffSubject_35 : decode cX8_isOffSubject 35 = .ok (.aload_n 1, 1) := ckS_g gdX8_isOffSubject_0 17 rfl
theorem dX8_isOffSubject_36 : decode cX8_isOffSubject 36 = .ok (.getfield 159, 3) := ckS_g gdX8_isOffSubject_0 18 rfl
theorem dX8_isOffSubject_39 : decode cX8_isOffSubject 39 = .ok (.getfield 163, 3) := ckS_g gdX8_isOffSubject_0 19 rfl
theorem dX8_isOffSubject_42 : decode cX8_isOffSubject 42 = .ok (.if_icmp .le 7, 3) := ckS_g gdX8_isOffSubject_0 20 rfl
theorem dX8_isOffSubject_45 : decode cX8_isOffSubject 45 = .ok (.iconst 1, 1) := ckS_g gdX8_isOffSubject_0 21 rfl
theorem dX8_isOffSubject_46 : decode cX8_isOffSubject 46 = .ok (.goto 4, 3) := ckS_g gdX8_isOffSubject_0 22 rfl
theorem dX8_isOffSubject_49 : decode cX8_isOffSubject 49 = .ok (.iconst 0, 1) := ckS_g gdX8_isOffSubject_0 23 rfl
theorem dX8_isOffSubject_50 : decode cX8_isOffSubject 50 = .ok (.ireturn, 1) := ckS_g gdX8_isOffSubject_0 24 rfl
set_option maxRecDepth 100000 in
theorem zc405 : wZ (.fieldLink RX8 211 "MotionFloor$Motion" "name" "I") := ⟨wT3 (List.mem_of_getElem? (i := 9) (by decide +kernel)), Or.inl rfl⟩
set_option maxRecDepth 100000 in
theorem zc406 : wZ (.fieldLink RX8 208 "MotionFloor$Motion" "subject" "I") := ⟨wT3 (List.mem_of_getElem? (i := 13) (by decide +kernel)), Or.inl rfl⟩
set_option maxRecDepth 100000 in
theorem zc407 : wZ (.fieldLink RX8 153 "MotionFloor$Motion" "laid" "Z") := ⟨wT3 (List.mem_of_getElem? (i := 49) (by decide +kernel)), Or.inl rfl⟩
set_option maxRecDepth 100000 in
theorem zc408 : wZ (.fieldLink RX8 205 "MotionFloor$Motion" "outOfOrder" "Z") := ⟨wT3 (List.mem_of_getElem? (i := 52) (by decide +kernel)), Or.inl rfl⟩
set_option maxRecDepth 100000 in
theorem zc409 : wZ (.code yX8_isOffSubject cX8_isOffSubject 2 (some .boolean)) := ⟨wT2 (List.mem_of_getElem? (i := 162) rfl), Or.inl rfl⟩
def b_Y8_isOffSubject_11 (S : Cst)  (x0 : Option Nat) (x1 : Option Nat) : Int32 := (1 : Int32)
def q_Y8_isOffSubject_11 (S : Cst)  (x0 : Option Nat) (x1 : Option Nat) : Prop := True
def b_Y8_isOffSubject_50 (S : Cst)  (x0 : Option Nat) (x1 : Option Nat) (y0 : Int32) : Int32 := y0
def q_Y8_isOffSubject_50 (S : Cst)  (x0 : Option Nat) (x1 : Option Nat) (y0 : Int32) : Prop := (narrow .boolean (.int y0) = .int y0) ∧ True
def b_Y8_isOffSubject_45 (S : Cst)  (x0 : Option Nat) (x1 : Option Nat) : Int32 := (b_Y8_isOffSubject_50 S x0 x1 1)
def q_Y8_isOffSubject_45 (S : Cst)  (x0 : Option Nat) (x1 : Option Nat) : Prop := (q_Y8_isOffSubject_50 S x0 x1 1)
def b_Y8_isOffSubject_31 (S : Cst)  (x0 : Option Nat) (x1 : Option Nat) : Int32 := if (giC S (x0.getD 0) 9) ≤ (giC S ((grC S (x1.getD 0) 12).getD 0) 1) then (b_Y8_isOffSubject_50 S x0 x1 0) else (b_Y8_isOffSubject_45 S x0 x1)
def q_Y8_isOffSubject_31 (S : Cst)  (x0 : Option Nat) (x1 : Option Nat) : Prop := (iR S x0 3) ∧ (iR S x1 3) ∧ (iR S (grC S (x1.getD 0) 12) 6) ∧ (if (giC S (x0.getD 0) 9) ≤ (giC S ((grC S (x1.getD 0) 12).getD 0) 1) then (q_Y8_isOffSubject_50 S x0 x1 0) else (q_Y8_isOffSubject_45 S x0 x1))
def f_Y8_isOffSubject (S : Cst) (x0 : Option Nat) (x1 : Option Nat) : Int32 := if x1 = none then (b_Y8_isOffSubject_11 S x0 x1) else if (giC S (x0.getD 0) 11) = 0 then if (giC S (x0.getD 0) 10) = 0 then (b_Y8_isOffSubject_31 S x0 x1) else if (giC S (x0.getD 0) 1) = (giC S (x1.getD 0) 0) then (b_Y8_isOffSubject_31 S x0 x1) else (b_Y8_isOffSubject_45 S x0 x1) else (b_Y8_isOffSubject_11 S x0 x1)
def p_Y8_isOffSubject (S : Cst) (x0 : Option Nat) (x1 : Option Nat) : Prop := (if x1 = none then (q_Y8_isOffSubject_11 S x0 x1) else (iR S x0 3) ∧ (if (giC S (x0.getD 0) 11) = 0 then (iR S x0 3) ∧ (if (giC S (x0.getD 0) 10) = 0 then (q_Y8_isOffSubject_31 S x0 x1) else (iR S x0 3) ∧ (iR S x1 3) ∧ (if (giC S (x0.getD 0) 1) = (giC S (x1.getD 0) 0) then (q_Y8_isOffSubject_31 S x0 x1) else (q_Y8_isOffSubject_45 S x0 x1))) else (q_Y8_isOffSubject_11 S x0 x1)))
def e_Y8_isOffSubject : List Cond := [.fieldLink RX8 205 "MotionFloor$Motion" "outOfOrder" "Z", .fieldLink RX8 153 "MotionFloor$Motion" "laid" "Z", .fieldLink RX8 177 "MotionFloor$Motion" "to" "I", .fieldLink RX8 159 "MotionFloor$Motion" "text" "LMotionFloor$Text;", .fieldLink RX8 163 "MotionFloor$Text" "size" "I", .fieldLink RX8 208 "MotionFloor$Motion" "subject" "I", .fieldLink RX8 211 "MotionFloor$Motion" "name" "I"]
def v_Y8_isOffSubject : List Cond := .code yX8_isOffSubject cX8_isOffSubject 2 (some .boolean) :: (e_Y8_isOffSubject ++ (wsX40 ++ (wsX90 ++ [])))
theorem te_Y8_isOffSubject : GoodIn lw_tbl e_Y8_isOffSubject := wGc zc408 (wGc zc407 (wGc zc394 (wGc zc396 (wGc zc393 (wGc zc406 (wGc zc405 (wG0)))))))
theorem t_Y8_isOffSubject : GoodIn lw_tbl v_Y8_isOffSubject := wGc zc409 (wGa te_Y8_isOffSubject (wGa zcX4 (wGa zcX9 (wG0))))
set_option maxHeartbeats 4000000 in
set_option maxRecDepth 100000 in
theorem c_Y8_isOffSubject (l : Launch) (G : va_G) (K : Nat → ClassId) (ad : Nat → Nat) (S : Cst)  (a0 : Option Nat) (a1 : Option Nat) (sz : Nat) : Met l yX8_isOffSubject v_Y8_isOffSubject ({ frames := 0, cells := 0, slots := 0, locals := 0 }) (va_Pc [va_re ad a0, va_re ad a1] (cSt G K ad sz S (p_Y8_isOffSubject S a0 a1))) (va_Qi (fun (r : Int32) (u : Cst) => (r, u) = (f_Y8_isOffSubject S a0 a1, S)) (cBt G K ad (va_A (wsC K ad S) sz)) (va_A (wsC K ad S) sz)) 0 0 (va_A (wsC K ad S) sz) := by
  refine Met.ofW (cc := cX8_isOffSubject) (maxL := 2) (ret := (some .boolean)) (by decide) rfl ?_
  intro p e s m args below meth c s₁ B hml hv
  obtain ⟨rfl, ⟨hsz, hP, hK, hD0, hTE⟩, hp⟩ := hv
  have hx := B.exec
  have hb := B.bytes
  have hr := B.returns
  have hts := atoms_spec (ws := v_Y8_isOffSubject) B.pre
  have t_ := t_Y8_isOffSubject
  have mw : ∀ w ∈ e_Y8_isOffSubject, w ∈ v_Y8_isOffSubject := fun w h => List.mem_cons_of_mem _ (List.mem_append_left _ h)
  have hw := fun w (h : w ∈ e_Y8_isOffSubject) => hts w (mw w h)
  have iX4 : ∀ w ∈ wsX40, w ∈ v_Y8_isOffSubject := fun w h => List.mem_cons_of_mem _ (List.mem_append_right _ (List.mem_append_left _ h))
  have iX9 : ∀ w ∈ wsX90, w ∈ v_Y8_isOffSubject := fun w h => List.mem_cons_of_mem _ (List.mem_append_right _ (List.mem_append_right _ (List.mem_append_left _ h)))
  have hown : s.vm.findClass RX8 = some m.cls := findClass_of_methodNamed B.named
  have hlocks := B.notSynchronized
  subst hsz
  have hD := hD0.self (sz := s.heap.size)
  generalize hAe : va_A (wsC K ad S) s.heap.size = A at hD ⊢
  have hA : ∀ q : Nat, s.heap.size ≤ q → A q := fun q h => by rw [← hAe]; exact Or.inr h
  have hS : va_S A s.heap s.heap [] := va_S.rf
  have hl : lv_has (lg_sl ([va_re ad a0, va_re ad a1]) ++ List.replicate (2 - (lg_sl ([va_re ad a0, va_re ad a1])).length) Slot.unset).toArray 2 [(0, va_re ad a0), (1, va_re ad a1)] := by
    cases a0 <;> cases a1 <;> exact lv_entry _ (n := 2) (Nat.le_of_ble_eq_true rfl)
  rw [lg_entry_eq]
  generalize (lg_sl ([va_re ad a0, va_re ad a1]) ++ List.replicate (2 - (lg_sl ([va_re ad a0, va_re ad a1])).length) Slot.unset).toArray = ls_ at hl ⊢
  refine wGen (fun Q hQ => ?_)
  obtain ⟨X, hX⟩ : ∃ X, f_Y8_isOffSubject S a0 a1 = X := ⟨_, rfl⟩
  have B_Y8_isOffSubject_11 : ∀ (x0 : Option Nat) (x1 : Option Nat) (H : Heap) (locs : List Loc) (ls_ : Array Slot), b_Y8_isOffSubject_11 S x0 x1 = X → q_Y8_isOffSubject_11 S x0 x1 → va_P G vwCl (wsC K ad S) H → va_D A (wsC K ad S) → va_S A s.heap H locs → lv_has ls_ 2 [(0, va_re ad x0), (1, va_re ad x1)] → W p l e ({ frames := 0, cells := 0, slots := 0, locals := 0 } : Room) s m #[va_re ad a0, va_re ad a1] below meth c H locs 0 0 Q (F0 m 11 ls_ []) := by
    intro x0 x1 H locs ls_ hE hp hP hD hS hl
    unfold b_Y8_isOffSubject_11 at hE
    unfold q_Y8_isOffSubject_11 at hp
    refine lv_iconst (v := 1) hx hb dX8_isOffSubject_11 (by decide) ?_
    subst hQ
    exact W.zret (v := (1 : Int32)) (ty := .boolean) hx hb hr rfl (fun t ht hW => ⟨⟨(1 : Int32), S, rfl, (pair_i (hE.trans hX.symm)), by rw [ht]; exact hP, hD⟩, hS.F ht⟩) hS.2.2 dX8_isOffSubject_12
  have B_Y8_isOffSubject_50 : ∀ (x0 : Option Nat) (x1 : Option Nat) (y0 : Int32) (H : Heap) (locs : List Loc) (ls_ : Array Slot), b_Y8_isOffSubject_50 S x0 x1 y0 = X → q_Y8_isOffSubject_50 S x0 x1 y0 → va_P G vwCl (wsC K ad S) H → va_D A (wsC K ad S) → va_S A s.heap H locs → lv_has ls_ 2 [(0, va_re ad x0), (1, va_re ad x1)] → W p l e ({ frames := 0, cells := 0, slots := 0, locals := 0 } : Room) s m #[va_re ad a0, va_re ad a1] below meth c H locs 0 0 Q (F0 m 50 ls_ [.int y0]) := by
    intro x0 x1 y0 H locs ls_ hE hp hP hD hS hl
    unfold b_Y8_isOffSubject_50 at hE
    unfold q_Y8_isOffSubject_50 at hp
    obtain ⟨hy10, hp⟩ := hp
    subst hQ
    exact W.zret (v := y0) (ty := .boolean) hx hb hr hy10 (fun t ht hW => ⟨⟨y0, S, rfl, (pair_i (hE.trans hX.symm)), by rw [ht]; exact hP, hD⟩, hS.F ht⟩) hS.2.2 dX8_isOffSubject_50
  have B_Y8_isOffSubject_45 : ∀ (x0 : Option Nat) (x1 : Option Nat) (H : Heap) (locs : List Loc) (ls_ : Array Slot), b_Y8_isOffSubject_45 S x0 x1 = X → q_Y8_isOffSubject_45 S x0 x1 → va_P G vwCl (wsC K ad S) H → va_D A (wsC K ad S) → va_S A s.heap H locs → lv_has ls_ 2 [(0, va_re ad x0), (1, va_re ad x1)] → W p l e ({ frames := 0, cells := 0, slots := 0, locals := 0 } : Room) s m #[va_re ad a0, va_re ad a1] below meth c H locs 0 0 Q (F0 m 45 ls_ []) := by
    intro x0 x1 H locs ls_ hE hp hP hD hS hl
    unfold b_Y8_isOffSubject_45 at hE
    unfold q_Y8_isOffSubject_45 at hp
    refine lv_iconst (v := 1) hx hb dX8_isOffSubject_45 (by decide) ?_
    refine lv_goto (tgt := 50) hx hb dX8_isOffSubject_46 (by decide) ?_
    exact B_Y8_isOffSubject_50 x0 x1 1 _ _ _ hE hp hP hD hS (lv_sub hl [0, 1] rfl)
  have B_Y8_isOffSubject_31 : ∀ (x0 : Option Nat) (x1 : Option Nat) (H : Heap) (locs : List Loc) (ls_ : Array Slot), b_Y8_isOffSubject_31 S x0 x1 = X → q_Y8_isOffSubject_31 S x0 x1 → va_P G vwCl (wsC K ad S) H → va_D A (wsC K ad S) → va_S A s.heap H locs → lv_has ls_ 2 [(0, va_re ad x0), (1, va_re ad x1)] → W p l e ({ frames := 0, cells := 0, slots := 0, locals := 0 } : Room) s m #[va_re ad a0, va_re ad a1] below meth c H locs 0 0 Q (F0 m 31 ls_ []) := by
    intro x0 x1 H locs ls_ hE hp hP hD hS hl
    unfold b_Y8_isOffSubject_31 at hE
    unfold q_Y8_isOffSubject_31 at hp
    refine cAload_n (ad := ad) (r := x0) hx hb dX8_isOffSubject_31 rfl (lv_at hl 0 rfl) ?_
    obtain ⟨hy6, hp⟩ := hp
    refine cTop (r := x0) hy6.1 ?_
    refine va_get (D := G) (ci := 3) (v := .int (giC S (x0.getD 0) 9)) (C := RX4) (T := TX4) (N := 16) hx hb hts iX4 hown hK hP (x0.getD 0) (at_3 hy6.2) rfl 9 (by decide) (hw (.fieldLink RX8 177 "MotionFloor$Motion" "to" "I") (List.mem_of_getElem? (i := 2) rfl)) (fun _ h9 => h9) rfl dX8_isOffSubject_32 ?_
    refine cAload_n (ad := ad) (r := x1) hx hb dX8_isOffSubject_35 rfl (lv_at hl 1 rfl) ?_
    obtain ⟨hy7, hp⟩ := hp
    refine cTop (r := x1) hy7.1 ?_
    refine va_get (D := G) (ci := 3) (v := va_re ad (grC S (x1.getD 0) 12)) (C := RX4) (T := TX4) (N := 16) hx hb hts iX4 hown hK hP (x1.getD 0) (at_3 hy7.2) rfl 12 (by decide) (hw (.fieldLink RX8 159 "MotionFloor$Motion" "text" "LMotionFloor$Text;") (List.mem_of_getElem? (i := 3) rfl)) (fun _ h9 => h9) rfl dX8_isOffSubject_36 ?_
    obtain ⟨hy8, hp⟩ := hp
    refine cTop (r := (grC S (x1.getD 0) 12)) hy8.1 ?_
    refine va_get (D := G) (ci := 6) (v := .int (giC S ((grC S (x1.getD 0) 12).getD 0) 1)) (C := RX9) (T := TX9) (N := 2) hx hb hts iX9 hown hK hP ((grC S (x1.getD 0) 12).getD 0) (at_6 hy8.2) rfl 1 (by decide) (hw (.fieldLink RX8 163 "MotionFloor$Text" "size" "I") (List.mem_of_getElem? (i := 4) rfl)) (fun _ h9 => h9) rfl dX8_isOffSubject_39 ?_
    refine lv_icmp_le (tgt := 49) hx hb dX8_isOffSubject_42 (by decide) (fun c9 => ?_) (fun c9 => ?_)
    · rw [if_pos c9] at hE hp
      refine lv_iconst (v := 0) hx hb dX8_isOffSubject_49 (by decide) ?_
      exact B_Y8_isOffSubject_50 x0 x1 0 _ _ _ hE hp hP hD hS (lv_sub hl [0, 1] rfl)
    · rw [if_neg c9] at hE hp
      exact B_Y8_isOffSubject_45 x0 x1 _ _ _ hE hp hP hD hS (lv_sub hl [0, 1] rfl)
  have B_M : ∀ (x0 : Option Nat) (x1 : Option Nat) (H : Heap) (locs : List Loc) (ls_ : Array Slot), f_Y8_isOffSubject S x0 x1 = X → p_Y8_isOffSubject S x0 x1 → va_P G vwCl (wsC K ad S) H → va_D A (wsC K ad S) → va_S A s.heap H locs → lv_has ls_ 2 [(0, va_re ad x0), (1, va_re ad x1)] → W p l e ({ frames := 0, cells := 0, slots := 0, locals := 0 } : Room) s m #[va_re ad a0, va_re ad a1] below meth c H locs 0 0 Q (F0 m 0 ls_ []) := by
    intro x0 x1 H locs ls_ hE hp hP hD hS hl
    unfold f_Y8_isOffSubject at hE
    unfold p_Y8_isOffSubject at hp
    refine cAload_n (ad := ad) (r := x1) hx hb dX8_isOffSubject_0 rfl (lv_at hl 1 rfl) ?_
    refine cIfnull (ad := ad) (r := x1) (tgt := 11) hx hb dX8_isOffSubject_1 (by decide) (fun c1 => ?_) (fun c1 => ?_)
    · rw [if_pos c1] at hE hp
      exact B_Y8_isOffSubject_11 x0 x1 _ _ _ hE hp hP hD hS (lv_sub hl [0, 1] rfl)
    · rw [if_neg c1] at hE hp
      refine cAload_n (ad := ad) (r := x0) hx hb dX8_isOffSubject_4 rfl (lv_at hl 0 rfl) ?_
      obtain ⟨hy2, hp⟩ := hp
      refine cTop (r := x0) hy2.1 ?_
      refine va_get (D := G) (ci := 3) (v := .int (giC S (x0.getD 0) 11)) (C := RX4) (T := TX4) (N := 16) hx hb hts iX4 hown hK hP (x0.getD 0) (at_3 hy2.2) rfl 11 (by decide) (hw (.fieldLink RX8 205 "MotionFloor$Motion" "outOfOrder" "Z") (List.mem_of_getElem? (i := 0) rfl)) (fun _ h9 => h9) rfl dX8_isOffSubject_5 ?_
      refine lv_if_eq (tgt := 13) hx hb dX8_isOffSubject_8 (by decide) (fun c3 => ?_) (fun c3 => ?_)
      · rw [if_pos c3] at hE hp
        refine cAload_n (ad := ad) (r := x0) hx hb dX8_isOffSubject_13 rfl (lv_at hl 0 rfl) ?_
        obtain ⟨hy4, hp⟩ := hp
        refine cTop (r := x0) hy4.1 ?_
        refine va_get (D := G) (ci := 3) (v := .int (giC S (x0.getD 0) 10)) (C := RX4) (T := TX4) (N := 16) hx hb hts iX4 hown hK hP (x0.getD 0) (at_3 hy4.2) rfl 10 (by decide) (hw (.fieldLink RX8 153 "MotionFloor$Motion" "laid" "Z") (List.mem_of_getElem? (i := 1) rfl)) (fun _ h9 => h9) rfl dX8_isOffSubject_14 ?_
        refine lv_if_eq (tgt := 31) hx hb dX8_isOffSubject_17 (by decide) (fun c5 => ?_) (fun c5 => ?_)
        · rw [if_pos c5] at hE hp
          exact B_Y8_isOffSubject_31 x0 x1 _ _ _ hE hp hP hD hS (lv_sub hl [0, 1] rfl)
        · rw [if_neg c5] at hE hp
          refine cAload_n (ad := ad) (r := x0) hx hb dX8_isOffSubject_20 rfl (lv_at hl 0 rfl) ?_
          obtain ⟨hy11, hp⟩ := hp
          refine cTop (r := x0) hy11.1 ?_
          refine va_get (D := G) (ci := 3) (v := .int (giC S (x0.getD 0) 1)) (C := RX4) (T := TX4) (N := 16) hx hb hts iX4 hown hK hP (x0.getD 0) (at_3 hy11.2) rfl 1 (by decide) (hw (.fieldLink RX8 208 "MotionFloor$Motion" "subject" "I") (List.mem_of_getElem? (i := 5) rfl)) (fun _ h9 => h9) rfl dX8_isOffSubject_21 ?_
          refine cAload_n (ad := ad) (r := x1) hx hb dX8_isOffSubject_24 rfl (lv_at hl 1 rfl) ?_
          obtain ⟨hy12, hp⟩ := hp
          refine cTop (r := x1) hy12.1 ?_
          refine va_get (D := G) (ci := 3) (v := .int (giC S (x1.getD 0) 0)) (C := RX4) (T := TX4) (N := 16) hx hb hts iX4 hown hK hP (x1.getD 0) (at_3 hy12.2) rfl 0 (by decide) (hw (.fieldLink RX8 211 "MotionFloor$Motion" "name" "I") (List.mem_of_getElem? (i := 6) rfl)) (fun _ h9 => h9) rfl dX8_isOffSubject_25 ?_
          refine lv_icmp_ne (tgt := 45) hx hb dX8_isOffSubject_28 (by decide) (fun c13 => ?_) (fun c13 => ?_)
          · rw [if_neg c13] at hE hp
            exact B_Y8_isOffSubject_45 x0 x1 _ _ _ hE hp hP hD hS (lv_sub hl [0, 1] rfl)
          · rw [if_pos c13] at hE hp
            exact B_Y8_isOffSubject_31 x0 x1 _ _ _ hE hp hP hD hS (lv_sub hl [0, 1] rfl)
      · rw [if_neg c3] at hE hp
        exact B_Y8_isOffSubject_11 x0 x1 _ _ _ hE hp hP hD hS (lv_sub hl [0, 1] rfl)
  exact B_M a0 a1 _ _ _ hX hp hP hD hS hl
theorem gdX8_againstMove_10 : ckS (List.drop 10 cX8_againstMove.data.toList) 10 [(10, .bipush 11, 2), (12, .ireturn, 1), (41, .iconst 1, 1), (42, .ireturn, 1), (54, .iconst 2, 1), (55, .ireturn, 1), (60, .aload_n 3, 1), (61, .getfield 138, 3), (64, .iconst (-1), 1), (65, .if_icmp .eq 12, 3), (68, .aload_n 3, 1), (69, .getfield 128, 3), (72, .bipush 9, 2), (74, .if_icmp .ne 5, 3), (77, .iconst 3, 1), (78, .ireturn, 1), (89, .iconst 4, 1), (90, .ireturn, 1), (109, .ifCond .eq 5, 3), (112, .iconst 5, 1), (113, .ireturn, 1)] = true := by decide +kernel
theorem dX8_againstMove_10 : decode cX8_againstMove 10 = .ok (.bipush 11, 2) := ckS_g gdX8_againstMove_10 0 rfl
theorem dX8_againstMove_12 : decode cX8_againstMove 12 = .ok (.ireturn, 1) := ckS_g gdX8_againstMove_10 1 rfl
theorem dX8_againstMove_41 : decode cX8_againstMove 41 = .ok (.iconst 1, 1) := ckS_g gdX8_againstMove_10 2 rfl
theorem dX8_againstMove_42 : decode cX8_againstMove 42 = .ok (.ireturn, 1) := ckS_g gdX8_againstMove_10 3 rfl
theorem dX8_againstMove_54 : decode cX8_againstMove 54 = .ok (.iconst 2, 1) := ckS_g gdX8_againstMove_10 4 rfl
theorem dX8_againstMove_55 : decode cX8_againstMove 55 = .ok (.ireturn, 1) := ckS_g gdX8_againstMove_10 5 rfl
theorem dX8_againstMove_60 : decode cX8_againstMove 60 = .ok (.aload_n 3, 1) := ckS_g gdX8_againstMove_10 6 rfl
theorem dX8_againstMove_61 : decode cX8_againstMove 61 = .ok (.getfield 138, 3) := ckS_g gdX8_againstMove_10 7 rfl
theorem dX8_againstMove_64 : decode cX8_againstMove 64 = .ok (.iconst (-1), 1) := ckS_g gdX8_againstMove_10 8 rfl
theorem dX8_againstMove_65 : decode cX8_againstMove 65 = .ok (.if_icmp .eq 12, 3) := ckS_g gdX8_againstMove_10 9 rfl
theorem dX8_againstMove_68 : decode cX8_againstMove 68 = .ok (.aload_n 3, 1) := ckS_g gdX8_againstMove_10 10 rfl
theorem dX8_againstMove_69 : decode cX8_againstMove 69 = .ok (.getfield 128, 3) := ckS_g gdX8_againstMove_10 11 rfl
theorem dX8_againstMove_72 : decode cX8_againstMove 72 = .ok (.bipush 9, 2) := ckS_g gdX8_againstMove_10 12 rfl
theorem dX8_againstMove_74 : decode cX8_againstMove 74 = .ok (.if_icmp .ne 5, 3) := ckS_g gdX8_againstMove_10 13 rfl
theorem dX8_againstMove_77 : decode cX8_againstMove 77 = .ok (.iconst 3, 1) := ckS_g gdX8_againstMove_10 14 rfl
theorem dX8_againstMove_78 : decode cX8_againstMove 78 = .ok (.ireturn, 1) := ckS_g gdX8_againstMove_10 15 rfl
theorem dX8_againstMove_89 : decode cX8_againstMove 89 = .ok (.iconst 4, 1) := ckS_g gdX8_againstMove_10 16 rfl
theorem dX8_againstMove_90 : decode cX8_againstMove 90 = .ok (.ireturn, 1) := ckS_g gdX8_againstMove_10 17 rfl
theorem dX8_againstMove_109 : decode cX8_againstMove 109 = .ok (.ifCond .eq 5, 3) := ckS_g gdX8_againstMove_10 18 rfl
theorem dX8_againstMove_112 : decode cX8_againstMove 112 = .ok (.iconst 5, 1) := ckS_g gdX8_againstMove_10 19 rfl
theorem dX8_againstMove_113 : decode cX8_againstMove 113 = .ok (.ireturn, 1) := ckS_g gdX8_againstMove_10 20 rfl
set_option maxRecDepth 100000 in
theorem zc410 : wZ (.static yX8_isOffSubject) := ⟨wT2 (List.mem_of_getElem? (i := 161) (by decide +kernel)), Or.inl rfl⟩
set_option maxRecDepth 100000 in
theorem zc411 : wZ (.methodLink RX8 194 yX8_isOffSubject) := ⟨wT2 (List.mem_of_getElem? (i := 160) (by decide +kernel)), Or.inl rfl⟩
set_option maxRecDepth 100000 in
theorem zc412 : wZ (.static yX8_lacksRoom) := ⟨wT2 (List.mem_of_getElem? (i := 164) (by decide +kernel)), Or.inl rfl⟩
set_option maxRecDepth 100000 in
theorem zc413 : wZ (.methodLink RX8 198 yX8_lacksRoom) := ⟨wT2 (List.mem_of_getElem? (i := 163) (by decide +kernel)), Or.inl rfl⟩
set_option maxRecDepth 100000 in
theorem zc414 : wZ (.selects RX2 yX2_hasQuorum yX2_hasQuorum) := ⟨wT2 (List.mem_of_getElem? (i := 158) (by decide +kernel)), Or.inl rfl⟩
set_option maxRecDepth 100000 in
theorem zc415 : wZ (.instanceMethod yX2_hasQuorum) := ⟨wT2 (List.mem_of_getElem? (i := 157) (by decide +kernel)), Or.inl rfl⟩
set_option maxRecDepth 100000 in
theorem zc416 : wZ (.methodLink RX8 191 yX2_hasQuorum) := ⟨wT2 (List.mem_of_getElem? (i := 156) (by decide +kernel)), Or.inl rfl⟩
set_option maxRecDepth 100000 in
theorem zc417 : wZ (.methodLink RX8 135 yX2_hasFloor) := ⟨wT2 (List.mem_of_getElem? (i := 86) (by decide +kernel)), Or.inl rfl⟩
set_option maxRecDepth 100000 in
theorem zc418 : wZ (.fieldLink RX8 34 "MotionFloor$Assembly" "house" "LMotionFloor$House;") := ⟨wT1 (List.mem_of_getElem? (i := 180) (by decide +kernel)), Or.inl rfl⟩
set_option maxRecDepth 100000 in
theorem zc419 : wZ (.static yX8_isOutOfRank) := ⟨wT2 (List.mem_of_getElem? (i := 149) (by decide +kernel)), Or.inl rfl⟩
set_option maxRecDepth 100000 in
theorem zc420 : wZ (.methodLink RX8 187 yX8_isOutOfRank) := ⟨wT2 (List.mem_of_getElem? (i := 148) (by decide +kernel)), Or.inl rfl⟩
set_option maxRecDepth 100000 in
theorem zc421 : wZ (.methodLink RX8 90 yX5_top) := ⟨wT2 (List.mem_of_getElem? (i := 75) (by decide +kernel)), Or.inl rfl⟩
set_option maxRecDepth 100000 in
theorem zc422 : wZ (.methodLink RX8 145 yX6_motion) := ⟨wT2 (List.mem_of_getElem? (i := 96) (by decide +kernel)), Or.inl rfl⟩
set_option maxRecDepth 100000 in
theorem zc423 : wZ (.methodLink RX8 170 yX6_isEmpty) := ⟨wT2 (List.mem_of_getElem? (i := 118) (by decide +kernel)), Or.inl rfl⟩
set_option maxRecDepth 100000 in
theorem zc424 : wZ (.fieldLink RX8 141 "MotionFloor$Assembly" "draft" "LMotionFloor$Place;") := ⟨wT1 (List.mem_of_getElem? (i := 190) (by decide +kernel)), Or.inl rfl⟩
set_option maxRecDepth 100000 in
theorem zc425 : wZ (.code yX8_againstMove cX8_againstMove 4 (some .int)) := ⟨wT2 (List.mem_of_getElem? (i := 147) rfl), Or.inl rfl⟩
def b_Y8_againstMove_129 (S : Cst) (x0 : Nat) (x1 : Int32) (x2 : Option Nat) (x3 : Option Nat) (y0 : Int32) : Int32 := y0
def q_Y8_againstMove_129 (S : Cst) (x0 : Nat) (x1 : Int32) (x2 : Option Nat) (x3 : Option Nat) (y0 : Int32) : Prop := True
def b_Y8_againstMove_114 (S : Cst) (x0 : Nat) (x1 : Int32) (x2 : Option Nat) (x3 : Option Nat) : Int32 := if (f_Y8_lacksRoom S x0 x2 x3) = 0 then (b_Y8_againstMove_129 S x0 x1 x2 x3 0) else (b_Y8_againstMove_129 S x0 x1 x2 x3 10)
def q_Y8_againstMove_114 (S : Cst) (x0 : Nat) (x1 : Int32) (x2 : Option Nat) (x3 : Option Nat) : Prop := (p_Y8_lacksRoom S x0 x2 x3) ∧ (if (f_Y8_lacksRoom S x0 x2 x3) = 0 then (q_Y8_againstMove_129 S x0 x1 x2 x3 0) else (q_Y8_againstMove_129 S x0 x1 x2 x3 10))
def b_Y8_againstMove_79 (S : Cst) (x0 : Nat) (x1 : Int32) (x2 : Option Nat) (x3 : Option Nat) : Int32 := if (f_Y2_hasQuorum S ((grC S x0 0).getD 0)) = 0 then (4 : Int32) else if x2 = none then (0 : Int32) else if (f_Y4_amends S (x2.getD 0)) = 0 then (b_Y8_againstMove_114 S x0 x1 x2 x3) else if (f_Y8_isOffSubject S x2 x3) = 0 then (b_Y8_againstMove_114 S x0 x1 x2 x3) else (5 : Int32)
def q_Y8_againstMove_79 (S : Cst) (x0 : Nat) (x1 : Int32) (x2 : Option Nat) (x3 : Option Nat) : Prop := (iR S (grC S x0 0) 1) ∧ (p_Y2_hasQuorum S ((grC S x0 0).getD 0)) ∧ (if (f_Y2_hasQuorum S ((grC S x0 0).getD 0)) = 0 then True else (if x2 = none then True else (iR S x2 3) ∧ (p_Y4_amends S (x2.getD 0)) ∧ (if (f_Y4_amends S (x2.getD 0)) = 0 then (q_Y8_againstMove_114 S x0 x1 x2 x3) else (p_Y8_isOffSubject S x2 x3) ∧ (if (f_Y8_isOffSubject S x2 x3) = 0 then (q_Y8_againstMove_114 S x0 x1 x2 x3) else True))))
def b_Y8_againstMove_77 (S : Cst) (x0 : Nat) (x1 : Int32) (x2 : Option Nat) (x3 : Option Nat) : Int32 := (3 : Int32)
def q_Y8_againstMove_77 (S : Cst) (x0 : Nat) (x1 : Int32) (x2 : Option Nat) (x3 : Option Nat) : Prop := True
def b_Y8_againstMove_38a (S : Cst) (x0 : Nat) (x1 : Int32) (x2 : Option Nat) (x3 : Option Nat) (y0 : Int32) : Int32 := if y0 = 0 then if (f_Y2_hasFloor S ((grC S x0 0).getD 0) x1) = 0 then (2 : Int32) else if x3 = none then (b_Y8_againstMove_79 S x0 x1 x2 x3) else if (giC S (x3.getD 0) 4) = (-1) then (b_Y8_againstMove_77 S x0 x1 x2 x3) else if (giC S (x3.getD 0) 2) = 9 then (b_Y8_againstMove_77 S x0 x1 x2 x3) else (b_Y8_againstMove_79 S x0 x1 x2 x3) else (1 : Int32)
def q_Y8_againstMove_38a (S : Cst) (x0 : Nat) (x1 : Int32) (x2 : Option Nat) (x3 : Option Nat) (y0 : Int32) : Prop := (if y0 = 0 then (iR S (grC S x0 0) 1) ∧ (p_Y2_hasFloor S ((grC S x0 0).getD 0) x1) ∧ (if (f_Y2_hasFloor S ((grC S x0 0).getD 0) x1) = 0 then True else (if x3 = none then (q_Y8_againstMove_79 S x0 x1 x2 x3) else (iR S x3 3) ∧ (if (giC S (x3.getD 0) 4) = (-1) then (q_Y8_againstMove_77 S x0 x1 x2 x3) else (iR S x3 3) ∧ (if (giC S (x3.getD 0) 2) = 9 then (q_Y8_againstMove_77 S x0 x1 x2 x3) else (q_Y8_againstMove_79 S x0 x1 x2 x3))))) else True)
def f_Y8_againstMove (S : Cst) (x0 : Nat) (x1 : Int32) : Int32 := if (f_Y6_isEmpty S ((grC S x0 2).getD 0)) = 0 then (b_Y8_againstMove_38a S x0 x1 (f_Y6_motion S ((grC S x0 2).getD 0)) (f_Y5_top S ((grC S x0 1).getD 0)) (f_Y8_isOutOfRank S ((grC S x0 1).getD 0) (f_Y6_motion S ((grC S x0 2).getD 0)) (f_Y5_top S ((grC S x0 1).getD 0)))) else (11 : Int32)
def p_Y8_againstMove (S : Cst) (x0 : Nat) (x1 : Int32) : Prop := (iR S (grC S x0 2) 5) ∧ (p_Y6_isEmpty S ((grC S x0 2).getD 0)) ∧ (if (f_Y6_isEmpty S ((grC S x0 2).getD 0)) = 0 then (iR S (grC S x0 2) 5) ∧ (p_Y6_motion S ((grC S x0 2).getD 0)) ∧ (iR S (grC S x0 1) 4) ∧ (p_Y5_top S ((grC S x0 1).getD 0)) ∧ (iR S (grC S x0 1) 4) ∧ (p_Y8_isOutOfRank S ((grC S x0 1).getD 0) (f_Y6_motion S ((grC S x0 2).getD 0)) (f_Y5_top S ((grC S x0 1).getD 0))) ∧ (q_Y8_againstMove_38a S x0 x1 (f_Y6_motion S ((grC S x0 2).getD 0)) (f_Y5_top S ((grC S x0 1).getD 0)) (f_Y8_isOutOfRank S ((grC S x0 1).getD 0) (f_Y6_motion S ((grC S x0 2).getD 0)) (f_Y5_top S ((grC S x0 1).getD 0)))) else True)
def e_Y8_againstMove : List Cond := [.fieldLink RX8 141 "MotionFloor$Assembly" "draft" "LMotionFloor$Place;", .methodLink RX8 170 yX6_isEmpty, .instanceMethod yX6_isEmpty, .selects RX6 yX6_isEmpty yX6_isEmpty, .initialized RX6, .methodLink RX8 145 yX6_motion, .instanceMethod yX6_motion, .selects RX6 yX6_motion yX6_motion, .fieldLink RX8 86 "MotionFloor$Assembly" "pending" "LMotionFloor$Pile;", .methodLink RX8 90 yX5_top, .instanceMethod yX5_top, .selects RX5 yX5_top yX5_top, .initialized RX5, .methodLink RX8 187 yX8_isOutOfRank, .static yX8_isOutOfRank, .initialized RX8, .fieldLink RX8 34 "MotionFloor$Assembly" "house" "LMotionFloor$House;", .methodLink RX8 135 yX2_hasFloor, .instanceMethod yX2_hasFloor, .selects RX2 yX2_hasFloor yX2_hasFloor, .initialized RX2, .methodLink RX8 191 yX2_hasQuorum, .instanceMethod yX2_hasQuorum, .selects RX2 yX2_hasQuorum yX2_hasQuorum, .methodLink RX8 150 yX4_amends, .instanceMethod yX4_amends, .selects RX4 yX4_amends yX4_amends, .initialized RX4, .methodLink RX8 198 yX8_lacksRoom, .static yX8_lacksRoom, .methodLink RX8 194 yX8_isOffSubject, .static yX8_isOffSubject, .fieldLink RX8 138 "MotionFloor$Motion" "seconder" "I", .fieldLink RX8 128 "MotionFloor$Motion" "kind" "I"]
def v_Y8_againstMove : List Cond := .code yX8_againstMove cX8_againstMove 4 (some .int) :: (e_Y8_againstMove ++ (wsX00 ++ (wsX40 ++ (v_Y6_isEmpty ++ (v_Y6_motion ++ (v_Y5_top ++ (v_Y8_isOutOfRank ++ (v_Y2_hasFloor ++ (v_Y2_hasQuorum ++ (v_Y4_amends ++ (v_Y8_lacksRoom ++ (v_Y8_isOffSubject ++ []))))))))))))
theorem te_Y8_againstMove : GoodIn lw_tbl e_Y8_againstMove := wGc zc424 (wGc zc423 (wGc zc114 (wGc zc113 (wGc zc112 (wGc zc422 (wGc zc128 (wGc zc127 (wGc zc380 (wGc zc421 (wGc zc179 (wGc zc178 (wGc zc34 (wGc zc420 (wGc zc419 (wGc zc373 (wGc zc418 (wGc zc417 (wGc zc219 (wGc zc218 (wGc zc77 (wGc zc416 (wGc zc415 (wGc zc414 (wGc zc389 (wGc zc172 (wGc zc171 (wGc zc170 (wGc zc413 (wGc zc412 (wGc zc411 (wGc zc410 (wGc zc372 (wGc zc371 (wG0))))))))))))))))))))))))))))))))))
theorem t_Y8_againstMove : GoodIn lw_tbl v_Y8_againstMove := wGc zc425 (wGa te_Y8_againstMove (wGa zcX0 (wGa zcX4 (wGa t_Y6_isEmpty (wGa t_Y6_motion (wGa t_Y5_top (wGa t_Y8_isOutOfRank (wGa t_Y2_hasFloor (wGa t_Y2_hasQuorum (wGa t_Y4_amends (wGa t_Y8_lacksRoom (wGa t_Y8_isOffSubject (wG0)))))))))))))
set_option maxHeartbeats 4000000 in
set_option maxRecDepth 100000 in
theorem c_Y8_againstMove (l : Launch) (G : va_G) (K : Nat → ClassId) (ad : Nat → Nat) (S : Cst) (x0 : Nat) (a1 : Int32) (sz : Nat) : Met l yX8_againstMove v_Y8_againstMove ({ frames := 3, cells := 0, slots := 0, locals := 69 }) (va_Pc [.ref (ad x0), .int a1] (cSt G K ad sz S (iK S x0 0 ∧ p_Y8_againstMove S x0 a1))) (va_Qi (fun (r : Int32) (u : Cst) => (r, u) = (f_Y8_againstMove S x0 a1, S)) (cBt G K ad (va_A (wsC K ad S) sz)) (va_A (wsC K ad S) sz)) 0 0 (va_A (wsC K ad S) sz) := by
  refine Met.ofW (cc := cX8_againstMove) (maxL := 4) (ret := (some .int)) (by decide) rfl ?_
  intro p e s m args below meth c s₁ B hml hv
  obtain ⟨rfl, ⟨hsz, hP, hK, hD0, hTE⟩, hp⟩ := hv
  obtain ⟨k_x0, hp⟩ := hp
  have hx := B.exec
  have hb := B.bytes
  have hr := B.returns
  have hts := atoms_spec (ws := v_Y8_againstMove) B.pre
  have t_ := t_Y8_againstMove
  have mw : ∀ w ∈ e_Y8_againstMove, w ∈ v_Y8_againstMove := fun w h => List.mem_cons_of_mem _ (List.mem_append_left _ h)
  have hw := fun w (h : w ∈ e_Y8_againstMove) => hts w (mw w h)
  have iX0 : ∀ w ∈ wsX00, w ∈ v_Y8_againstMove := fun w h => List.mem_cons_of_mem _ (List.mem_append_right _ (List.mem_append_left _ h))
  have iX4 : ∀ w ∈ wsX40, w ∈ v_Y8_againstMove := fun w h => List.mem_cons_of_mem _ (List.mem_append_right _ (List.mem_append_right _ (List.mem_append_left _ h)))
  have j_Y6_isEmpty : ∀ w ∈ v_Y6_isEmpty, w ∈ v_Y8_againstMove := fun w h => List.mem_cons_of_mem _ (List.mem_append_right _ (List.mem_append_right _ (List.mem_append_right _ (List.mem_append_left _ h))))
  have j_Y6_motion : ∀ w ∈ v_Y6_motion, w ∈ v_Y8_againstMove := fun w h => List.mem_cons_of_mem _ (List.mem_append_right _ (List.mem_append_right _ (List.mem_append_right _ (List.mem_append_right _ (List.mem_append_left _ h)))))
  have j_Y5_top : ∀ w ∈ v_Y5_top, w ∈ v_Y8_againstMove := fun w h => List.mem_cons_of_mem _ (List.mem_append_right _ (List.mem_append_right _ (List.mem_append_right _ (List.mem_append_right _ (List.mem_append_right _ (List.mem_append_left _ h))))))
  have j_Y8_isOutOfRank : ∀ w ∈ v_Y8_isOutOfRank, w ∈ v_Y8_againstMove := fun w h => List.mem_cons_of_mem _ (List.mem_append_right _ (List.mem_append_right _ (List.mem_append_right _ (List.mem_append_right _ (List.mem_append_right _ (List.mem_append_right _ (List.mem_append_left _ h)))))))
  have j_Y2_hasFloor : ∀ w ∈ v_Y2_hasFloor, w ∈ v_Y8_againstMove := fun w h => List.mem_cons_of_mem _ (List.mem_append_right _ (List.mem_append_right _ (List.mem_append_right _ (List.mem_append_right _ (List.mem_append_right _ (List.mem_append_right _ (List.mem_append_right _ (List.mem_append_left _ h))))))))
  have j_Y2_hasQuorum : ∀ w ∈ v_Y2_hasQuorum, w ∈ v_Y8_againstMove := fun w h => List.mem_cons_of_mem _ (List.mem_append_right _ (List.mem_append_right _ (List.mem_append_right _ (List.mem_append_right _ (List.mem_append_right _ (List.mem_append_right _ (List.mem_append_right _ (List.mem_append_right _ (List.mem_append_left _ h)))))))))
  have j_Y4_amends : ∀ w ∈ v_Y4_amends, w ∈ v_Y8_againstMove := fun w h => List.mem_cons_of_mem _ (List.mem_append_right _ (List.mem_append_right _ (List.mem_append_right _ (List.mem_append_right _ (List.mem_append_right _ (List.mem_append_right _ (List.mem_append_right _ (List.mem_append_right _ (List.mem_append_right _ (List.mem_append_left _ h))))))))))
  have j_Y8_lacksRoom : ∀ w ∈ v_Y8_lacksRoom, w ∈ v_Y8_againstMove := fun w h => List.mem_cons_of_mem _ (List.mem_append_right _ (List.mem_append_right _ (List.mem_append_right _ (List.mem_append_right _ (List.mem_append_right _ (List.mem_append_right _ (List.mem_append_right _ (List.mem_append_right _ (List.mem_append_right _ (List.mem_append_right _ (List.mem_append_left _ h)))))))))))
  have j_Y8_isOffSubject : ∀ w ∈ v_Y8_isOffSubject, w ∈ v_Y8_againstMove := fun w h => List.mem_cons_of_mem _ (List.mem_append_right _ (List.mem_append_right _ (List.mem_append_right _ (List.mem_append_right _ (List.mem_append_right _ (List.mem_append_right _ (List.mem_append_right _ (List.mem_append_right _ (List.mem_append_right _ (List.mem_append_right _ (List.mem_append_right _ (List.mem_append_left _ h))))))))))))
  have hown : s.vm.findClass RX8 = some m.cls := findClass_of_methodNamed B.named
  have hlocks := B.notSynchronized
  subst hsz
  have hD := hD0.self (sz := s.heap.size)
  generalize hAe : va_A (wsC K ad S) s.heap.size = A at hD ⊢
  have hA : ∀ q : Nat, s.heap.size ≤ q → A q := fun q h => by rw [← hAe]; exact Or.inr h
  have hS : va_S A s.heap s.heap [] := va_S.rf
  have hl : lv_has (lg_sl ([.ref (ad x0), .int a1]) ++ List.replicate (4 - (lg_sl ([.ref (ad x0), .int a1])).length) Slot.unset).toArray 4 [(0, .ref (ad x0)), (1, .int a1)] := by
    exact lv_entry ([.ref (ad x0), .int a1]) (n := 4) (Nat.le_of_ble_eq_true rfl)
  rw [lg_entry_eq]
  generalize (lg_sl ([.ref (ad x0), .int a1]) ++ List.replicate (4 - (lg_sl ([.ref (ad x0), .int a1])).length) Slot.unset).toArray = ls_ at hl ⊢
  refine wGen (fun Q hQ => ?_)
  obtain ⟨X, hX⟩ : ∃ X, f_Y8_againstMove S x0 a1 = X := ⟨_, rfl⟩
  have B_Y8_againstMove_129 : ∀ (x1 : Int32) (x2 : Option Nat) (x3 : Option Nat) (y0 : Int32) (H : Heap) (locs : List Loc) (ls_ : Array Slot), b_Y8_againstMove_129 S x0 x1 x2 x3 y0 = X → q_Y8_againstMove_129 S x0 x1 x2 x3 y0 → va_P G vwCl (wsC K ad S) H → va_D A (wsC K ad S) → va_S A s.heap H locs → lv_has ls_ 4 [(0, .ref (ad x0)), (1, .int x1), (2, va_re ad x2), (3, va_re ad x3)] → W p l e ({ frames := 3, cells := 0, slots := 0, locals := 69 } : Room) s m #[Value.ref (ad x0), Value.int a1] below meth c H locs 0 0 Q (F0 m 129 ls_ [.int y0]) := by
    intro x1 x2 x3 y0 H locs ls_ hE hp hP hD hS hl
    unfold b_Y8_againstMove_129 at hE
    unfold q_Y8_againstMove_129 at hp
    subst hQ
    exact W.iret (v := y0) hx hb hr (fun t ht hW => ⟨⟨y0, S, rfl, (pair_i (hE.trans hX.symm)), by rw [ht]; exact hP, hD⟩, hS.F ht⟩) hS.2.2 dX8_againstMove_129
  have B_Y8_againstMove_114 : ∀ (x1 : Int32) (x2 : Option Nat) (x3 : Option Nat) (H : Heap) (locs : List Loc) (ls_ : Array Slot), b_Y8_againstMove_114 S x0 x1 x2 x3 = X → q_Y8_againstMove_114 S x0 x1 x2 x3 → va_P G vwCl (wsC K ad S) H → va_D A (wsC K ad S) → va_S A s.heap H locs → lv_has ls_ 4 [(0, .ref (ad x0)), (1, .int x1), (2, va_re ad x2), (3, va_re ad x3)] → W p l e ({ frames := 3, cells := 0, slots := 0, locals := 69 } : Room) s m #[Value.ref (ad x0), Value.int a1] below meth c H locs 0 0 Q (F0 m 114 ls_ []) := by
    intro x1 x2 x3 H locs ls_ hE hp hP hD hS hl
    unfold b_Y8_againstMove_114 at hE
    unfold q_Y8_againstMove_114 at hp
    refine lv_aload_n hx hb dX8_againstMove_114 rfl (lv_at hl 0 rfl) ?_
    refine cAload_n (ad := ad) (r := x2) hx hb dX8_againstMove_115 rfl (lv_at hl 2 rfl) ?_
    refine cAload_n (ad := ad) (r := x3) hx hb dX8_againstMove_116 rfl (lv_at hl 3 rfl) ?_
    obtain ⟨hy36, hp⟩ := hp
    refine cGoi (va_runS (As := [.ref (ad x0), va_re ad x2, va_re ad x3]) (rest := []) ⟨hx, hb, hml, hown, hts⟩ (c_Y8_lacksRoom l G K ad S x0 x2 x3 _) (va_cwS 3 hts (wGS t_ (mw (.methodLink RX8 198 yX8_lacksRoom) (List.mem_of_getElem? (i := 28) rfl)) (mw (.static yX8_lacksRoom) (List.mem_of_getElem? (i := 29) rfl)) (mw (.initialized RX8) (List.mem_of_getElem? (i := 15) rfl)) j_Y8_lacksRoom) rfl rfl rfl (by decide +kernel) ⟨Nat.le_of_ble_eq_true rfl, Nat.le_of_ble_eq_true rfl⟩) (cPS hK hTE hP hD ⟨k_x0, hy36⟩) rfl rfl hl.1 rfl (lv_room (Nat.le_of_ble_eq_true rfl)) dX8_againstMove_117 ⟨Nat.le_of_ble_eq_true rfl, Nat.le_of_ble_eq_true rfl⟩) hP hD hS hA (fun r38 u37 H locs hv hP hD hS => ?_)
    have h1 := congrArg Prod.fst hv
    have h2 := (congrArg Prod.snd hv).symm
    dsimp only at h1 h2
    subst h1
    subst h2
    refine lv_if_eq (tgt := 128) hx hb dX8_againstMove_120 (by decide) (fun c39 => ?_) (fun c39 => ?_)
    · rw [if_pos c39] at hE hp
      refine lv_iconst (v := 0) hx hb dX8_againstMove_128 (by decide) ?_
      exact B_Y8_againstMove_129 x1 x2 x3 0 _ _ _ hE hp hP hD hS (lv_sub hl [0, 1, 2, 3] rfl)
    · rw [if_neg c39] at hE hp
      refine lv_bipush (v := 10) hx hb dX8_againstMove_123 (by decide) ?_
      refine lv_goto (tgt := 129) hx hb dX8_againstMove_125 (by decide) ?_
      exact B_Y8_againstMove_129 x1 x2 x3 10 _ _ _ hE hp hP hD hS (lv_sub hl [0, 1, 2, 3] rfl)
  have B_Y8_againstMove_79 : ∀ (x1 : Int32) (x2 : Option Nat) (x3 : Option Nat) (H : Heap) (locs : List Loc) (ls_ : Array Slot), b_Y8_againstMove_79 S x0 x1 x2 x3 = X → q_Y8_againstMove_79 S x0 x1 x2 x3 → va_P G vwCl (wsC K ad S) H → va_D A (wsC K ad S) → va_S A s.heap H locs → lv_has ls_ 4 [(0, .ref (ad x0)), (1, .int x1), (2, va_re ad x2), (3, va_re ad x3)] → W p l e ({ frames := 3, cells := 0, slots := 0, locals := 69 } : Room) s m #[Value.ref (ad x0), Value.int a1] below meth c H locs 0 0 Q (F0 m 79 ls_ []) := by
    intro x1 x2 x3 H locs ls_ hE hp hP hD hS hl
    unfold b_Y8_againstMove_79 at hE
    unfold q_Y8_againstMove_79 at hp
    refine lv_aload_n hx hb dX8_againstMove_79 rfl (lv_at hl 0 rfl) ?_
    refine va_get (D := G) (ci := 0) (v := va_re ad (grC S x0 0)) (C := RX0) (T := TX0) (N := 11) hx hb hts iX0 hown hK hP x0 (at_0 k_x0) rfl 0 (by decide) (hw (.fieldLink RX8 34 "MotionFloor$Assembly" "house" "LMotionFloor$House;") (List.mem_of_getElem? (i := 16) rfl)) (fun _ h9 => h9) rfl dX8_againstMove_80 ?_
    obtain ⟨hy25, hp⟩ := hp
    refine cTop (r := (grC S x0 0)) hy25.1 ?_
    obtain ⟨hy26, hp⟩ := hp
    refine cGoi (va_runV (As := []) (rest := []) ⟨hx, hb, hml, hown, hts⟩ (c_Y2_hasQuorum l G K ad S ((grC S x0 0).getD 0) _) (cwV 0 hts (wGV t_ (mw (.methodLink RX8 191 yX2_hasQuorum) (List.mem_of_getElem? (i := 21) rfl)) (mw (.instanceMethod yX2_hasQuorum) (List.mem_of_getElem? (i := 22) rfl)) (mw (.selects RX2 yX2_hasQuorum yX2_hasQuorum) (List.mem_of_getElem? (i := 23) rfl)) (mw (.initialized RX2) (List.mem_of_getElem? (i := 20) rfl)) j_Y2_hasQuorum) rfl rfl rfl (by decide +kernel) ⟨Nat.le_of_ble_eq_true rfl, Nat.le_of_ble_eq_true rfl⟩) (cPV hK hTE hP hD 1 rfl (at_1 hy25.2) ⟨hy25.2, hy26⟩) rfl rfl hl.1 rfl (lv_room (Nat.le_of_ble_eq_true rfl)) dX8_againstMove_83 ⟨Nat.le_of_ble_eq_true rfl, Nat.le_of_ble_eq_true rfl⟩) hP hD hS hA (fun r28 u27 H locs hv hP hD hS => ?_)
    have h1 := congrArg Prod.fst hv
    have h2 := (congrArg Prod.snd hv).symm
    dsimp only at h1 h2
    subst h1
    subst h2
    refine lv_if_ne (tgt := 91) hx hb dX8_againstMove_86 (by decide) (fun c29 => ?_) (fun c29 => ?_)
    · rw [if_neg c29] at hE hp
      refine cAload_n (ad := ad) (r := x2) hx hb dX8_againstMove_91 rfl (lv_at hl 2 rfl) ?_
      refine cIfnonnull (ad := ad) (r := x2) (tgt := 97) hx hb dX8_againstMove_92 (by decide) (fun c30 => ?_) (fun c30 => ?_)
      · rw [if_pos c30] at hE hp
        refine lv_iconst (v := 0) hx hb dX8_againstMove_95 (by decide) ?_
        subst hQ
        exact W.iret (v := (0 : Int32)) hx hb hr (fun t ht hW => ⟨⟨(0 : Int32), S, rfl, (pair_i (hE.trans hX.symm)), by rw [ht]; exact hP, hD⟩, hS.F ht⟩) hS.2.2 dX8_againstMove_96
      · rw [if_neg c30] at hE hp
        refine cAload_n (ad := ad) (r := x2) hx hb dX8_againstMove_97 rfl (lv_at hl 2 rfl) ?_
        obtain ⟨hy31, hp⟩ := hp
        refine cTop (r := x2) hy31.1 ?_
        obtain ⟨hy32, hp⟩ := hp
        refine cGoi (va_runV (As := []) (rest := []) ⟨hx, hb, hml, hown, hts⟩ (c_Y4_amends l G K ad S (x2.getD 0) _) (cwV 0 hts (wGV t_ (mw (.methodLink RX8 150 yX4_amends) (List.mem_of_getElem? (i := 24) rfl)) (mw (.instanceMethod yX4_amends) (List.mem_of_getElem? (i := 25) rfl)) (mw (.selects RX4 yX4_amends yX4_amends) (List.mem_of_getElem? (i := 26) rfl)) (mw (.initialized RX4) (List.mem_of_getElem? (i := 27) rfl)) j_Y4_amends) rfl rfl rfl (by decide +kernel) ⟨Nat.le_of_ble_eq_true rfl, Nat.le_of_ble_eq_true rfl⟩) (cPV hK hTE hP hD 3 rfl (at_3 hy31.2) ⟨hy31.2, hy32⟩) rfl rfl hl.1 rfl (lv_room (Nat.le_of_ble_eq_true rfl)) dX8_againstMove_98 ⟨Nat.le_of_ble_eq_true rfl, Nat.le_of_ble_eq_true rfl⟩) hP hD hS hA (fun r34 u33 H locs hv hP hD hS => ?_)
        have h1 := congrArg Prod.fst hv
        have h2 := (congrArg Prod.snd hv).symm
        dsimp only at h1 h2
        subst h1
        subst h2
        refine lv_if_eq (tgt := 114) hx hb dX8_againstMove_101 (by decide) (fun c35 => ?_) (fun c35 => ?_)
        · rw [if_pos c35] at hE hp
          exact B_Y8_againstMove_114 x1 x2 x3 _ _ _ hE hp hP hD hS (lv_sub hl [0, 1, 2, 3] rfl)
        · rw [if_neg c35] at hE hp
          refine cAload_n (ad := ad) (r := x2) hx hb dX8_againstMove_104 rfl (lv_at hl 2 rfl) ?_
          refine cAload_n (ad := ad) (r := x3) hx hb dX8_againstMove_105 rfl (lv_at hl 3 rfl) ?_
          obtain ⟨hy40, hp⟩ := hp
          refine cGoi (va_runS (As := [va_re ad x2, va_re ad x3]) (rest := []) ⟨hx, hb, hml, hown, hts⟩ (c_Y8_isOffSubject l G K ad S x2 x3 _) (va_cwS 2 hts (wGS t_ (mw (.methodLink RX8 194 yX8_isOffSubject) (List.mem_of_getElem? (i := 30) rfl)) (mw (.static yX8_isOffSubject) (List.mem_of_getElem? (i := 31) rfl)) (mw (.initialized RX8) (List.mem_of_getElem? (i := 15) rfl)) j_Y8_isOffSubject) rfl rfl rfl (by decide +kernel) ⟨Nat.le_of_ble_eq_true rfl, Nat.le_of_ble_eq_true rfl⟩) (cPS hK hTE hP hD hy40) rfl rfl hl.1 rfl (lv_room (Nat.le_of_ble_eq_true rfl)) dX8_againstMove_106 ⟨Nat.le_of_ble_eq_true rfl, Nat.le_of_ble_eq_true rfl⟩) hP hD hS hA (fun r42 u41 H locs hv hP hD hS => ?_)
          have h1 := congrArg Prod.fst hv
          have h2 := (congrArg Prod.snd hv).symm
          dsimp only at h1 h2
          subst h1
          subst h2
          refine lv_if_eq (tgt := 114) hx hb dX8_againstMove_109 (by decide) (fun c43 => ?_) (fun c43 => ?_)
          · rw [if_pos c43] at hE hp
            exact B_Y8_againstMove_114 x1 x2 x3 _ _ _ hE hp hP hD hS (lv_sub hl [0, 1, 2, 3] rfl)
          · rw [if_neg c43] at hE hp
            refine lv_iconst (v := 5) hx hb dX8_againstMove_112 (by decide) ?_
            subst hQ
            exact W.iret (v := (5 : Int32)) hx hb hr (fun t ht hW => ⟨⟨(5 : Int32), S, rfl, (pair_i (hE.trans hX.symm)), by rw [ht]; exact hP, hD⟩, hS.F ht⟩) hS.2.2 dX8_againstMove_113
    · rw [if_pos c29] at hE hp
      refine lv_iconst (v := 4) hx hb dX8_againstMove_89 (by decide) ?_
      subst hQ
      exact W.iret (v := (4 : Int32)) hx hb hr (fun t ht hW => ⟨⟨(4 : Int32), S, rfl, (pair_i (hE.trans hX.symm)), by rw [ht]; exact hP, hD⟩, hS.F ht⟩) hS.2.2 dX8_againstMove_90
  have B_Y8_againstMove_77 : ∀ (x1 : Int32) (x2 : Option Nat) (x3 : Option Nat) (H : Heap) (locs : List Loc) (ls_ : Array Slot), b_Y8_againstMove_77 S x0 x1 x2 x3 = X → q_Y8_againstMove_77 S x0 x1 x2 x3 → va_P G vwCl (wsC K ad S) H → va_D A (wsC K ad S) → va_S A s.heap H locs → lv_has ls_ 4 [(0, .ref (ad x0)), (1, .int x1), (2, va_re ad x2), (3, va_re ad x3)] → W p l e ({ frames := 3, cells := 0, slots := 0, locals := 69 } : Room) s m #[Value.ref (ad x0), Value.int a1] below meth c H locs 0 0 Q (F0 m 77 ls_ []) := by
    intro x1 x2 x3 H locs ls_ hE hp hP hD hS hl
    unfold b_Y8_againstMove_77 at hE
    unfold q_Y8_againstMove_77 at hp
    refine lv_iconst (v := 3) hx hb dX8_againstMove_77 (by decide) ?_
    subst hQ
    exact W.iret (v := (3 : Int32)) hx hb hr (fun t ht hW => ⟨⟨(3 : Int32), S, rfl, (pair_i (hE.trans hX.symm)), by rw [ht]; exact hP, hD⟩, hS.F ht⟩) hS.2.2 dX8_againstMove_78
  have B_Y8_againstMove_38a : ∀ (x1 : Int32) (x2 : Option Nat) (x3 : Option Nat) (y0 : Int32) (H : Heap) (locs : List Loc) (ls_ : Array Slot), b_Y8_againstMove_38a S x0 x1 x2 x3 y0 = X → q_Y8_againstMove_38a S x0 x1 x2 x3 y0 → va_P G vwCl (wsC K ad S) H → va_D A (wsC K ad S) → va_S A s.heap H locs → lv_has ls_ 4 [(0, .ref (ad x0)), (1, .int x1), (2, va_re ad x2), (3, va_re ad x3)] → W p l e ({ frames := 3, cells := 0, slots := 0, locals := 69 } : Room) s m #[Value.ref (ad x0), Value.int a1] below meth c H locs 0 0 Q (F0 m 38 ls_ [.int y0]) := by
    intro x1 x2 x3 y0 H locs ls_ hE hp hP hD hS hl
    unfold b_Y8_againstMove_38a at hE
    unfold q_Y8_againstMove_38a at hp
    refine lv_if_eq (tgt := 43) hx hb dX8_againstMove_38 (by decide) (fun c18 => ?_) (fun c18 => ?_)
    · rw [if_pos c18] at hE hp
      refine lv_aload_n hx hb dX8_againstMove_43 rfl (lv_at hl 0 rfl) ?_
      refine va_get (D := G) (ci := 0) (v := va_re ad (grC S x0 0)) (C := RX0) (T := TX0) (N := 11) hx hb hts iX0 hown hK hP x0 (at_0 k_x0) rfl 0 (by decide) (hw (.fieldLink RX8 34 "MotionFloor$Assembly" "house" "LMotionFloor$House;") (List.mem_of_getElem? (i := 16) rfl)) (fun _ h9 => h9) rfl dX8_againstMove_44 ?_
      refine lv_iload_n hx hb dX8_againstMove_47 rfl (lv_at hl 1 rfl) ?_
      obtain ⟨hy19, hp⟩ := hp
      refine cTop2 (r := (grC S x0 0)) hy19.1 ?_
      obtain ⟨hy20, hp⟩ := hp
      refine cGoi (va_runV (As := [.int x1]) (rest := []) ⟨hx, hb, hml, hown, hts⟩ (c_Y2_hasFloor l G K ad S ((grC S x0 0).getD 0) x1 _) (cwV 1 hts (wGV t_ (mw (.methodLink RX8 135 yX2_hasFloor) (List.mem_of_getElem? (i := 17) rfl)) (mw (.instanceMethod yX2_hasFloor) (List.mem_of_getElem? (i := 18) rfl)) (mw (.selects RX2 yX2_hasFloor yX2_hasFloor) (List.mem_of_getElem? (i := 19) rfl)) (mw (.initialized RX2) (List.mem_of_getElem? (i := 20) rfl)) j_Y2_hasFloor) rfl rfl rfl (by decide +kernel) ⟨Nat.le_of_ble_eq_true rfl, Nat.le_of_ble_eq_true rfl⟩) (cPV hK hTE hP hD 1 rfl (at_1 hy19.2) ⟨hy19.2, hy20⟩) rfl rfl hl.1 rfl (lv_room (Nat.le_of_ble_eq_true rfl)) dX8_againstMove_48 ⟨Nat.le_of_ble_eq_true rfl, Nat.le_of_ble_eq_true rfl⟩) hP hD hS hA (fun r22 u21 H locs hv hP hD hS => ?_)
      have h1 := congrArg Prod.fst hv
      have h2 := (congrArg Prod.snd hv).symm
      dsimp only at h1 h2
      subst h1
      subst h2
      refine lv_if_ne (tgt := 56) hx hb dX8_againstMove_51 (by decide) (fun c23 => ?_) (fun c23 => ?_)
      · rw [if_neg c23] at hE hp
        refine cAload_n (ad := ad) (r := x3) hx hb dX8_againstMove_56 rfl (lv_at hl 3 rfl) ?_
        refine cIfnull (ad := ad) (r := x3) (tgt := 79) hx hb dX8_againstMove_57 (by decide) (fun c24 => ?_) (fun c24 => ?_)
        · rw [if_pos c24] at hE hp
          exact B_Y8_againstMove_79 x1 x2 x3 _ _ _ hE hp hP hD hS (lv_sub hl [0, 1, 2, 3] rfl)
        · rw [if_neg c24] at hE hp
          refine cAload_n (ad := ad) (r := x3) hx hb dX8_againstMove_60 rfl (lv_at hl 3 rfl) ?_
          obtain ⟨hy44, hp⟩ := hp
          refine cTop (r := x3) hy44.1 ?_
          refine va_get (D := G) (ci := 3) (v := .int (giC S (x3.getD 0) 4)) (C := RX4) (T := TX4) (N := 16) hx hb hts iX4 hown hK hP (x3.getD 0) (at_3 hy44.2) rfl 4 (by decide) (hw (.fieldLink RX8 138 "MotionFloor$Motion" "seconder" "I") (List.mem_of_getElem? (i := 32) rfl)) (fun _ h9 => h9) rfl dX8_againstMove_61 ?_
          refine lv_iconst (v := (-1)) hx hb dX8_againstMove_64 (by decide) ?_
          refine lv_icmp_eq (tgt := 77) hx hb dX8_againstMove_65 (by decide) (fun c45 => ?_) (fun c45 => ?_)
          · rw [if_pos c45] at hE hp
            exact B_Y8_againstMove_77 x1 x2 x3 _ _ _ hE hp hP hD hS (lv_sub hl [0, 1, 2, 3] rfl)
          · rw [if_neg c45] at hE hp
            refine cAload_n (ad := ad) (r := x3) hx hb dX8_againstMove_68 rfl (lv_at hl 3 rfl) ?_
            obtain ⟨hy46, hp⟩ := hp
            refine cTop (r := x3) hy46.1 ?_
            refine va_get (D := G) (ci := 3) (v := .int (giC S (x3.getD 0) 2)) (C := RX4) (T := TX4) (N := 16) hx hb hts iX4 hown hK hP (x3.getD 0) (at_3 hy46.2) rfl 2 (by decide) (hw (.fieldLink RX8 128 "MotionFloor$Motion" "kind" "I") (List.mem_of_getElem? (i := 33) rfl)) (fun _ h9 => h9) rfl dX8_againstMove_69 ?_
            refine lv_bipush (v := 9) hx hb dX8_againstMove_72 (by decide) ?_
            refine lv_icmp_ne (tgt := 79) hx hb dX8_againstMove_74 (by decide) (fun c47 => ?_) (fun c47 => ?_)
            · rw [if_neg c47] at hE hp
              exact B_Y8_againstMove_79 x1 x2 x3 _ _ _ hE hp hP hD hS (lv_sub hl [0, 1, 2, 3] rfl)
            · rw [if_pos c47] at hE hp
              exact B_Y8_againstMove_77 x1 x2 x3 _ _ _ hE hp hP hD hS (lv_sub hl [0, 1, 2, 3] rfl)
      · rw [if_pos c23] at hE hp
        refine lv_iconst (v := 2) hx hb dX8_againstMove_54 (by decide) ?_
        subst hQ
        exact W.iret (v := (2 : Int32)) hx hb hr (fun t ht hW => ⟨⟨(2 : Int32), S, rfl, (pair_i (hE.trans hX.symm)), by rw [ht]; exact hP, hD⟩, hS.F ht⟩) hS.2.2 dX8_againstMove_55
    · rw [if_neg c18] at hE hp
      refine lv_iconst (v := 1) hx hb dX8_againstMove_41 (by decide) ?_
      subst hQ
      exact W.iret (v := (1 : Int32)) hx hb hr (fun t ht hW => ⟨⟨(1 : Int32), S, rfl, (pair_i (hE.trans hX.symm)), by rw [ht]; exact hP, hD⟩, hS.F ht⟩) hS.2.2 dX8_againstMove_42
  have B_M : ∀ (x1 : Int32) (H : Heap) (locs : List Loc) (ls_ : Array Slot), f_Y8_againstMove S x0 x1 = X → p_Y8_againstMove S x0 x1 → va_P G vwCl (wsC K ad S) H → va_D A (wsC K ad S) → va_S A s.heap H locs → lv_has ls_ 4 [(0, .ref (ad x0)), (1, .int x1)] → W p l e ({ frames := 3, cells := 0, slots := 0, locals := 69 } : Room) s m #[Value.ref (ad x0), Value.int a1] below meth c H locs 0 0 Q (F0 m 0 ls_ []) := by
    intro x1 H locs ls_ hE hp hP hD hS hl
    unfold f_Y8_againstMove at hE
    unfold p_Y8_againstMove at hp
    refine lv_aload_n hx hb dX8_againstMove_0 rfl (lv_at hl 0 rfl) ?_
    refine va_get (D := G) (ci := 0) (v := va_re ad (grC S x0 2)) (C := RX0) (T := TX0) (N := 11) hx hb hts iX0 hown hK hP x0 (at_0 k_x0) rfl 2 (by decide) (hw (.fieldLink RX8 141 "MotionFloor$Assembly" "draft" "LMotionFloor$Place;") (List.mem_of_getElem? (i := 0) rfl)) (fun _ h9 => h9) rfl dX8_againstMove_1 ?_
    obtain ⟨hy1, hp⟩ := hp
    refine cTop (r := (grC S x0 2)) hy1.1 ?_
    obtain ⟨hy2, hp⟩ := hp
    refine cGoi (va_runV (As := []) (rest := []) ⟨hx, hb, hml, hown, hts⟩ (c_Y6_isEmpty l G K ad S ((grC S x0 2).getD 0) _) (cwV 0 hts (wGV t_ (mw (.methodLink RX8 170 yX6_isEmpty) (List.mem_of_getElem? (i := 1) rfl)) (mw (.instanceMethod yX6_isEmpty) (List.mem_of_getElem? (i := 2) rfl)) (mw (.selects RX6 yX6_isEmpty yX6_isEmpty) (List.mem_of_getElem? (i := 3) rfl)) (mw (.initialized RX6) (List.mem_of_getElem? (i := 4) rfl)) j_Y6_isEmpty) rfl rfl rfl (by decide +kernel) ⟨Nat.le_of_ble_eq_true rfl, Nat.le_of_ble_eq_true rfl⟩) (cPV hK hTE hP hD 5 rfl (at_5 hy1.2) ⟨hy1.2, hy2⟩) rfl rfl hl.1 rfl (lv_room (Nat.le_of_ble_eq_true rfl)) dX8_againstMove_4 ⟨Nat.le_of_ble_eq_true rfl, Nat.le_of_ble_eq_true rfl⟩) hP hD hS hA (fun r4 u3 H locs hv hP hD hS => ?_)
    have h1 := congrArg Prod.fst hv
    have h2 := (congrArg Prod.snd hv).symm
    dsimp only at h1 h2
    subst h1
    subst h2
    refine lv_if_eq (tgt := 13) hx hb dX8_againstMove_7 (by decide) (fun c5 => ?_) (fun c5 => ?_)
    · rw [if_pos c5] at hE hp
      refine lv_aload_n hx hb dX8_againstMove_13 rfl (lv_at hl 0 rfl) ?_
      refine va_get (D := G) (ci := 0) (v := va_re ad (grC S x0 2)) (C := RX0) (T := TX0) (N := 11) hx hb hts iX0 hown hK hP x0 (at_0 k_x0) rfl 2 (by decide) (hw (.fieldLink RX8 141 "MotionFloor$Assembly" "draft" "LMotionFloor$Place;") (List.mem_of_getElem? (i := 0) rfl)) (fun _ h9 => h9) rfl dX8_againstMove_14 ?_
      obtain ⟨hy6, hp⟩ := hp
      refine cTop (r := (grC S x0 2)) hy6.1 ?_
      obtain ⟨hy7, hp⟩ := hp
      refine cGoq (va_runV (As := []) (rest := []) ⟨hx, hb, hml, hown, hts⟩ (c_Y6_motion l G K ad S ((grC S x0 2).getD 0) _) (cwV 0 hts (wGV t_ (mw (.methodLink RX8 145 yX6_motion) (List.mem_of_getElem? (i := 5) rfl)) (mw (.instanceMethod yX6_motion) (List.mem_of_getElem? (i := 6) rfl)) (mw (.selects RX6 yX6_motion yX6_motion) (List.mem_of_getElem? (i := 7) rfl)) (mw (.initialized RX6) (List.mem_of_getElem? (i := 4) rfl)) j_Y6_motion) rfl rfl rfl (by decide +kernel) ⟨Nat.le_of_ble_eq_true rfl, Nat.le_of_ble_eq_true rfl⟩) (cPV hK hTE hP hD 5 rfl (at_5 hy6.2) ⟨hy6.2, hy7⟩) rfl rfl hl.1 rfl (lv_room (Nat.le_of_ble_eq_true rfl)) dX8_againstMove_17 ⟨Nat.le_of_ble_eq_true rfl, Nat.le_of_ble_eq_true rfl⟩) hP hD hS hA (fun r9 u8 H locs hv hP hD hS => ?_)
      have h1 := congrArg Prod.fst hv
      have h2 := (congrArg Prod.snd hv).symm
      dsimp only at h1 h2
      subst h1
      subst h2
      refine cAstore_n (ad := ad) (r := (f_Y6_motion S ((grC S x0 2).getD 0))) (i := 2) (lv' := [(2, va_re ad (f_Y6_motion S ((grC S x0 2).getD 0))), (0, .ref (ad x0)), (1, .int x1)]) hx hb dX8_againstMove_20 rfl hl (by decide) rfl (fun ls_ hl => ?_)
      refine lv_aload_n hx hb dX8_againstMove_21 rfl (lv_at hl 1 rfl) ?_
      refine va_get (D := G) (ci := 0) (v := va_re ad (grC S x0 1)) (C := RX0) (T := TX0) (N := 11) hx hb hts iX0 hown hK hP x0 (at_0 k_x0) rfl 1 (by decide) (hw (.fieldLink RX8 86 "MotionFloor$Assembly" "pending" "LMotionFloor$Pile;") (List.mem_of_getElem? (i := 8) rfl)) (fun _ h9 => h9) rfl dX8_againstMove_22 ?_
      obtain ⟨hy10, hp⟩ := hp
      refine cTop (r := (grC S x0 1)) hy10.1 ?_
      obtain ⟨hy11, hp⟩ := hp
      refine cGoq (va_runV (As := []) (rest := []) ⟨hx, hb, hml, hown, hts⟩ (c_Y5_top l G K ad S ((grC S x0 1).getD 0) _) (cwV 0 hts (wGV t_ (mw (.methodLink RX8 90 yX5_top) (List.mem_of_getElem? (i := 9) rfl)) (mw (.instanceMethod yX5_top) (List.mem_of_getElem? (i := 10) rfl)) (mw (.selects RX5 yX5_top yX5_top) (List.mem_of_getElem? (i := 11) rfl)) (mw (.initialized RX5) (List.mem_of_getElem? (i := 12) rfl)) j_Y5_top) rfl rfl rfl (by decide +kernel) ⟨Nat.le_of_ble_eq_true rfl, Nat.le_of_ble_eq_true rfl⟩) (cPV hK hTE hP hD 4 rfl (at_4 hy10.2) ⟨hy10.2, hy11⟩) rfl rfl hl.1 rfl (lv_room (Nat.le_of_ble_eq_true rfl)) dX8_againstMove_25 ⟨Nat.le_of_ble_eq_true rfl, Nat.le_of_ble_eq_true rfl⟩) hP hD hS hA (fun r13 u12 H locs hv hP hD hS => ?_)
      have h1 := congrArg Prod.fst hv
      have h2 := (congrArg Prod.snd hv).symm
      dsimp only at h1 h2
      subst h1
      subst h2
      refine cAstore_n (ad := ad) (r := (f_Y5_top S ((grC S x0 1).getD 0))) (i := 3) (lv' := [(3, va_re ad (f_Y5_top S ((grC S x0 1).getD 0))), (2, va_re ad (f_Y6_motion S ((grC S x0 2).getD 0))), (0, .ref (ad x0)), (1, .int x1)]) hx hb dX8_againstMove_28 rfl hl (by decide) (by simp [List.filter, re_cat]) (fun ls_ hl => ?_)
      refine lv_aload_n hx hb dX8_againstMove_29 rfl (lv_at hl 2 rfl) ?_
      refine va_get (D := G) (ci := 0) (v := va_re ad (grC S x0 1)) (C := RX0) (T := TX0) (N := 11) hx hb hts iX0 hown hK hP x0 (at_0 k_x0) rfl 1 (by decide) (hw (.fieldLink RX8 86 "MotionFloor$Assembly" "pending" "LMotionFloor$Pile;") (List.mem_of_getElem? (i := 8) rfl)) (fun _ h9 => h9) rfl dX8_againstMove_30 ?_
      refine cAload_n (ad := ad) (r := (f_Y6_motion S ((grC S x0 2).getD 0))) hx hb dX8_againstMove_33 rfl (lv_at hl 1 rfl) ?_
      refine cAload_n (ad := ad) (r := (f_Y5_top S ((grC S x0 1).getD 0))) hx hb dX8_againstMove_34 rfl (lv_at hl 0 rfl) ?_
      obtain ⟨hy14, hp⟩ := hp
      refine cTop3 (r := (grC S x0 1)) hy14.1 ?_
      obtain ⟨hy15, hp⟩ := hp
      refine cGoi (va_runS (As := [.ref (ad ((grC S x0 1).getD 0)), va_re ad (f_Y6_motion S ((grC S x0 2).getD 0)), va_re ad (f_Y5_top S ((grC S x0 1).getD 0))]) (rest := []) ⟨hx, hb, hml, hown, hts⟩ (c_Y8_isOutOfRank l G K ad S ((grC S x0 1).getD 0) (f_Y6_motion S ((grC S x0 2).getD 0)) (f_Y5_top S ((grC S x0 1).getD 0)) _) (va_cwS 3 hts (wGS t_ (mw (.methodLink RX8 187 yX8_isOutOfRank) (List.mem_of_getElem? (i := 13) rfl)) (mw (.static yX8_isOutOfRank) (List.mem_of_getElem? (i := 14) rfl)) (mw (.initialized RX8) (List.mem_of_getElem? (i := 15) rfl)) j_Y8_isOutOfRank) rfl rfl rfl (by decide +kernel) ⟨Nat.le_of_ble_eq_true rfl, Nat.le_of_ble_eq_true rfl⟩) (cPS hK hTE hP hD ⟨hy14.2, hy15⟩) rfl rfl hl.1 rfl (lv_room (Nat.le_of_ble_eq_true rfl)) dX8_againstMove_35 ⟨Nat.le_of_ble_eq_true rfl, Nat.le_of_ble_eq_true rfl⟩) hP hD hS hA (fun r17 u16 H locs hv hP hD hS => ?_)
      have h1 := congrArg Prod.fst hv
      have h2 := (congrArg Prod.snd hv).symm
      dsimp only at h1 h2
      subst h1
      subst h2
      exact B_Y8_againstMove_38a x1 (f_Y6_motion S ((grC S x0 2).getD 0)) (f_Y5_top S ((grC S x0 1).getD 0)) (f_Y8_isOutOfRank S ((grC S x0 1).getD 0) (f_Y6_motion S ((grC S x0 2).getD 0)) (f_Y5_top S ((grC S x0 1).getD 0))) _ _ _ hE hp hP hD hS (lv_sub hl [2, 3, 1, 0] rfl)
    · rw [if_neg c5] at hE hp
      refine lv_bipush (v := 11) hx hb dX8_againstMove_10 (by decide) ?_
      subst hQ
      exact W.iret (v := (11 : Int32)) hx hb hr (fun t ht hW => ⟨⟨(11 : Int32), S, rfl, (pair_i (hE.trans hX.symm)), by rw [ht]; exact hP, hD⟩, hS.F ht⟩) hS.2.2 dX8_againstMove_12
  exact B_M a1 _ _ _ hX hp hP hD hS hl
theorem dX8_againstOnMotion_11 : decode cX8_againstOnMotion 11 = .ok (.ireturn, 1) := by decide +kernel
set_option maxRecDepth 100000 in
theorem zc426 : wZ (.static yX8_againstMove) := ⟨wT2 (List.mem_of_getElem? (i := 146) (by decide +kernel)), Or.inl rfl⟩
set_option maxRecDepth 100000 in
theorem zc427 : wZ (.methodLink RX8 76 yX8_againstMove) := ⟨wT2 (List.mem_of_getElem? (i := 145) (by decide +kernel)), Or.inl rfl⟩
set_option maxRecDepth 100000 in
theorem zc428 : wZ (.static yX8_againstAppeal) := ⟨wT2 (List.mem_of_getElem? (i := 188) (by decide +kernel)), Or.inl rfl⟩
set_option maxRecDepth 100000 in
theorem zc429 : wZ (.methodLink RX8 111 yX8_againstAppeal) := ⟨wT2 (List.mem_of_getElem? (i := 187) (by decide +kernel)), Or.inl rfl⟩
set_option maxRecDepth 100000 in
theorem zc430 : wZ (.static yX8_againstRule) := ⟨wT2 (List.mem_of_getElem? (i := 185) (by decide +kernel)), Or.inl rfl⟩
set_option maxRecDepth 100000 in
theorem zc431 : wZ (.methodLink RX8 107 yX8_againstRule) := ⟨wT2 (List.mem_of_getElem? (i := 184) (by decide +kernel)), Or.inl rfl⟩
set_option maxRecDepth 100000 in
theorem zc432 : wZ (.static yX8_againstWithdraw) := ⟨wT2 (List.mem_of_getElem? (i := 182) (by decide +kernel)), Or.inl rfl⟩
set_option maxRecDepth 100000 in
theorem zc433 : wZ (.methodLink RX8 104 yX8_againstWithdraw) := ⟨wT2 (List.mem_of_getElem? (i := 181) (by decide +kernel)), Or.inl rfl⟩
set_option maxRecDepth 100000 in
theorem zc434 : wZ (.static yX8_againstVote) := ⟨wT2 (List.mem_of_getElem? (i := 179) (by decide +kernel)), Or.inl rfl⟩
set_option maxRecDepth 100000 in
theorem zc435 : wZ (.methodLink RX8 100 yX8_againstVote) := ⟨wT2 (List.mem_of_getElem? (i := 178) (by decide +kernel)), Or.inl rfl⟩
set_option maxRecDepth 100000 in
theorem zc436 : wZ (.static yX8_againstSecond) := ⟨wT2 (List.mem_of_getElem? (i := 176) (by decide +kernel)), Or.inl rfl⟩
set_option maxRecDepth 100000 in
theorem zc437 : wZ (.methodLink RX8 96 yX8_againstSecond) := ⟨wT2 (List.mem_of_getElem? (i := 175) (by decide +kernel)), Or.inl rfl⟩
set_option maxRecDepth 100000 in
theorem zc438 : wZ (.code yX8_againstOnMotion cX8_againstOnMotion 6 (some .int)) := ⟨wT2 (List.mem_of_getElem? (i := 144) rfl), Or.inl rfl⟩
def b_Y8_againstOnMotion_134a (S : Cst) (x0 : Nat) (x1 : Int32) (x2 : Int32) (x3 : Int32) (x4 : Int32) (x5 : Option Nat) (y0 : Int32) : Int32 := y0
def q_Y8_againstOnMotion_134a (S : Cst) (x0 : Nat) (x1 : Int32) (x2 : Int32) (x3 : Int32) (x4 : Int32) (x5 : Option Nat) (y0 : Int32) : Prop := True
def b_Y8_againstOnMotion_146a (S : Cst) (x0 : Nat) (x1 : Int32) (x2 : Int32) (x3 : Int32) (x4 : Int32) (x5 : Option Nat) (y0 : Int32) : Int32 := y0
def q_Y8_againstOnMotion_146a (S : Cst) (x0 : Nat) (x1 : Int32) (x2 : Int32) (x3 : Int32) (x4 : Int32) (x5 : Option Nat) (y0 : Int32) : Prop := True
def b_Y8_againstOnMotion_157a (S : Cst) (x0 : Nat) (x1 : Int32) (x2 : Int32) (x3 : Int32) (x4 : Int32) (x5 : Option Nat) (y0 : Int32) : Int32 := y0
def q_Y8_againstOnMotion_157a (S : Cst) (x0 : Nat) (x1 : Int32) (x2 : Int32) (x3 : Int32) (x4 : Int32) (x5 : Option Nat) (y0 : Int32) : Prop := True
def b_Y8_againstOnMotion_175a (S : Cst) (x0 : Nat) (x1 : Int32) (x2 : Int32) (x3 : Int32) (x4 : Int32) (x5 : Option Nat) (y0 : Int32) : Int32 := y0
def q_Y8_againstOnMotion_175a (S : Cst) (x0 : Nat) (x1 : Int32) (x2 : Int32) (x3 : Int32) (x4 : Int32) (x5 : Option Nat) (y0 : Int32) : Prop := True
def b_Y8_againstOnMotion_66 (S : Cst) (x0 : Nat) (x1 : Int32) (x2 : Int32) (x3 : Int32) (x4 : Int32) : Int32 := if (f_Y5_top S ((grC S x0 1).getD 0)) = none then (7 : Int32) else if x1 = 16 then (b_Y8_againstOnMotion_134a S x0 x1 x2 x3 x4 (f_Y5_top S ((grC S x0 1).getD 0)) (f_Y8_againstSecond S ((grC S x0 0).getD 0) (f_Y5_top S ((grC S x0 1).getD 0)) x2)) else if x1 = 17 then (b_Y8_againstOnMotion_146a S x0 x1 x2 x3 x4 (f_Y5_top S ((grC S x0 1).getD 0)) (f_Y8_againstVote S ((grC S x0 0).getD 0) (f_Y5_top S ((grC S x0 1).getD 0)) x2 x3)) else if x1 = 18 then (b_Y8_againstOnMotion_157a S x0 x1 x2 x3 x4 (f_Y5_top S ((grC S x0 1).getD 0)) (f_Y8_againstWithdraw S ((grC S x0 0).getD 0) (f_Y5_top S ((grC S x0 1).getD 0)) x2)) else if x1 = 19 then (f_Y8_againstRule S x0 (f_Y5_top S ((grC S x0 1).getD 0))) else if x1 = 20 then (b_Y8_againstOnMotion_175a S x0 x1 x2 x3 x4 (f_Y5_top S ((grC S x0 1).getD 0)) (f_Y8_againstAppeal S ((grC S x0 0).getD 0) (f_Y5_top S ((grC S x0 1).getD 0)) x2)) else if x1 = 21 then (0 : Int32) else (11 : Int32)
def q_Y8_againstOnMotion_66 (S : Cst) (x0 : Nat) (x1 : Int32) (x2 : Int32) (x3 : Int32) (x4 : Int32) : Prop := (iR S (grC S x0 1) 4) ∧ (p_Y5_top S ((grC S x0 1).getD 0)) ∧ (if (f_Y5_top S ((grC S x0 1).getD 0)) = none then True else (if x1 = 16 then (iR S (grC S x0 0) 1) ∧ (p_Y8_againstSecond S ((grC S x0 0).getD 0) (f_Y5_top S ((grC S x0 1).getD 0)) x2) ∧ (q_Y8_againstOnMotion_134a S x0 x1 x2 x3 x4 (f_Y5_top S ((grC S x0 1).getD 0)) (f_Y8_againstSecond S ((grC S x0 0).getD 0) (f_Y5_top S ((grC S x0 1).getD 0)) x2)) else (if x1 = 17 then (iR S (grC S x0 0) 1) ∧ (p_Y8_againstVote S ((grC S x0 0).getD 0) (f_Y5_top S ((grC S x0 1).getD 0)) x2 x3) ∧ (q_Y8_againstOnMotion_146a S x0 x1 x2 x3 x4 (f_Y5_top S ((grC S x0 1).getD 0)) (f_Y8_againstVote S ((grC S x0 0).getD 0) (f_Y5_top S ((grC S x0 1).getD 0)) x2 x3)) else (if x1 = 18 then (iR S (grC S x0 0) 1) ∧ (p_Y8_againstWithdraw S ((grC S x0 0).getD 0) (f_Y5_top S ((grC S x0 1).getD 0)) x2) ∧ (q_Y8_againstOnMotion_157a S x0 x1 x2 x3 x4 (f_Y5_top S ((grC S x0 1).getD 0)) (f_Y8_againstWithdraw S ((grC S x0 0).getD 0) (f_Y5_top S ((grC S x0 1).getD 0)) x2)) else (if x1 = 19 then (p_Y8_againstRule S x0 (f_Y5_top S ((grC S x0 1).getD 0))) ∧ True else (if x1 = 20 then (iR S (grC S x0 0) 1) ∧ (p_Y8_againstAppeal S ((grC S x0 0).getD 0) (f_Y5_top S ((grC S x0 1).getD 0)) x2) ∧ (q_Y8_againstOnMotion_175a S x0 x1 x2 x3 x4 (f_Y5_top S ((grC S x0 1).getD 0)) (f_Y8_againstAppeal S ((grC S x0 0).getD 0) (f_Y5_top S ((grC S x0 1).getD 0)) x2)) else (if x1 = 21 then True else True)))))))
def b_Y8_againstOnMotion_58 (S : Cst) (x0 : Nat) (x1 : Int32) (x2 : Int32) (x3 : Int32) (x4 : Int32) : Int32 := if x4 = 0 then (8 : Int32) else (b_Y8_againstOnMotion_66 S x0 x1 x2 x3 x4)
def q_Y8_againstOnMotion_58 (S : Cst) (x0 : Nat) (x1 : Int32) (x2 : Int32) (x3 : Int32) (x4 : Int32) : Prop := (if x4 = 0 then True else (q_Y8_againstOnMotion_66 S x0 x1 x2 x3 x4))
def b_Y8_againstOnMotion_45 (S : Cst) (x0 : Nat) (x1 : Int32) (x2 : Int32) (x3 : Int32) (x4 : Int32) (y0 : Int32) : Int32 := y0
def q_Y8_againstOnMotion_45 (S : Cst) (x0 : Nat) (x1 : Int32) (x2 : Int32) (x3 : Int32) (x4 : Int32) (y0 : Int32) : Prop := True
def f_Y8_againstOnMotion (S : Cst) (x0 : Nat) (x1 : Int32) (x2 : Int32) (x3 : Int32) : Int32 := if x1 = 15 then (f_Y8_againstMove S x0 x2) else if x1 = 22 then if (f_Y2_isThere S ((grC S x0 0).getD 0) (giC S ((grC S x0 0).getD 0) 3)) = 0 then (b_Y8_againstOnMotion_45 S x0 x1 x2 x3 (f_Y2_isThere S ((grC S x0 0).getD 0) (giC S ((grC S x0 0).getD 0) 3)) 8) else (b_Y8_againstOnMotion_45 S x0 x1 x2 x3 (f_Y2_isThere S ((grC S x0 0).getD 0) (giC S ((grC S x0 0).getD 0) 3)) 0) else if x1 = 19 then (b_Y8_againstOnMotion_58 S x0 x1 x2 x3 (f_Y2_isThere S ((grC S x0 0).getD 0) (giC S ((grC S x0 0).getD 0) 3))) else if x1 = 21 then (b_Y8_againstOnMotion_58 S x0 x1 x2 x3 (f_Y2_isThere S ((grC S x0 0).getD 0) (giC S ((grC S x0 0).getD 0) 3))) else (b_Y8_againstOnMotion_66 S x0 x1 x2 x3 (f_Y2_isThere S ((grC S x0 0).getD 0) (giC S ((grC S x0 0).getD 0) 3)))
def p_Y8_againstOnMotion (S : Cst) (x0 : Nat) (x1 : Int32) (x2 : Int32) (x3 : Int32) : Prop := (if x1 = 15 then (p_Y8_againstMove S x0 x2) ∧ True else (iR S (grC S x0 0) 1) ∧ (iR S (grC S x0 0) 1) ∧ (p_Y2_isThere S ((grC S x0 0).getD 0) (giC S ((grC S x0 0).getD 0) 3)) ∧ (if x1 = 22 then (if (f_Y2_isThere S ((grC S x0 0).getD 0) (giC S ((grC S x0 0).getD 0) 3)) = 0 then (q_Y8_againstOnMotion_45 S x0 x1 x2 x3 (f_Y2_isThere S ((grC S x0 0).getD 0) (giC S ((grC S x0 0).getD 0) 3)) 8) else (q_Y8_againstOnMotion_45 S x0 x1 x2 x3 (f_Y2_isThere S ((grC S x0 0).getD 0) (giC S ((grC S x0 0).getD 0) 3)) 0)) else (if x1 = 19 then (q_Y8_againstOnMotion_58 S x0 x1 x2 x3 (f_Y2_isThere S ((grC S x0 0).getD 0) (giC S ((grC S x0 0).getD 0) 3))) else (if x1 = 21 then (q_Y8_againstOnMotion_58 S x0 x1 x2 x3 (f_Y2_isThere S ((grC S x0 0).getD 0) (giC S ((grC S x0 0).getD 0) 3))) else (q_Y8_againstOnMotion_66 S x0 x1 x2 x3 (f_Y2_isThere S ((grC S x0 0).getD 0) (giC S ((grC S x0 0).getD 0) 3)))))))
def e_Y8_againstOnMotion : List Cond := [.fieldLink RX8 34 "MotionFloor$Assembly" "house" "LMotionFloor$House;", .fieldLink RX8 79 "MotionFloor$House" "chair" "I", .methodLink RX8 82 yX2_isThere, .instanceMethod yX2_isThere, .selects RX2 yX2_isThere yX2_isThere, .initialized RX2, .fieldLink RX8 86 "MotionFloor$Assembly" "pending" "LMotionFloor$Pile;", .methodLink RX8 90 yX5_top, .instanceMethod yX5_top, .selects RX5 yX5_top yX5_top, .initialized RX5, .methodLink RX8 96 yX8_againstSecond, .static yX8_againstSecond, .initialized RX8, .methodLink RX8 100 yX8_againstVote, .static yX8_againstVote, .methodLink RX8 104 yX8_againstWithdraw, .static yX8_againstWithdraw, .methodLink RX8 107 yX8_againstRule, .static yX8_againstRule, .methodLink RX8 111 yX8_againstAppeal, .static yX8_againstAppeal, .methodLink RX8 76 yX8_againstMove, .static yX8_againstMove]
def v_Y8_againstOnMotion : List Cond := .code yX8_againstOnMotion cX8_againstOnMotion 6 (some .int) :: (e_Y8_againstOnMotion ++ (wsX00 ++ (wsX20 ++ (v_Y2_isThere ++ (v_Y5_top ++ (v_Y8_againstSecond ++ (v_Y8_againstVote ++ (v_Y8_againstWithdraw ++ (v_Y8_againstRule ++ (v_Y8_againstAppeal ++ (v_Y8_againstMove ++ [])))))))))))
theorem te_Y8_againstOnMotion : GoodIn lw_tbl e_Y8_againstOnMotion := wGc zc418 (wGc zc369 (wGc zc366 (wGc zc226 (wGc zc225 (wGc zc77 (wGc zc380 (wGc zc421 (wGc zc179 (wGc zc178 (wGc zc34 (wGc zc437 (wGc zc436 (wGc zc373 (wGc zc435 (wGc zc434 (wGc zc433 (wGc zc432 (wGc zc431 (wGc zc430 (wGc zc429 (wGc zc428 (wGc zc427 (wGc zc426 (wG0))))))))))))))))))))))))
theorem t_Y8_againstOnMotion : GoodIn lw_tbl v_Y8_againstOnMotion := wGc zc438 (wGa te_Y8_againstOnMotion (wGa zcX0 (wGa zcX2 (wGa t_Y2_isThere (wGa t_Y5_top (wGa t_Y8_againstSecond (wGa t_Y8_againstVote (wGa t_Y8_againstWithdraw (wGa t_Y8_againstRule (wGa t_Y8_againstAppeal (wGa t_Y8_againstMove (wG0))))))))))))
set_option maxHeartbeats 4000000 in
set_option maxRecDepth 100000 in
theorem c_Y8_againstOnMotion (l : Launch) (G : va_G) (K : Nat → ClassId) (ad : Nat → Nat) (S : Cst) (x0 : Nat) (a1 : Int32) (a2 : Int32) (a3 : Int32) (sz : Nat) : Met l yX8_againstOnMotion v_Y8_againstOnMotion ({ frames := 4, cells := 0, slots := 0, locals := 92 }) (va_Pc [.ref (ad x0), .int a1, .int a2, .int a3] (cSt G K ad sz S (iK S x0 0 ∧ p_Y8_againstOnMotion S x0 a1 a2 a3))) (va_Qi (fun (r : Int32) (u : Cst) => (r, u) = (f_Y8_againstOnMotion S x0 a1 a2 a3, S)) (cBt G K ad (va_A (wsC K ad S) sz)) (va_A (wsC K ad S) sz)) 0 0 (va_A (wsC K ad S) sz) := by
  refine Met.ofW (cc := cX8_againstOnMotion) (maxL := 6) (ret := (some .int)) (by decide) rfl ?_
  intro p e s m args below meth c s₁ B hml hv
  obtain ⟨rfl, ⟨hsz, hP, hK, hD0, hTE⟩, hp⟩ := hv
  obtain ⟨k_x0, hp⟩ := hp
  have hx := B.exec
  have hb := B.bytes
  have hr := B.returns
  have hts := atoms_spec (ws := v_Y8_againstOnMotion) B.pre
  have t_ := t_Y8_againstOnMotion
  have mw : ∀ w ∈ e_Y8_againstOnMotion, w ∈ v_Y8_againstOnMotion := fun w h => List.mem_cons_of_mem _ (List.mem_append_left _ h)
  have hw := fun w (h : w ∈ e_Y8_againstOnMotion) => hts w (mw w h)
  have iX0 : ∀ w ∈ wsX00, w ∈ v_Y8_againstOnMotion := fun w h => List.mem_cons_of_mem _ (List.mem_append_right _ (List.mem_append_left _ h))
  have iX2 : ∀ w ∈ wsX20, w ∈ v_Y8_againstOnMotion := fun w h => List.mem_cons_of_mem _ (List.mem_append_right _ (List.mem_append_right _ (List.mem_append_left _ h)))
  have j_Y2_isThere : ∀ w ∈ v_Y2_isThere, w ∈ v_Y8_againstOnMotion := fun w h => List.mem_cons_of_mem _ (List.mem_append_right _ (List.mem_append_right _ (List.mem_append_right _ (List.mem_append_left _ h))))
  have j_Y5_top : ∀ w ∈ v_Y5_top, w ∈ v_Y8_againstOnMotion := fun w h => List.mem_cons_of_mem _ (List.mem_append_right _ (List.mem_append_right _ (List.mem_append_right _ (List.mem_append_right _ (List.mem_append_left _ h)))))
  have j_Y8_againstSecond : ∀ w ∈ v_Y8_againstSecond, w ∈ v_Y8_againstOnMotion := fun w h => List.mem_cons_of_mem _ (List.mem_append_right _ (List.mem_append_right _ (List.mem_append_right _ (List.mem_append_right _ (List.mem_append_right _ (List.mem_append_left _ h))))))
  have j_Y8_againstVote : ∀ w ∈ v_Y8_againstVote, w ∈ v_Y8_againstOnMotion := fun w h => List.mem_cons_of_mem _ (List.mem_append_right _ (List.mem_append_right _ (List.mem_append_right _ (List.mem_append_right _ (List.mem_append_right _ (List.mem_append_right _ (List.mem_append_left _ h)))))))
  have j_Y8_againstWithdraw : ∀ w ∈ v_Y8_againstWithdraw, w ∈ v_Y8_againstOnMotion := fun w h => List.mem_cons_of_mem _ (List.mem_append_right _ (List.mem_append_right _ (List.mem_append_right _ (List.mem_append_right _ (List.mem_append_right _ (List.mem_append_right _ (List.mem_append_right _ (List.mem_append_left _ h))))))))
  have j_Y8_againstRule : ∀ w ∈ v_Y8_againstRule, w ∈ v_Y8_againstOnMotion := fun w h => List.mem_cons_of_mem _ (List.mem_append_right _ (List.mem_append_right _ (List.mem_append_right _ (List.mem_append_right _ (List.mem_append_right _ (List.mem_append_right _ (List.mem_append_right _ (List.mem_append_right _ (List.mem_append_left _ h)))))))))
  have j_Y8_againstAppeal : ∀ w ∈ v_Y8_againstAppeal, w ∈ v_Y8_againstOnMotion := fun w h => List.mem_cons_of_mem _ (List.mem_append_right _ (List.mem_append_right _ (List.mem_append_right _ (List.mem_append_right _ (List.mem_append_right _ (List.mem_append_right _ (List.mem_append_right _ (List.mem_append_right _ (List.mem_append_right _ (List.mem_append_left _ h))))))))))
  have j_Y8_againstMove : ∀ w ∈ v_Y8_againstMove, w ∈ v_Y8_againstOnMotion := fun w h => List.mem_cons_of_mem _ (List.mem_append_right _ (List.mem_append_right _ (List.mem_append_right _ (List.mem_append_right _ (List.mem_append_right _ (List.mem_append_right _ (List.mem_append_right _ (List.mem_append_right _ (List.mem_append_right _ (List.mem_append_right _ (List.mem_append_left _ h)))))))))))
  have hown : s.vm.findClass RX8 = some m.cls := findClass_of_methodNamed B.named
  have hlocks := B.notSynchronized
  subst hsz
  have hD := hD0.self (sz := s.heap.size)
  generalize hAe : va_A (wsC K ad S) s.heap.size = A at hD ⊢
  have hA : ∀ q : Nat, s.heap.size ≤ q → A q := fun q h => by rw [← hAe]; exact Or.inr h
  have hS : va_S A s.heap s.heap [] := va_S.rf
  have hl : lv_has (lg_sl ([.ref (ad x0), .int a1, .int a2, .int a3]) ++ List.replicate (6 - (lg_sl ([.ref (ad x0), .int a1, .int a2, .int a3])).length) Slot.unset).toArray 6 [(0, .ref (ad x0)), (1, .int a1), (2, .int a2), (3, .int a3)] := by
    exact lv_entry ([.ref (ad x0), .int a1, .int a2, .int a3]) (n := 6) (Nat.le_of_ble_eq_true rfl)
  rw [lg_entry_eq]
  generalize (lg_sl ([.ref (ad x0), .int a1, .int a2, .int a3]) ++ List.replicate (6 - (lg_sl ([.ref (ad x0), .int a1, .int a2, .int a3])).length) Slot.unset).toArray = ls_ at hl ⊢
  refine wGen (fun Q hQ => ?_)
  obtain ⟨X, hX⟩ : ∃ X, f_Y8_againstOnMotion S x0 a1 a2 a3 = X := ⟨_, rfl⟩
  have B_Y8_againstOnMotion_134a : ∀ (x1 : Int32) (x2 : Int32) (x3 : Int32) (x4 : Int32) (x5 : Option Nat) (y0 : Int32) (H : Heap) (locs : List Loc) (ls_ : Array Slot), b_Y8_againstOnMotion_134a S x0 x1 x2 x3 x4 x5 y0 = X → q_Y8_againstOnMotion_134a S x0 x1 x2 x3 x4 x5 y0 → va_P G vwCl (wsC K ad S) H → va_D A (wsC K ad S) → va_S A s.heap H locs → lv_has ls_ 6 [(0, .ref (ad x0)), (1, .int x1), (2, .int x2), (3, .int x3), (4, .int x4), (5, va_re ad x5)] → W p l e ({ frames := 4, cells := 0, slots := 0, locals := 92 } : Room) s m #[Value.ref (ad x0), Value.int a1, Value.int a2, Value.int a3] below meth c H locs 0 0 Q (F0 m 134 ls_ [.int y0]) := by
    intro x1 x2 x3 x4 x5 y0 H locs ls_ hE hp hP hD hS hl
    unfold b_Y8_againstOnMotion_134a at hE
    unfold q_Y8_againstOnMotion_134a at hp
    subst hQ
    exact W.iret (v := y0) hx hb hr (fun t ht hW => ⟨⟨y0, S, rfl, (pair_i (hE.trans hX.symm)), by rw [ht]; exact hP, hD⟩, hS.F ht⟩) hS.2.2 dX8_againstOnMotion_134
  have B_Y8_againstOnMotion_146a : ∀ (x1 : Int32) (x2 : Int32) (x3 : Int32) (x4 : Int32) (x5 : Option Nat) (y0 : Int32) (H : Heap) (locs : List Loc) (ls_ : Array Slot), b_Y8_againstOnMotion_146a S x0 x1 x2 x3 x4 x5 y0 = X → q_Y8_againstOnMotion_146a S x0 x1 x2 x3 x4 x5 y0 → va_P G vwCl (wsC K ad S) H → va_D A (wsC K ad S) → va_S A s.heap H locs → lv_has ls_ 6 [(0, .ref (ad x0)), (1, .int x1), (2, .int x2), (3, .int x3), (4, .int x4), (5, va_re ad x5)] → W p l e ({ frames := 4, cells := 0, slots := 0, locals := 92 } : Room) s m #[Value.ref (ad x0), Value.int a1, Value.int a2, Value.int a3] below meth c H locs 0 0 Q (F0 m 146 ls_ [.int y0]) := by
    intro x1 x2 x3 x4 x5 y0 H locs ls_ hE hp hP hD hS hl
    unfold b_Y8_againstOnMotion_146a at hE
    unfold q_Y8_againstOnMotion_146a at hp
    subst hQ
    exact W.iret (v := y0) hx hb hr (fun t ht hW => ⟨⟨y0, S, rfl, (pair_i (hE.trans hX.symm)), by rw [ht]; exact hP, hD⟩, hS.F ht⟩) hS.2.2 dX8_againstOnMotion_146
  have B_Y8_againstOnMotion_157a : ∀ (x1 : Int32) (x2 : Int32) (x3 : Int32) (x4 : Int32) (x5 : Option Nat) (y0 : Int32) (H : Heap) (locs : List Loc) (ls_ : Array Slot), b_Y8_againstOnMotion_157a S x0 x1 x2 x3 x4 x5 y0 = X → q_Y8_againstOnMotion_157a S x0 x1 x2 x3 x4 x5 y0 → va_P G vwCl (wsC K ad S) H → va_D A (wsC K ad S) → va_S A s.heap H locs → lv_has ls_ 6 [(0, .ref (ad x0)), (1, .int x1), (2, .int x2), (3, .int x3), (4, .int x4), (5, va_re ad x5)] → W p l e ({ frames := 4, cells := 0, slots := 0, locals := 92 } : Room) s m #[Value.ref (ad x0), Value.int a1, Value.int a2, Value.int a3] below meth c H locs 0 0 Q (F0 m 157 ls_ [.int y0]) := by
    intro x1 x2 x3 x4 x5 y0 H locs ls_ hE hp hP hD hS hl
    unfold b_Y8_againstOnMotion_157a at hE
    unfold q_Y8_againstOnMotion_157a at hp
    subst hQ
    exact W.iret (v := y0) hx hb hr (fun t ht hW => ⟨⟨y0, S, rfl, (pair_i (hE.trans hX.symm)), by rw [ht]; exact hP, hD⟩, hS.F ht⟩) hS.2.2 dX8_againstOnMotion_157
  have B_Y8_againstOnMotion_175a : ∀ (x1 : Int32) (x2 : Int32) (x3 : Int32) (x4 : Int32) (x5 : Option Nat) (y0 : Int32) (H : Heap) (locs : List Loc) (ls_ : Array Slot), b_Y8_againstOnMotion_175a S x0 x1 x2 x3 x4 x5 y0 = X → q_Y8_againstOnMotion_175a S x0 x1 x2 x3 x4 x5 y0 → va_P G vwCl (wsC K ad S) H → va_D A (wsC K ad S) → va_S A s.heap H locs → lv_has ls_ 6 [(0, .ref (ad x0)), (1, .int x1), (2, .int x2), (3, .int x3), (4, .int x4), (5, va_re ad x5)] → W p l e ({ frames := 4, cells := 0, slots := 0, locals := 92 } : Room) s m #[Value.ref (ad x0), Value.int a1, Value.int a2, Value.int a3] below meth c H locs 0 0 Q (F0 m 175 ls_ [.int y0]) := by
    intro x1 x2 x3 x4 x5 y0 H locs ls_ hE hp hP hD hS hl
    unfold b_Y8_againstOnMotion_175a at hE
    unfold q_Y8_againstOnMotion_175a at hp
    subst hQ
    exact W.iret (v := y0) hx hb hr (fun t ht hW => ⟨⟨y0, S, rfl, (pair_i (hE.trans hX.symm)), by rw [ht]; exact hP, hD⟩, hS.F ht⟩) hS.2.2 dX8_againstOnMotion_175
  have B_Y8_againstOnMotion_66 : ∀ (x1 : Int32) (x2 : Int32) (x3 : Int32) (x4 : Int32) (H : Heap) (locs : List Loc) (ls_ : Array Slot), b_Y8_againstOnMotion_66 S x0 x1 x2 x3 x4 = X → q_Y8_againstOnMotion_66 S x0 x1 x2 x3 x4 → va_P G vwCl (wsC K ad S) H → va_D A (wsC K ad S) → va_S A s.heap H locs → lv_has ls_ 6 [(0, .ref (ad x0)), (1, .int x1), (2, .int x2), (3, .int x3), (4, .int x4)] → W p l e ({ frames := 4, cells := 0, slots := 0, locals := 92 } : Room) s m #[Value.ref (ad x0), Value.int a1, Value.int a2, Value.int a3] below meth c H locs 0 0 Q (F0 m 66 ls_ []) := by
    intro x1 x2 x3 x4 H locs ls_ hE hp hP hD hS hl
    unfold b_Y8_againstOnMotion_66 at hE
    unfold q_Y8_againstOnMotion_66 at hp
    refine lv_aload_n hx hb dX8_againstOnMotion_66 rfl (lv_at hl 0 rfl) ?_
    refine va_get (D := G) (ci := 0) (v := va_re ad (grC S x0 1)) (C := RX0) (T := TX0) (N := 11) hx hb hts iX0 hown hK hP x0 (at_0 k_x0) rfl 1 (by decide) (hw (.fieldLink RX8 86 "MotionFloor$Assembly" "pending" "LMotionFloor$Pile;") (List.mem_of_getElem? (i := 6) rfl)) (fun _ h9 => h9) rfl dX8_againstOnMotion_67 ?_
    obtain ⟨hy10, hp⟩ := hp
    refine cTop (r := (grC S x0 1)) hy10.1 ?_
    obtain ⟨hy11, hp⟩ := hp
    refine cGoq (va_runV (As := []) (rest := []) ⟨hx, hb, hml, hown, hts⟩ (c_Y5_top l G K ad S ((grC S x0 1).getD 0) _) (cwV 0 hts (wGV t_ (mw (.methodLink RX8 90 yX5_top) (List.mem_of_getElem? (i := 7) rfl)) (mw (.instanceMethod yX5_top) (List.mem_of_getElem? (i := 8) rfl)) (mw (.selects RX5 yX5_top yX5_top) (List.mem_of_getElem? (i := 9) rfl)) (mw (.initialized RX5) (List.mem_of_getElem? (i := 10) rfl)) j_Y5_top) rfl rfl rfl (by decide +kernel) ⟨Nat.le_of_ble_eq_true rfl, Nat.le_of_ble_eq_true rfl⟩) (cPV hK hTE hP hD 4 rfl (at_4 hy10.2) ⟨hy10.2, hy11⟩) rfl rfl hl.1 rfl (lv_room (Nat.le_of_ble_eq_true rfl)) dX8_againstOnMotion_70 ⟨Nat.le_of_ble_eq_true rfl, Nat.le_of_ble_eq_true rfl⟩) hP hD hS hA (fun r13 u12 H locs hv hP hD hS => ?_)
    have h1 := congrArg Prod.fst hv
    have h2 := (congrArg Prod.snd hv).symm
    dsimp only at h1 h2
    subst h1
    subst h2
    refine cAstore (ad := ad) (r := (f_Y5_top S ((grC S x0 1).getD 0))) (i := 5) (lv' := [(5, va_re ad (f_Y5_top S ((grC S x0 1).getD 0))), (0, .ref (ad x0)), (1, .int x1), (2, .int x2), (3, .int x3), (4, .int x4)]) hx hb dX8_againstOnMotion_73 hl (by decide) rfl (fun ls_ hl => ?_)
    refine cAload (ad := ad) (r := (f_Y5_top S ((grC S x0 1).getD 0))) hx hb dX8_againstOnMotion_75 (lv_at hl 0 rfl) ?_
    refine cIfnonnull (ad := ad) (r := (f_Y5_top S ((grC S x0 1).getD 0))) (tgt := 83) hx hb dX8_againstOnMotion_77 (by decide) (fun c14 => ?_) (fun c14 => ?_)
    · rw [if_pos c14] at hE hp
      refine lv_bipush (v := 7) hx hb dX8_againstOnMotion_80 (by decide) ?_
      subst hQ
      exact W.iret (v := (7 : Int32)) hx hb hr (fun t ht hW => ⟨⟨(7 : Int32), S, rfl, (pair_i (hE.trans hX.symm)), by rw [ht]; exact hP, hD⟩, hS.F ht⟩) hS.2.2 dX8_againstOnMotion_82
    · rw [if_neg c14] at hE hp
      refine lv_iload_n hx hb dX8_againstOnMotion_83 rfl (lv_at hl 2 rfl) ?_
      by_cases s16 : x1 = 16
      · rw [if_pos s16] at hE hp
        refine lv_tableIn (off := 40) (tgt := 124) hx hb dX8_againstOnMotion_84 (by rw [s16]; decide) (by rw [s16]; decide) (by rw [s16]; decide) (by decide) ?_
        refine lv_aload_n hx hb dX8_againstOnMotion_124 rfl (lv_at hl 1 rfl) ?_
        refine va_get (D := G) (ci := 0) (v := va_re ad (grC S x0 0)) (C := RX0) (T := TX0) (N := 11) hx hb hts iX0 hown hK hP x0 (at_0 k_x0) rfl 0 (by decide) (hw (.fieldLink RX8 34 "MotionFloor$Assembly" "house" "LMotionFloor$House;") (List.mem_of_getElem? (i := 0) rfl)) (fun _ h9 => h9) rfl dX8_againstOnMotion_125 ?_
        refine cAload (ad := ad) (r := (f_Y5_top S ((grC S x0 1).getD 0))) hx hb dX8_againstOnMotion_128 (lv_at hl 0 rfl) ?_
        refine lv_iload_n hx hb dX8_againstOnMotion_130 rfl (lv_at hl 3 rfl) ?_
        obtain ⟨hy15, hp⟩ := hp
        refine cTop3 (r := (grC S x0 0)) hy15.1 ?_
        obtain ⟨hy16, hp⟩ := hp
        refine cGoi (va_runS (As := [.ref (ad ((grC S x0 0).getD 0)), va_re ad (f_Y5_top S ((grC S x0 1).getD 0)), .int x2]) (rest := []) ⟨hx, hb, hml, hown, hts⟩ (c_Y8_againstSecond l G K ad S ((grC S x0 0).getD 0) (f_Y5_top S ((grC S x0 1).getD 0)) x2 _) (va_cwS 3 hts (wGS t_ (mw (.methodLink RX8 96 yX8_againstSecond) (List.mem_of_getElem? (i := 11) rfl)) (mw (.static yX8_againstSecond) (List.mem_of_getElem? (i := 12) rfl)) (mw (.initialized RX8) (List.mem_of_getElem? (i := 13) rfl)) j_Y8_againstSecond) rfl rfl rfl (by decide +kernel) ⟨Nat.le_of_ble_eq_true rfl, Nat.le_of_ble_eq_true rfl⟩) (cPS hK hTE hP hD ⟨hy15.2, hy16⟩) rfl rfl hl.1 rfl (lv_room (Nat.le_of_ble_eq_true rfl)) dX8_againstOnMotion_131 ⟨Nat.le_of_ble_eq_true rfl, Nat.le_of_ble_eq_true rfl⟩) hP hD hS hA (fun r18 u17 H locs hv hP hD hS => ?_)
        have h1 := congrArg Prod.fst hv
        have h2 := (congrArg Prod.snd hv).symm
        dsimp only at h1 h2
        subst h1
        subst h2
        exact B_Y8_againstOnMotion_134a x1 x2 x3 x4 (f_Y5_top S ((grC S x0 1).getD 0)) (f_Y8_againstSecond S ((grC S x0 0).getD 0) (f_Y5_top S ((grC S x0 1).getD 0)) x2) _ _ _ hE hp hP hD hS (lv_sub hl [1, 2, 3, 4, 5, 0] rfl)
      rw [if_neg s16] at hE hp
      have s16 := wNe (b := 16) rfl (by decide) s16
      by_cases s17 : x1 = 17
      · rw [if_pos s17] at hE hp
        refine lv_tableIn (off := 51) (tgt := 135) hx hb dX8_againstOnMotion_84 (by rw [s17]; decide) (by rw [s17]; decide) (by rw [s17]; decide) (by decide) ?_
        refine lv_aload_n hx hb dX8_againstOnMotion_135 rfl (lv_at hl 1 rfl) ?_
        refine va_get (D := G) (ci := 0) (v := va_re ad (grC S x0 0)) (C := RX0) (T := TX0) (N := 11) hx hb hts iX0 hown hK hP x0 (at_0 k_x0) rfl 0 (by decide) (hw (.fieldLink RX8 34 "MotionFloor$Assembly" "house" "LMotionFloor$House;") (List.mem_of_getElem? (i := 0) rfl)) (fun _ h9 => h9) rfl dX8_againstOnMotion_136 ?_
        refine cAload (ad := ad) (r := (f_Y5_top S ((grC S x0 1).getD 0))) hx hb dX8_againstOnMotion_139 (lv_at hl 0 rfl) ?_
        refine lv_iload_n hx hb dX8_againstOnMotion_141 rfl (lv_at hl 3 rfl) ?_
        refine lv_iload_n hx hb dX8_againstOnMotion_142 rfl (lv_at hl 4 rfl) ?_
        obtain ⟨hy19, hp⟩ := hp
        refine cTop4 (r := (grC S x0 0)) hy19.1 ?_
        obtain ⟨hy20, hp⟩ := hp
        refine cGoi (va_runS (As := [.ref (ad ((grC S x0 0).getD 0)), va_re ad (f_Y5_top S ((grC S x0 1).getD 0)), .int x2, .int x3]) (rest := []) ⟨hx, hb, hml, hown, hts⟩ (c_Y8_againstVote l G K ad S ((grC S x0 0).getD 0) (f_Y5_top S ((grC S x0 1).getD 0)) x2 x3 _) (va_cwS 4 hts (wGS t_ (mw (.methodLink RX8 100 yX8_againstVote) (List.mem_of_getElem? (i := 14) rfl)) (mw (.static yX8_againstVote) (List.mem_of_getElem? (i := 15) rfl)) (mw (.initialized RX8) (List.mem_of_getElem? (i := 13) rfl)) j_Y8_againstVote) rfl rfl rfl (by decide +kernel) ⟨Nat.le_of_ble_eq_true rfl, Nat.le_of_ble_eq_true rfl⟩) (cPS hK hTE hP hD ⟨hy19.2, hy20⟩) rfl rfl hl.1 rfl (lv_room (Nat.le_of_ble_eq_true rfl)) dX8_againstOnMotion_143 ⟨Nat.le_of_ble_eq_true rfl, Nat.le_of_ble_eq_true rfl⟩) hP hD hS hA (fun r22 u21 H locs hv hP hD hS => ?_)
        have h1 := congrArg Prod.fst hv
        have h2 := (congrArg Prod.snd hv).symm
        dsimp only at h1 h2
        subst h1
        subst h2
        exact B_Y8_againstOnMotion_146a x1 x2 x3 x4 (f_Y5_top S ((grC S x0 1).getD 0)) (f_Y8_againstVote S ((grC S x0 0).getD 0) (f_Y5_top S ((grC S x0 1).getD 0)) x2 x3) _ _ _ hE hp hP hD hS (lv_sub hl [1, 2, 3, 4, 5, 0] rfl)
      rw [if_neg s17] at hE hp
      have s17 := wNe (b := 17) rfl (by decide) s17
      by_cases s18 : x1 = 18
      · rw [if_pos s18] at hE hp
        refine lv_tableIn (off := 63) (tgt := 147) hx hb dX8_againstOnMotion_84 (by rw [s18]; decide) (by rw [s18]; decide) (by rw [s18]; decide) (by decide) ?_
        refine lv_aload_n hx hb dX8_againstOnMotion_147 rfl (lv_at hl 1 rfl) ?_
        refine va_get (D := G) (ci := 0) (v := va_re ad (grC S x0 0)) (C := RX0) (T := TX0) (N := 11) hx hb hts iX0 hown hK hP x0 (at_0 k_x0) rfl 0 (by decide) (hw (.fieldLink RX8 34 "MotionFloor$Assembly" "house" "LMotionFloor$House;") (List.mem_of_getElem? (i := 0) rfl)) (fun _ h9 => h9) rfl dX8_againstOnMotion_148 ?_
        refine cAload (ad := ad) (r := (f_Y5_top S ((grC S x0 1).getD 0))) hx hb dX8_againstOnMotion_151 (lv_at hl 0 rfl) ?_
        refine lv_iload_n hx hb dX8_againstOnMotion_153 rfl (lv_at hl 3 rfl) ?_
        obtain ⟨hy23, hp⟩ := hp
        refine cTop3 (r := (grC S x0 0)) hy23.1 ?_
        obtain ⟨hy24, hp⟩ := hp
        refine cGoi (va_runS (As := [.ref (ad ((grC S x0 0).getD 0)), va_re ad (f_Y5_top S ((grC S x0 1).getD 0)), .int x2]) (rest := []) ⟨hx, hb, hml, hown, hts⟩ (c_Y8_againstWithdraw l G K ad S ((grC S x0 0).getD 0) (f_Y5_top S ((grC S x0 1).getD 0)) x2 _) (va_cwS 3 hts (wGS t_ (mw (.methodLink RX8 104 yX8_againstWithdraw) (List.mem_of_getElem? (i := 16) rfl)) (mw (.static yX8_againstWithdraw) (List.mem_of_getElem? (i := 17) rfl)) (mw (.initialized RX8) (List.mem_of_getElem? (i := 13) rfl)) j_Y8_againstWithdraw) rfl rfl rfl (by decide +kernel) ⟨Nat.le_of_ble_eq_true rfl, Nat.le_of_ble_eq_true rfl⟩) (cPS hK hTE hP hD ⟨hy23.2, hy24⟩) rfl rfl hl.1 rfl (lv_room (Nat.le_of_ble_eq_true rfl)) dX8_againstOnMotion_154 ⟨Nat.le_of_ble_eq_true rfl, Nat.le_of_ble_eq_true rfl⟩) hP hD hS hA (fun r26 u25 H locs hv hP hD hS => ?_)
        have h1 := congrArg Prod.fst hv
        have h2 := (congrArg Prod.snd hv).symm
        dsimp only at h1 h2
        subst h1
        subst h2
        exact B_Y8_againstOnMotion_157a x1 x2 x3 x4 (f_Y5_top S ((grC S x0 1).getD 0)) (f_Y8_againstWithdraw S ((grC S x0 0).getD 0) (f_Y5_top S ((grC S x0 1).getD 0)) x2) _ _ _ hE hp hP hD hS (lv_sub hl [1, 2, 3, 4, 5, 0] rfl)
      rw [if_neg s18] at hE hp
      have s18 := wNe (b := 18) rfl (by decide) s18
      by_cases s19 : x1 = 19
      · rw [if_pos s19] at hE hp
        refine lv_tableIn (off := 74) (tgt := 158) hx hb dX8_againstOnMotion_84 (by rw [s19]; decide) (by rw [s19]; decide) (by rw [s19]; decide) (by decide) ?_
        refine lv_aload_n hx hb dX8_againstOnMotion_158 rfl (lv_at hl 1 rfl) ?_
        refine cAload (ad := ad) (r := (f_Y5_top S ((grC S x0 1).getD 0))) hx hb dX8_againstOnMotion_159 (lv_at hl 0 rfl) ?_
        obtain ⟨hy27, hp⟩ := hp
        refine cGoi (va_runS (As := [.ref (ad x0), va_re ad (f_Y5_top S ((grC S x0 1).getD 0))]) (rest := []) ⟨hx, hb, hml, hown, hts⟩ (c_Y8_againstRule l G K ad S x0 (f_Y5_top S ((grC S x0 1).getD 0)) _) (va_cwS 2 hts (wGS t_ (mw (.methodLink RX8 107 yX8_againstRule) (List.mem_of_getElem? (i := 18) rfl)) (mw (.static yX8_againstRule) (List.mem_of_getElem? (i := 19) rfl)) (mw (.initialized RX8) (List.mem_of_getElem? (i := 13) rfl)) j_Y8_againstRule) rfl rfl rfl (by decide +kernel) ⟨Nat.le_of_ble_eq_true rfl, Nat.le_of_ble_eq_true rfl⟩) (cPS hK hTE hP hD ⟨k_x0, hy27⟩) rfl rfl hl.1 rfl (lv_room (Nat.le_of_ble_eq_true rfl)) dX8_againstOnMotion_161 ⟨Nat.le_of_ble_eq_true rfl, Nat.le_of_ble_eq_true rfl⟩) hP hD hS hA (fun r29 u28 H locs hv hP hD hS => ?_)
        have h1 := congrArg Prod.fst hv
        have h2 := (congrArg Prod.snd hv).symm
        dsimp only at h1 h2
        subst h1
        subst h2
        subst hQ
        exact W.iret (v := (f_Y8_againstRule S x0 (f_Y5_top S ((grC S x0 1).getD 0)))) hx hb hr (fun t ht hW => ⟨⟨(f_Y8_againstRule S x0 (f_Y5_top S ((grC S x0 1).getD 0))), S, rfl, (pair_i (hE.trans hX.symm)), by rw [ht]; exact hP, hD⟩, hS.F ht⟩) hS.2.2 dX8_againstOnMotion_164
      rw [if_neg s19] at hE hp
      have s19 := wNe (b := 19) rfl (by decide) s19
      by_cases s20 : x1 = 20
      · rw [if_pos s20] at hE hp
        refine lv_tableIn (off := 81) (tgt := 165) hx hb dX8_againstOnMotion_84 (by rw [s20]; decide) (by rw [s20]; decide) (by rw [s20]; decide) (by decide) ?_
        refine lv_aload_n hx hb dX8_againstOnMotion_165 rfl (lv_at hl 1 rfl) ?_
        refine va_get (D := G) (ci := 0) (v := va_re ad (grC S x0 0)) (C := RX0) (T := TX0) (N := 11) hx hb hts iX0 hown hK hP x0 (at_0 k_x0) rfl 0 (by decide) (hw (.fieldLink RX8 34 "MotionFloor$Assembly" "house" "LMotionFloor$House;") (List.mem_of_getElem? (i := 0) rfl)) (fun _ h9 => h9) rfl dX8_againstOnMotion_166 ?_
        refine cAload (ad := ad) (r := (f_Y5_top S ((grC S x0 1).getD 0))) hx hb dX8_againstOnMotion_169 (lv_at hl 0 rfl) ?_
        refine lv_iload_n hx hb dX8_againstOnMotion_171 rfl (lv_at hl 3 rfl) ?_
        obtain ⟨hy30, hp⟩ := hp
        refine cTop3 (r := (grC S x0 0)) hy30.1 ?_
        obtain ⟨hy31, hp⟩ := hp
        refine cGoi (va_runS (As := [.ref (ad ((grC S x0 0).getD 0)), va_re ad (f_Y5_top S ((grC S x0 1).getD 0)), .int x2]) (rest := []) ⟨hx, hb, hml, hown, hts⟩ (c_Y8_againstAppeal l G K ad S ((grC S x0 0).getD 0) (f_Y5_top S ((grC S x0 1).getD 0)) x2 _) (va_cwS 3 hts (wGS t_ (mw (.methodLink RX8 111 yX8_againstAppeal) (List.mem_of_getElem? (i := 20) rfl)) (mw (.static yX8_againstAppeal) (List.mem_of_getElem? (i := 21) rfl)) (mw (.initialized RX8) (List.mem_of_getElem? (i := 13) rfl)) j_Y8_againstAppeal) rfl rfl rfl (by decide +kernel) ⟨Nat.le_of_ble_eq_true rfl, Nat.le_of_ble_eq_true rfl⟩) (cPS hK hTE hP hD ⟨hy30.2, hy31⟩) rfl rfl hl.1 rfl (lv_room (Nat.le_of_ble_eq_true rfl)) dX8_againstOnMotion_172 ⟨Nat.le_of_ble_eq_true rfl, Nat.le_of_ble_eq_true rfl⟩) hP hD hS hA (fun r33 u32 H locs hv hP hD hS => ?_)
        have h1 := congrArg Prod.fst hv
        have h2 := (congrArg Prod.snd hv).symm
        dsimp only at h1 h2
        subst h1
        subst h2
        exact B_Y8_againstOnMotion_175a x1 x2 x3 x4 (f_Y5_top S ((grC S x0 1).getD 0)) (f_Y8_againstAppeal S ((grC S x0 0).getD 0) (f_Y5_top S ((grC S x0 1).getD 0)) x2) _ _ _ hE hp hP hD hS (lv_sub hl [1, 2, 3, 4, 5, 0] rfl)
      rw [if_neg s20] at hE hp
      have s20 := wNe (b := 20) rfl (by decide) s20
      by_cases s21 : x1 = 21
      · rw [if_pos s21] at hE hp
        refine lv_tableIn (off := 92) (tgt := 176) hx hb dX8_againstOnMotion_84 (by rw [s21]; decide) (by rw [s21]; decide) (by rw [s21]; decide) (by decide) ?_
        refine lv_iconst (v := 0) hx hb dX8_againstOnMotion_176 (by decide) ?_
        subst hQ
        exact W.iret (v := (0 : Int32)) hx hb hr (fun t ht hW => ⟨⟨(0 : Int32), S, rfl, (pair_i (hE.trans hX.symm)), by rw [ht]; exact hP, hD⟩, hS.F ht⟩) hS.2.2 dX8_againstOnMotion_177
      rw [if_neg s21] at hE hp
      have s21 := wNe (b := 21) rfl (by decide) s21
      refine lv_tableOut (tgt := 178) hx hb dX8_againstOnMotion_84 (by omega) (by decide) ?_
      refine lv_bipush (v := 11) hx hb dX8_againstOnMotion_178 (by decide) ?_
      subst hQ
      exact W.iret (v := (11 : Int32)) hx hb hr (fun t ht hW => ⟨⟨(11 : Int32), S, rfl, (pair_i (hE.trans hX.symm)), by rw [ht]; exact hP, hD⟩, hS.F ht⟩) hS.2.2 dX8_againstOnMotion_180
  have B_Y8_againstOnMotion_58 : ∀ (x1 : Int32) (x2 : Int32) (x3 : Int32) (x4 : Int32) (H : Heap) (locs : List Loc) (ls_ : Array Slot), b_Y8_againstOnMotion_58 S x0 x1 x2 x3 x4 = X → q_Y8_againstOnMotion_58 S x0 x1 x2 x3 x4 → va_P G vwCl (wsC K ad S) H → va_D A (wsC K ad S) → va_S A s.heap H locs → lv_has ls_ 6 [(0, .ref (ad x0)), (1, .int x1), (2, .int x2), (3, .int x3), (4, .int x4)] → W p l e ({ frames := 4, cells := 0, slots := 0, locals := 92 } : Room) s m #[Value.ref (ad x0), Value.int a1, Value.int a2, Value.int a3] below meth c H locs 0 0 Q (F0 m 58 ls_ []) := by
    intro x1 x2 x3 x4 H locs ls_ hE hp hP hD hS hl
    unfold b_Y8_againstOnMotion_58 at hE
    unfold q_Y8_againstOnMotion_58 at hp
    refine lv_iload hx hb dX8_againstOnMotion_58 (lv_at hl 4 rfl) ?_
    refine lv_if_ne (tgt := 66) hx hb dX8_againstOnMotion_60 (by decide) (fun c9 => ?_) (fun c9 => ?_)
    · rw [if_neg c9] at hE hp
      exact B_Y8_againstOnMotion_66 x1 x2 x3 x4 _ _ _ hE hp hP hD hS (lv_sub hl [0, 1, 2, 3, 4] rfl)
    · rw [if_pos c9] at hE hp
      refine lv_bipush (v := 8) hx hb dX8_againstOnMotion_63 (by decide) ?_
      subst hQ
      exact W.iret (v := (8 : Int32)) hx hb hr (fun t ht hW => ⟨⟨(8 : Int32), S, rfl, (pair_i (hE.trans hX.symm)), by rw [ht]; exact hP, hD⟩, hS.F ht⟩) hS.2.2 dX8_againstOnMotion_65
  have B_Y8_againstOnMotion_45 : ∀ (x1 : Int32) (x2 : Int32) (x3 : Int32) (x4 : Int32) (y0 : Int32) (H : Heap) (locs : List Loc) (ls_ : Array Slot), b_Y8_againstOnMotion_45 S x0 x1 x2 x3 x4 y0 = X → q_Y8_againstOnMotion_45 S x0 x1 x2 x3 x4 y0 → va_P G vwCl (wsC K ad S) H → va_D A (wsC K ad S) → va_S A s.heap H locs → lv_has ls_ 6 [(0, .ref (ad x0)), (1, .int x1), (2, .int x2), (3, .int x3), (4, .int x4)] → W p l e ({ frames := 4, cells := 0, slots := 0, locals := 92 } : Room) s m #[Value.ref (ad x0), Value.int a1, Value.int a2, Value.int a3] below meth c H locs 0 0 Q (F0 m 45 ls_ [.int y0]) := by
    intro x1 x2 x3 x4 y0 H locs ls_ hE hp hP hD hS hl
    unfold b_Y8_againstOnMotion_45 at hE
    unfold q_Y8_againstOnMotion_45 at hp
    subst hQ
    exact W.iret (v := y0) hx hb hr (fun t ht hW => ⟨⟨y0, S, rfl, (pair_i (hE.trans hX.symm)), by rw [ht]; exact hP, hD⟩, hS.F ht⟩) hS.2.2 dX8_againstOnMotion_45
  have B_M : ∀ (x1 : Int32) (x2 : Int32) (x3 : Int32) (H : Heap) (locs : List Loc) (ls_ : Array Slot), f_Y8_againstOnMotion S x0 x1 x2 x3 = X → p_Y8_againstOnMotion S x0 x1 x2 x3 → va_P G vwCl (wsC K ad S) H → va_D A (wsC K ad S) → va_S A s.heap H locs → lv_has ls_ 6 [(0, .ref (ad x0)), (1, .int x1), (2, .int x2), (3, .int x3)] → W p l e ({ frames := 4, cells := 0, slots := 0, locals := 92 } : Room) s m #[Value.ref (ad x0), Value.int a1, Value.int a2, Value.int a3] below meth c H locs 0 0 Q (F0 m 0 ls_ []) := by
    intro x1 x2 x3 H locs ls_ hE hp hP hD hS hl
    unfold f_Y8_againstOnMotion at hE
    unfold p_Y8_againstOnMotion at hp
    refine lv_iload_n hx hb dX8_againstOnMotion_0 rfl (lv_at hl 1 rfl) ?_
    refine lv_bipush (v := 15) hx hb dX8_againstOnMotion_1 (by decide) ?_
    refine lv_icmp_ne (tgt := 12) hx hb dX8_againstOnMotion_3 (by decide) (fun c1 => ?_) (fun c1 => ?_)
    · rw [if_neg c1] at hE hp
      refine lv_aload_n hx hb dX8_againstOnMotion_12 rfl (lv_at hl 0 rfl) ?_
      refine va_get (D := G) (ci := 0) (v := va_re ad (grC S x0 0)) (C := RX0) (T := TX0) (N := 11) hx hb hts iX0 hown hK hP x0 (at_0 k_x0) rfl 0 (by decide) (hw (.fieldLink RX8 34 "MotionFloor$Assembly" "house" "LMotionFloor$House;") (List.mem_of_getElem? (i := 0) rfl)) (fun _ h9 => h9) rfl dX8_againstOnMotion_13 ?_
      refine lv_aload_n hx hb dX8_againstOnMotion_16 rfl (lv_at hl 0 rfl) ?_
      refine va_get (D := G) (ci := 0) (v := va_re ad (grC S x0 0)) (C := RX0) (T := TX0) (N := 11) hx hb hts iX0 hown hK hP x0 (at_0 k_x0) rfl 0 (by decide) (hw (.fieldLink RX8 34 "MotionFloor$Assembly" "house" "LMotionFloor$House;") (List.mem_of_getElem? (i := 0) rfl)) (fun _ h9 => h9) rfl dX8_againstOnMotion_17 ?_
      obtain ⟨hy2, hp⟩ := hp
      refine cTop (r := (grC S x0 0)) hy2.1 ?_
      refine va_get (D := G) (ci := 1) (v := .int (giC S ((grC S x0 0).getD 0) 3)) (C := RX2) (T := TX2) (N := 8) hx hb hts iX2 hown hK hP ((grC S x0 0).getD 0) (at_1 hy2.2) rfl 3 (by decide) (hw (.fieldLink RX8 79 "MotionFloor$House" "chair" "I") (List.mem_of_getElem? (i := 1) rfl)) (fun _ h9 => h9) rfl dX8_againstOnMotion_20 ?_
      obtain ⟨hy3, hp⟩ := hp
      refine cTop2 (r := (grC S x0 0)) hy3.1 ?_
      obtain ⟨hy4, hp⟩ := hp
      refine cGoi (va_runV (As := [.int (giC S ((grC S x0 0).getD 0) 3)]) (rest := []) ⟨hx, hb, hml, hown, hts⟩ (c_Y2_isThere l G K ad S ((grC S x0 0).getD 0) (giC S ((grC S x0 0).getD 0) 3) _) (cwV 1 hts (wGV t_ (mw (.methodLink RX8 82 yX2_isThere) (List.mem_of_getElem? (i := 2) rfl)) (mw (.instanceMethod yX2_isThere) (List.mem_of_getElem? (i := 3) rfl)) (mw (.selects RX2 yX2_isThere yX2_isThere) (List.mem_of_getElem? (i := 4) rfl)) (mw (.initialized RX2) (List.mem_of_getElem? (i := 5) rfl)) j_Y2_isThere) rfl rfl rfl (by decide +kernel) ⟨Nat.le_of_ble_eq_true rfl, Nat.le_of_ble_eq_true rfl⟩) (cPV hK hTE hP hD 1 rfl (at_1 hy3.2) ⟨hy3.2, hy4⟩) rfl rfl hl.1 rfl (lv_room (Nat.le_of_ble_eq_true rfl)) dX8_againstOnMotion_23 ⟨Nat.le_of_ble_eq_true rfl, Nat.le_of_ble_eq_true rfl⟩) hP hD hS hA (fun r6 u5 H locs hv hP hD hS => ?_)
      have h1 := congrArg Prod.fst hv
      have h2 := (congrArg Prod.snd hv).symm
      dsimp only at h1 h2
      subst h1
      subst h2
      refine lv_istore (i := 4) (lv' := [(4, .int (f_Y2_isThere S ((grC S x0 0).getD 0) (giC S ((grC S x0 0).getD 0) 3))), (0, .ref (ad x0)), (1, .int x1), (2, .int x2), (3, .int x3)]) hx hb dX8_againstOnMotion_26 hl (by decide) rfl (fun ls_ hl => ?_)
      refine lv_iload_n hx hb dX8_againstOnMotion_28 rfl (lv_at hl 2 rfl) ?_
      refine lv_bipush (v := 22) hx hb dX8_againstOnMotion_29 (by decide) ?_
      refine lv_icmp_ne (tgt := 46) hx hb dX8_againstOnMotion_31 (by decide) (fun c7 => ?_) (fun c7 => ?_)
      · rw [if_neg c7] at hE hp
        refine lv_iload_n hx hb dX8_againstOnMotion_46 rfl (lv_at hl 2 rfl) ?_
        refine lv_bipush (v := 19) hx hb dX8_againstOnMotion_47 (by decide) ?_
        refine lv_icmp_eq (tgt := 58) hx hb dX8_againstOnMotion_49 (by decide) (fun c8 => ?_) (fun c8 => ?_)
        · rw [if_pos c8] at hE hp
          exact B_Y8_againstOnMotion_58 x1 x2 x3 (f_Y2_isThere S ((grC S x0 0).getD 0) (giC S ((grC S x0 0).getD 0) 3)) _ _ _ hE hp hP hD hS (lv_sub hl [1, 2, 3, 4, 0] rfl)
        · rw [if_neg c8] at hE hp
          refine lv_iload_n hx hb dX8_againstOnMotion_52 rfl (lv_at hl 2 rfl) ?_
          refine lv_bipush (v := 21) hx hb dX8_againstOnMotion_53 (by decide) ?_
          refine lv_icmp_ne (tgt := 66) hx hb dX8_againstOnMotion_55 (by decide) (fun c34 => ?_) (fun c34 => ?_)
          · rw [if_neg c34] at hE hp
            exact B_Y8_againstOnMotion_66 x1 x2 x3 (f_Y2_isThere S ((grC S x0 0).getD 0) (giC S ((grC S x0 0).getD 0) 3)) _ _ _ hE hp hP hD hS (lv_sub hl [1, 2, 3, 4, 0] rfl)
          · rw [if_pos c34] at hE hp
            exact B_Y8_againstOnMotion_58 x1 x2 x3 (f_Y2_isThere S ((grC S x0 0).getD 0) (giC S ((grC S x0 0).getD 0) 3)) _ _ _ hE hp hP hD hS (lv_sub hl [1, 2, 3, 4, 0] rfl)
      · rw [if_pos c7] at hE hp
        refine lv_iload hx hb dX8_againstOnMotion_34 (lv_at hl 0 rfl) ?_
        refine lv_if_eq (tgt := 43) hx hb dX8_againstOnMotion_36 (by decide) (fun c35 => ?_) (fun c35 => ?_)
        · rw [if_pos c35] at hE hp
          refine lv_bipush (v := 8) hx hb dX8_againstOnMotion_43 (by decide) ?_
          exact B_Y8_againstOnMotion_45 x1 x2 x3 (f_Y2_isThere S ((grC S x0 0).getD 0) (giC S ((grC S x0 0).getD 0) 3)) 8 _ _ _ hE hp hP hD hS (lv_sub hl [1, 2, 3, 4, 0] rfl)
        · rw [if_neg c35] at hE hp
          refine lv_iconst (v := 0) hx hb dX8_againstOnMotion_39 (by decide) ?_
          refine lv_goto (tgt := 45) hx hb dX8_againstOnMotion_40 (by decide) ?_
          exact B_Y8_againstOnMotion_45 x1 x2 x3 (f_Y2_isThere S ((grC S x0 0).getD 0) (giC S ((grC S x0 0).getD 0) 3)) 0 _ _ _ hE hp hP hD hS (lv_sub hl [1, 2, 3, 4, 0] rfl)
    · rw [if_pos c1] at hE hp
      refine lv_aload_n hx hb dX8_againstOnMotion_6 rfl (lv_at hl 0 rfl) ?_
      refine lv_iload_n hx hb dX8_againstOnMotion_7 rfl (lv_at hl 2 rfl) ?_
      obtain ⟨hy36, hp⟩ := hp
      refine cGoi (va_runS (As := [.ref (ad x0), .int x2]) (rest := []) ⟨hx, hb, hml, hown, hts⟩ (c_Y8_againstMove l G K ad S x0 x2 _) (va_cwS 2 hts (wGS t_ (mw (.methodLink RX8 76 yX8_againstMove) (List.mem_of_getElem? (i := 22) rfl)) (mw (.static yX8_againstMove) (List.mem_of_getElem? (i := 23) rfl)) (mw (.initialized RX8) (List.mem_of_getElem? (i := 13) rfl)) j_Y8_againstMove) rfl rfl rfl (by decide +kernel) ⟨Nat.le_of_ble_eq_true rfl, Nat.le_of_ble_eq_true rfl⟩) (cPS hK hTE hP hD ⟨k_x0, hy36⟩) rfl rfl hl.1 rfl (lv_room (Nat.le_of_ble_eq_true rfl)) dX8_againstOnMotion_8 ⟨Nat.le_of_ble_eq_true rfl, Nat.le_of_ble_eq_true rfl⟩) hP hD hS hA (fun r38 u37 H locs hv hP hD hS => ?_)
      have h1 := congrArg Prod.fst hv
      have h2 := (congrArg Prod.snd hv).symm
      dsimp only at h1 h2
      subst h1
      subst h2
      subst hQ
      exact W.iret (v := (f_Y8_againstMove S x0 x2)) hx hb hr (fun t ht hW => ⟨⟨(f_Y8_againstMove S x0 x2), S, rfl, (pair_i (hE.trans hX.symm)), by rw [ht]; exact hP, hD⟩, hS.F ht⟩) hS.2.2 dX8_againstOnMotion_11
  exact B_M a1 a2 a3 _ _ _ hX hp hP hD hS hl
theorem gdX8_against_24 : ckS (List.drop 24 cX8_against.data.toList) 24 [(24, .aload_n 0, 1), (25, .iload_n 1, 1), (26, .iload_n 2, 1), (27, .iload_n 3, 1), (28, .iload 4, 2), (30, .iload 5, 2), (32, .invokestatic 15, 3), (47, .istore 6, 2), (49, .iload 6, 2), (51, .ifCond .ne 18, 3), (54, .aload_n 0, 1), (55, .getfield 22, 3), (58, .invokevirtual 28, 3), (61, .ifCond .eq 8, 3), (64, .bipush 10, 2), (66, .goto 5, 3), (69, .iload 6, 2), (71, .ireturn, 1)] = true := by decide +kernel
theorem dX8_against_24 : decode cX8_against 24 = .ok (.aload_n 0, 1) := ckS_g gdX8_against_24 0 rfl
theorem dX8_against_25 : decode cX8_against 25 = .ok (.iload_n 1, 1) := ckS_g gdX8_against_24 1 rfl
theorem dX8_against_26 : decode cX8_against 26 = .ok (.iload_n 2, 1) := ckS_g gdX8_against_24 2 rfl
theorem dX8_against_27 : decode cX8_against 27 = .ok (.iload_n 3, 1) := ckS_g gdX8_against_24 3 rfl
theorem dX8_against_28 : decode cX8_against 28 = .ok (.iload 4, 2) := ckS_g gdX8_against_24 4 rfl
theorem dX8_against_30 : decode cX8_against 30 = .ok (.iload 5, 2) := ckS_g gdX8_against_24 5 rfl
theorem dX8_against_32 : decode cX8_against 32 = .ok (.invokestatic 15, 3) := ckS_g gdX8_against_24 6 rfl
theorem dX8_against_47 : decode cX8_against 47 = .ok (.istore 6, 2) := ckS_g gdX8_against_24 7 rfl
theorem dX8_against_49 : decode cX8_against 49 = .ok (.iload 6, 2) := ckS_g gdX8_against_24 8 rfl
theorem dX8_against_51 : decode cX8_against 51 = .ok (.ifCond .ne 18, 3) := ckS_g gdX8_against_24 9 rfl
theorem dX8_against_54 : decode cX8_against 54 = .ok (.aload_n 0, 1) := ckS_g gdX8_against_24 10 rfl
theorem dX8_against_55 : decode cX8_against 55 = .ok (.getfield 22, 3) := ckS_g gdX8_against_24 11 rfl
theorem dX8_against_58 : decode cX8_against 58 = .ok (.invokevirtual 28, 3) := ckS_g gdX8_against_24 12 rfl
theorem dX8_against_61 : decode cX8_against 61 = .ok (.ifCond .eq 8, 3) := ckS_g gdX8_against_24 13 rfl
theorem dX8_against_64 : decode cX8_against 64 = .ok (.bipush 10, 2) := ckS_g gdX8_against_24 14 rfl
theorem dX8_against_66 : decode cX8_against 66 = .ok (.goto 5, 3) := ckS_g gdX8_against_24 15 rfl
theorem dX8_against_69 : decode cX8_against 69 = .ok (.iload 6, 2) := ckS_g gdX8_against_24 16 rfl
theorem dX8_against_71 : decode cX8_against 71 = .ok (.ireturn, 1) := ckS_g gdX8_against_24 17 rfl
theorem dX8_againstOnPaper_1 : decode cX8_againstOnPaper 1 = .ok (.tableswitch 83 10 14 #[35, 53, 60, 71, 77], 35) := by decide +kernel
theorem gdX8_againstOnPaper_0 : ckS (List.drop 0 cX8_againstOnPaper.data.toList) 0 [(0, .iload_n 1, 1), (36, .iload_n 2, 1), (37, .iconst 1, 1), (38, .if_icmp .lt 9, 3), (41, .iload_n 2, 1), (42, .bipush 8, 2), (44, .if_icmp .le 8, 3), (47, .bipush 9, 2), (49, .goto 4, 3), (52, .iconst 0, 1), (53, .ireturn, 1), (54, .aload_n 0, 1), (55, .iload_n 2, 1), (56, .iload_n 3, 1), (57, .invokestatic 62, 3)] = true := by decide +kernel
theorem dX8_againstOnPaper_0 : decode cX8_againstOnPaper 0 = .ok (.iload_n 1, 1) := ckS_g gdX8_againstOnPaper_0 0 rfl
theorem dX8_againstOnPaper_36 : decode cX8_againstOnPaper 36 = .ok (.iload_n 2, 1) := ckS_g gdX8_againstOnPaper_0 1 rfl
theorem dX8_againstOnPaper_37 : decode cX8_againstOnPaper 37 = .ok (.iconst 1, 1) := ckS_g gdX8_againstOnPaper_0 2 rfl
theorem dX8_againstOnPaper_38 : decode cX8_againstOnPaper 38 = .ok (.if_icmp .lt 9, 3) := ckS_g gdX8_againstOnPaper_0 3 rfl
theorem dX8_againstOnPaper_41 : decode cX8_againstOnPaper 41 = .ok (.iload_n 2, 1) := ckS_g gdX8_againstOnPaper_0 4 rfl
theorem dX8_againstOnPaper_42 : decode cX8_againstOnPaper 42 = .ok (.bipush 8, 2) := ckS_g gdX8_againstOnPaper_0 5 rfl
theorem dX8_againstOnPaper_44 : decode cX8_againstOnPaper 44 = .ok (.if_icmp .le 8, 3) := ckS_g gdX8_againstOnPaper_0 6 rfl
theorem dX8_againstOnPaper_47 : decode cX8_againstOnPaper 47 = .ok (.bipush 9, 2) := ckS_g gdX8_againstOnPaper_0 7 rfl
theorem dX8_againstOnPaper_49 : decode cX8_againstOnPaper 49 = .ok (.goto 4, 3) := ckS_g gdX8_againstOnPaper_0 8 rfl
theorem dX8_againstOnPaper_52 : decode cX8_againstOnPaper 52 = .ok (.iconst 0, 1) := ckS_g gdX8_againstOnPaper_0 9 rfl
theorem dX8_againstOnPaper_53 : decode cX8_againstOnPaper 53 = .ok (.ireturn, 1) := ckS_g gdX8_againstOnPaper_0 10 rfl
theorem dX8_againstOnPaper_54 : decode cX8_againstOnPaper 54 = .ok (.aload_n 0, 1) := ckS_g gdX8_againstOnPaper_0 11 rfl
theorem dX8_againstOnPaper_55 : decode cX8_againstOnPaper 55 = .ok (.iload_n 2, 1) := ckS_g gdX8_againstOnPaper_0 12 rfl
theorem dX8_againstOnPaper_56 : decode cX8_againstOnPaper 56 = .ok (.iload_n 3, 1) := ckS_g gdX8_againstOnPaper_0 13 rfl
theorem dX8_againstOnPaper_57 : decode cX8_againstOnPaper 57 = .ok (.invokestatic 62, 3) := ckS_g gdX8_againstOnPaper_0 14 rfl
theorem gdX8_againstSpan_0 : ckS (List.drop 0 cX8_againstSpan.data.toList) 0 [(0, .aload_n 0, 1), (1, .getfield 141, 3), (4, .invokevirtual 145, 3), (7, .astore_n 3, 1), (8, .aload_n 3, 1), (9, .ifnull 17, 3), (12, .aload_n 3, 1), (13, .invokevirtual 150, 3), (16, .ifCond .eq 10, 3), (19, .aload_n 3, 1), (20, .getfield 153, 3), (23, .ifCond .eq 6, 3), (26, .bipush 11, 2), (28, .ireturn, 1), (29, .iload_n 1, 1), (30, .ifCond .lt 15, 3), (33, .iload_n 2, 1), (34, .iload_n 1, 1), (35, .if_icmp .lt 10, 3), (38, .iload_n 2, 1), (39, .sipush 400, 3), (42, .if_icmp .le 8, 3), (45, .bipush 9, 2), (47, .goto 4, 3), (50, .iconst 0, 1), (51, .ireturn, 1)] = true := by decide +kernel
theorem dX8_againstSpan_0 : decode cX8_againstSpan 0 = .ok (.aload_n 0, 1) := ckS_g gdX8_againstSpan_0 0 rfl
theorem dX8_againstSpan_1 : decode cX8_againstSpan 1 = .ok (.getfield 141, 3) := ckS_g gdX8_againstSpan_0 1 rfl
theorem dX8_againstSpan_4 : decode cX8_againstSpan 4 = .ok (.invokevirtual 145, 3) := ckS_g gdX8_againstSpan_0 2 rfl
theorem dX8_againstSpan_7 : decode cX8_againstSpan 7 = .ok (.astore_n 3, 1) := ckS_g gdX8_againstSpan_0 3 rfl
theorem dX8_againstSpan_8 : decode cX8_againstSpan 8 = .ok (.aload_n 3, 1) := ckS_g gdX8_againstSpan_0 4 rfl
theorem dX8_againstSpan_9 : decode cX8_againstSpan 9 = .ok (.ifnull 17, 3) := ckS_g gdX8_againstSpan_0 5 rfl
theorem dX8_againstSpan_12 : decode cX8_againstSpan 12 = .ok (.aload_n 3, 1) := ckS_g gdX8_againstSpan_0 6 rfl
theorem dX8_againstSpan_13 : decode cX8_againstSpan 13 = .ok (.invokevirtual 150, 3) := ckS_g gdX8_againstSpan_0 7 rfl
theorem dX8_againstSpan_16 : decode cX8_againstSpan 16 = .ok (.ifCond .eq 10, 3) := ckS_g gdX8_againstSpan_0 8 rfl
theorem dX8_againstSpan_19 : decode cX8_againstSpan 19 = .ok (.aload_n 3, 1) := ckS_g gdX8_againstSpan_0 9 rfl
theorem dX8_againstSpan_20 : decode cX8_againstSpan 20 = .ok (.getfield 153, 3) := ckS_g gdX8_againstSpan_0 10 rfl
theorem dX8_againstSpan_23 : decode cX8_againstSpan 23 = .ok (.ifCond .eq 6, 3) := ckS_g gdX8_againstSpan_0 11 rfl
theorem dX8_againstSpan_26 : decode cX8_againstSpan 26 = .ok (.bipush 11, 2) := ckS_g gdX8_againstSpan_0 12 rfl
theorem dX8_againstSpan_28 : decode cX8_againstSpan 28 = .ok (.ireturn, 1) := ckS_g gdX8_againstSpan_0 13 rfl
theorem dX8_againstSpan_29 : decode cX8_againstSpan 29 = .ok (.iload_n 1, 1) := ckS_g gdX8_againstSpan_0 14 rfl
theorem dX8_againstSpan_30 : decode cX8_againstSpan 30 = .ok (.ifCond .lt 15, 3) := ckS_g gdX8_againstSpan_0 15 rfl
theorem dX8_againstSpan_33 : decode cX8_againstSpan 33 = .ok (.iload_n 2, 1) := ckS_g gdX8_againstSpan_0 16 rfl
theorem dX8_againstSpan_34 : decode cX8_againstSpan 34 = .ok (.iload_n 1, 1) := ckS_g gdX8_againstSpan_0 17 rfl
theorem dX8_againstSpan_35 : decode cX8_againstSpan 35 = .ok (.if_icmp .lt 10, 3) := ckS_g gdX8_againstSpan_0 18 rfl
theorem dX8_againstSpan_38 : decode cX8_againstSpan 38 = .ok (.iload_n 2, 1) := ckS_g gdX8_againstSpan_0 19 rfl
theorem dX8_againstSpan_39 : decode cX8_againstSpan 39 = .ok (.sipush 400, 3) := ckS_g gdX8_againstSpan_0 20 rfl
theorem dX8_againstSpan_42 : decode cX8_againstSpan 42 = .ok (.if_icmp .le 8, 3) := ckS_g gdX8_againstSpan_0 21 rfl
theorem dX8_againstSpan_45 : decode cX8_againstSpan 45 = .ok (.bipush 9, 2) := ckS_g gdX8_againstSpan_0 22 rfl
theorem dX8_againstSpan_47 : decode cX8_againstSpan 47 = .ok (.goto 4, 3) := ckS_g gdX8_againstSpan_0 23 rfl
theorem dX8_againstSpan_50 : decode cX8_againstSpan 50 = .ok (.iconst 0, 1) := ckS_g gdX8_againstSpan_0 24 rfl
theorem dX8_againstSpan_51 : decode cX8_againstSpan 51 = .ok (.ireturn, 1) := ckS_g gdX8_againstSpan_0 25 rfl
set_option maxRecDepth 100000 in
theorem zc439 : wZ (.code yX8_againstSpan cX8_againstSpan 4 (some .int)) := ⟨wT2 (List.mem_of_getElem? (i := 95) rfl), Or.inl rfl⟩
def b_Y8_againstSpan_26 (S : Cst) (x0 : Nat) (x1 : Int32) (x2 : Int32) (x3 : Option Nat) : Int32 := (11 : Int32)
def q_Y8_againstSpan_26 (S : Cst) (x0 : Nat) (x1 : Int32) (x2 : Int32) (x3 : Option Nat) : Prop := True
def b_Y8_againstSpan_51 (S : Cst) (x0 : Nat) (x1 : Int32) (x2 : Int32) (x3 : Option Nat) (y0 : Int32) : Int32 := y0
def q_Y8_againstSpan_51 (S : Cst) (x0 : Nat) (x1 : Int32) (x2 : Int32) (x3 : Option Nat) (y0 : Int32) : Prop := True
def b_Y8_againstSpan_45 (S : Cst) (x0 : Nat) (x1 : Int32) (x2 : Int32) (x3 : Option Nat) : Int32 := (b_Y8_againstSpan_51 S x0 x1 x2 x3 9)
def q_Y8_againstSpan_45 (S : Cst) (x0 : Nat) (x1 : Int32) (x2 : Int32) (x3 : Option Nat) : Prop := (q_Y8_againstSpan_51 S x0 x1 x2 x3 9)
def f_Y8_againstSpan (S : Cst) (x0 : Nat) (x1 : Int32) (x2 : Int32) : Int32 := if (f_Y6_motion S ((grC S x0 2).getD 0)) = none then (b_Y8_againstSpan_26 S x0 x1 x2 (f_Y6_motion S ((grC S x0 2).getD 0))) else if (f_Y4_amends S ((f_Y6_motion S ((grC S x0 2).getD 0)).getD 0)) = 0 then (b_Y8_againstSpan_26 S x0 x1 x2 (f_Y6_motion S ((grC S x0 2).getD 0))) else if (giC S ((f_Y6_motion S ((grC S x0 2).getD 0)).getD 0) 10) = 0 then if x1 < 0 then (b_Y8_againstSpan_45 S x0 x1 x2 (f_Y6_motion S ((grC S x0 2).getD 0))) else if x2 < x1 then (b_Y8_againstSpan_45 S x0 x1 x2 (f_Y6_motion S ((grC S x0 2).getD 0))) else if x2 ≤ 400 then (b_Y8_againstSpan_51 S x0 x1 x2 (f_Y6_motion S ((grC S x0 2).getD 0)) 0) else (b_Y8_againstSpan_45 S x0 x1 x2 (f_Y6_motion S ((grC S x0 2).getD 0))) else (b_Y8_againstSpan_26 S x0 x1 x2 (f_Y6_motion S ((grC S x0 2).getD 0)))
def p_Y8_againstSpan (S : Cst) (x0 : Nat) (x1 : Int32) (x2 : Int32) : Prop := (iR S (grC S x0 2) 5) ∧ (p_Y6_motion S ((grC S x0 2).getD 0)) ∧ (if (f_Y6_motion S ((grC S x0 2).getD 0)) = none then (q_Y8_againstSpan_26 S x0 x1 x2 (f_Y6_motion S ((grC S x0 2).getD 0))) else (iR S (f_Y6_motion S ((grC S x0 2).getD 0)) 3) ∧ (p_Y4_amends S ((f_Y6_motion S ((grC S x0 2).getD 0)).getD 0)) ∧ (if (f_Y4_amends S ((f_Y6_motion S ((grC S x0 2).getD 0)).getD 0)) = 0 then (q_Y8_againstSpan_26 S x0 x1 x2 (f_Y6_motion S ((grC S x0 2).getD 0))) else (iR S (f_Y6_motion S ((grC S x0 2).getD 0)) 3) ∧ (if (giC S ((f_Y6_motion S ((grC S x0 2).getD 0)).getD 0) 10) = 0 then (if x1 < 0 then (q_Y8_againstSpan_45 S x0 x1 x2 (f_Y6_motion S ((grC S x0 2).getD 0))) else (if x2 < x1 then (q_Y8_againstSpan_45 S x0 x1 x2 (f_Y6_motion S ((grC S x0 2).getD 0))) else (if x2 ≤ 400 then (q_Y8_againstSpan_51 S x0 x1 x2 (f_Y6_motion S ((grC S x0 2).getD 0)) 0) else (q_Y8_againstSpan_45 S x0 x1 x2 (f_Y6_motion S ((grC S x0 2).getD 0)))))) else (q_Y8_againstSpan_26 S x0 x1 x2 (f_Y6_motion S ((grC S x0 2).getD 0))))))
def e_Y8_againstSpan : List Cond := [.fieldLink RX8 141 "MotionFloor$Assembly" "draft" "LMotionFloor$Place;", .methodLink RX8 145 yX6_motion, .instanceMethod yX6_motion, .selects RX6 yX6_motion yX6_motion, .initialized RX6, .methodLink RX8 150 yX4_amends, .instanceMethod yX4_amends, .selects RX4 yX4_amends yX4_amends, .initialized RX4, .fieldLink RX8 153 "MotionFloor$Motion" "laid" "Z"]
def v_Y8_againstSpan : List Cond := .code yX8_againstSpan cX8_againstSpan 4 (some .int) :: (e_Y8_againstSpan ++ (wsX00 ++ (wsX40 ++ (v_Y6_motion ++ (v_Y4_amends ++ [])))))
theorem te_Y8_againstSpan : GoodIn lw_tbl e_Y8_againstSpan := wGc zc424 (wGc zc422 (wGc zc128 (wGc zc127 (wGc zc112 (wGc zc389 (wGc zc172 (wGc zc171 (wGc zc170 (wGc zc407 (wG0))))))))))
theorem t_Y8_againstSpan : GoodIn lw_tbl v_Y8_againstSpan := wGc zc439 (wGa te_Y8_againstSpan (wGa zcX0 (wGa zcX4 (wGa t_Y6_motion (wGa t_Y4_amends (wG0))))))
set_option maxHeartbeats 4000000 in
set_option maxRecDepth 100000 in
theorem c_Y8_againstSpan (l : Launch) (G : va_G) (K : Nat → ClassId) (ad : Nat → Nat) (S : Cst) (x0 : Nat) (a1 : Int32) (a2 : Int32) (sz : Nat) : Met l yX8_againstSpan v_Y8_againstSpan ({ frames := 2, cells := 0, slots := 0, locals := 41 }) (va_Pc [.ref (ad x0), .int a1, .int a2] (cSt G K ad sz S (iK S x0 0 ∧ p_Y8_againstSpan S x0 a1 a2))) (va_Qi (fun (r : Int32) (u : Cst) => (r, u) = (f_Y8_againstSpan S x0 a1 a2, S)) (cBt G K ad (va_A (wsC K ad S) sz)) (va_A (wsC K ad S) sz)) 0 0 (va_A (wsC K ad S) sz) := by
  refine Met.ofW (cc := cX8_againstSpan) (maxL := 4) (ret := (some .int)) (by decide) rfl ?_
  intro p e s m args below meth c s₁ B hml hv
  obtain ⟨rfl, ⟨hsz, hP, hK, hD0, hTE⟩, hp⟩ := hv
  obtain ⟨k_x0, hp⟩ := hp
  have hx := B.exec
  have hb := B.bytes
  have hr := B.returns
  have hts := atoms_spec (ws := v_Y8_againstSpan) B.pre
  have t_ := t_Y8_againstSpan
  have mw : ∀ w ∈ e_Y8_againstSpan, w ∈ v_Y8_againstSpan := fun w h => List.mem_cons_of_mem _ (List.mem_append_left _ h)
  have hw := fun w (h : w ∈ e_Y8_againstSpan) => hts w (mw w h)
  have iX0 : ∀ w ∈ wsX00, w ∈ v_Y8_againstSpan := fun w h => List.mem_cons_of_mem _ (List.mem_append_right _ (List.mem_append_left _ h))
  have iX4 : ∀ w ∈ wsX40, w ∈ v_Y8_againstSpan := fun w h => List.mem_cons_of_mem _ (List.mem_append_right _ (List.mem_append_right _ (List.mem_append_left _ h)))
  have j_Y6_motion : ∀ w ∈ v_Y6_motion, w ∈ v_Y8_againstSpan := fun w h => List.mem_cons_of_mem _ (List.mem_append_right _ (List.mem_append_right _ (List.mem_append_right _ (List.mem_append_left _ h))))
  have j_Y4_amends : ∀ w ∈ v_Y4_amends, w ∈ v_Y8_againstSpan := fun w h => List.mem_cons_of_mem _ (List.mem_append_right _ (List.mem_append_right _ (List.mem_append_right _ (List.mem_append_right _ (List.mem_append_left _ h)))))
  have hown : s.vm.findClass RX8 = some m.cls := findClass_of_methodNamed B.named
  have hlocks := B.notSynchronized
  subst hsz
  have hD := hD0.self (sz := s.heap.size)
  generalize hAe : va_A (wsC K ad S) s.heap.size = A at hD ⊢
  have hA : ∀ q : Nat, s.heap.size ≤ q → A q := fun q h => by rw [← hAe]; exact Or.inr h
  have hS : va_S A s.heap s.heap [] := va_S.rf
  have hl : lv_has (lg_sl ([.ref (ad x0), .int a1, .int a2]) ++ List.replicate (4 - (lg_sl ([.ref (ad x0), .int a1, .int a2])).length) Slot.unset).toArray 4 [(0, .ref (ad x0)), (1, .int a1), (2, .int a2)] := by
    exact lv_entry ([.ref (ad x0), .int a1, .int a2]) (n := 4) (Nat.le_of_ble_eq_true rfl)
  rw [lg_entry_eq]
  generalize (lg_sl ([.ref (ad x0), .int a1, .int a2]) ++ List.replicate (4 - (lg_sl ([.ref (ad x0), .int a1, .int a2])).length) Slot.unset).toArray = ls_ at hl ⊢
  refine wGen (fun Q hQ => ?_)
  obtain ⟨X, hX⟩ : ∃ X, f_Y8_againstSpan S x0 a1 a2 = X := ⟨_, rfl⟩
  have B_Y8_againstSpan_26 : ∀ (x1 : Int32) (x2 : Int32) (x3 : Option Nat) (H : Heap) (locs : List Loc) (ls_ : Array Slot), b_Y8_againstSpan_26 S x0 x1 x2 x3 = X → q_Y8_againstSpan_26 S x0 x1 x2 x3 → va_P G vwCl (wsC K ad S) H → va_D A (wsC K ad S) → va_S A s.heap H locs → lv_has ls_ 4 [(0, .ref (ad x0)), (1, .int x1), (2, .int x2), (3, va_re ad x3)] → W p l e ({ frames := 2, cells := 0, slots := 0, locals := 41 } : Room) s m #[Value.ref (ad x0), Value.int a1, Value.int a2] below meth c H locs 0 0 Q (F0 m 26 ls_ []) := by
    intro x1 x2 x3 H locs ls_ hE hp hP hD hS hl
    unfold b_Y8_againstSpan_26 at hE
    unfold q_Y8_againstSpan_26 at hp
    refine lv_bipush (v := 11) hx hb dX8_againstSpan_26 (by decide) ?_
    subst hQ
    exact W.iret (v := (11 : Int32)) hx hb hr (fun t ht hW => ⟨⟨(11 : Int32), S, rfl, (pair_i (hE.trans hX.symm)), by rw [ht]; exact hP, hD⟩, hS.F ht⟩) hS.2.2 dX8_againstSpan_28
  have B_Y8_againstSpan_51 : ∀ (x1 : Int32) (x2 : Int32) (x3 : Option Nat) (y0 : Int32) (H : Heap) (locs : List Loc) (ls_ : Array Slot), b_Y8_againstSpan_51 S x0 x1 x2 x3 y0 = X → q_Y8_againstSpan_51 S x0 x1 x2 x3 y0 → va_P G vwCl (wsC K ad S) H → va_D A (wsC K ad S) → va_S A s.heap H locs → lv_has ls_ 4 [(0, .ref (ad x0)), (1, .int x1), (2, .int x2), (3, va_re ad x3)] → W p l e ({ frames := 2, cells := 0, slots := 0, locals := 41 } : Room) s m #[Value.ref (ad x0), Value.int a1, Value.int a2] below meth c H locs 0 0 Q (F0 m 51 ls_ [.int y0]) := by
    intro x1 x2 x3 y0 H locs ls_ hE hp hP hD hS hl
    unfold b_Y8_againstSpan_51 at hE
    unfold q_Y8_againstSpan_51 at hp
    subst hQ
    exact W.iret (v := y0) hx hb hr (fun t ht hW => ⟨⟨y0, S, rfl, (pair_i (hE.trans hX.symm)), by rw [ht]; exact hP, hD⟩, hS.F ht⟩) hS.2.2 dX8_againstSpan_51
  have B_Y8_againstSpan_45 : ∀ (x1 : Int32) (x2 : Int32) (x3 : Option Nat) (H : Heap) (locs : List Loc) (ls_ : Array Slot), b_Y8_againstSpan_45 S x0 x1 x2 x3 = X → q_Y8_againstSpan_45 S x0 x1 x2 x3 → va_P G vwCl (wsC K ad S) H → va_D A (wsC K ad S) → va_S A s.heap H locs → lv_has ls_ 4 [(0, .ref (ad x0)), (1, .int x1), (2, .int x2), (3, va_re ad x3)] → W p l e ({ frames := 2, cells := 0, slots := 0, locals := 41 } : Room) s m #[Value.ref (ad x0), Value.int a1, Value.int a2] below meth c H locs 0 0 Q (F0 m 45 ls_ []) := by
    intro x1 x2 x3 H locs ls_ hE hp hP hD hS hl
    unfold b_Y8_againstSpan_45 at hE
    unfold q_Y8_againstSpan_45 at hp
    refine lv_bipush (v := 9) hx hb dX8_againstSpan_45 (by decide) ?_
    refine lv_goto (tgt := 51) hx hb dX8_againstSpan_47 (by decide) ?_
    exact B_Y8_againstSpan_51 x1 x2 x3 9 _ _ _ hE hp hP hD hS (lv_sub hl [0, 1, 2, 3] rfl)
  have B_M : ∀ (x1 : Int32) (x2 : Int32) (H : Heap) (locs : List Loc) (ls_ : Array Slot), f_Y8_againstSpan S x0 x1 x2 = X → p_Y8_againstSpan S x0 x1 x2 → va_P G vwCl (wsC K ad S) H → va_D A (wsC K ad S) → va_S A s.heap H locs → lv_has ls_ 4 [(0, .ref (ad x0)), (1, .int x1), (2, .int x2)] → W p l e ({ frames := 2, cells := 0, slots := 0, locals := 41 } : Room) s m #[Value.ref (ad x0), Value.int a1, Value.int a2] below meth c H locs 0 0 Q (F0 m 0 ls_ []) := by
    intro x1 x2 H locs ls_ hE hp hP hD hS hl
    unfold f_Y8_againstSpan at hE
    unfold p_Y8_againstSpan at hp
    refine lv_aload_n hx hb dX8_againstSpan_0 rfl (lv_at hl 0 rfl) ?_
    refine va_get (D := G) (ci := 0) (v := va_re ad (grC S x0 2)) (C := RX0) (T := TX0) (N := 11) hx hb hts iX0 hown hK hP x0 (at_0 k_x0) rfl 2 (by decide) (hw (.fieldLink RX8 141 "MotionFloor$Assembly" "draft" "LMotionFloor$Place;") (List.mem_of_getElem? (i := 0) rfl)) (fun _ h9 => h9) rfl dX8_againstSpan_1 ?_
    obtain ⟨hy1, hp⟩ := hp
    refine cTop (r := (grC S x0 2)) hy1.1 ?_
    obtain ⟨hy2, hp⟩ := hp
    refine cGoq (va_runV (As := []) (rest := []) ⟨hx, hb, hml, hown, hts⟩ (c_Y6_motion l G K ad S ((grC S x0 2).getD 0) _) (cwV 0 hts (wGV t_ (mw (.methodLink RX8 145 yX6_motion) (List.mem_of_getElem? (i := 1) rfl)) (mw (.instanceMethod yX6_motion) (List.mem_of_getElem? (i := 2) rfl)) (mw (.selects RX6 yX6_motion yX6_motion) (List.mem_of_getElem? (i := 3) rfl)) (mw (.initialized RX6) (List.mem_of_getElem? (i := 4) rfl)) j_Y6_motion) rfl rfl rfl (by decide +kernel) ⟨Nat.le_of_ble_eq_true rfl, Nat.le_of_ble_eq_true rfl⟩) (cPV hK hTE hP hD 5 rfl (at_5 hy1.2) ⟨hy1.2, hy2⟩) rfl rfl hl.1 rfl (lv_room (Nat.le_of_ble_eq_true rfl)) dX8_againstSpan_4 ⟨Nat.le_of_ble_eq_true rfl, Nat.le_of_ble_eq_true rfl⟩) hP hD hS hA (fun r4 u3 H locs hv hP hD hS => ?_)
    have h1 := congrArg Prod.fst hv
    have h2 := (congrArg Prod.snd hv).symm
    dsimp only at h1 h2
    subst h1
    subst h2
    refine cAstore_n (ad := ad) (r := (f_Y6_motion S ((grC S x0 2).getD 0))) (i := 3) (lv' := [(3, va_re ad (f_Y6_motion S ((grC S x0 2).getD 0))), (0, .ref (ad x0)), (1, .int x1), (2, .int x2)]) hx hb dX8_againstSpan_7 rfl hl (by decide) rfl (fun ls_ hl => ?_)
    refine cAload_n (ad := ad) (r := (f_Y6_motion S ((grC S x0 2).getD 0))) hx hb dX8_againstSpan_8 rfl (lv_at hl 0 rfl) ?_
    refine cIfnull (ad := ad) (r := (f_Y6_motion S ((grC S x0 2).getD 0))) (tgt := 26) hx hb dX8_againstSpan_9 (by decide) (fun c5 => ?_) (fun c5 => ?_)
    · rw [if_pos c5] at hE hp
      exact B_Y8_againstSpan_26 x1 x2 (f_Y6_motion S ((grC S x0 2).getD 0)) _ _ _ hE hp hP hD hS (lv_sub hl [1, 2, 3, 0] rfl)
    · rw [if_neg c5] at hE hp
      refine cAload_n (ad := ad) (r := (f_Y6_motion S ((grC S x0 2).getD 0))) hx hb dX8_againstSpan_12 rfl (lv_at hl 0 rfl) ?_
      obtain ⟨hy6, hp⟩ := hp
      refine cTop (r := (f_Y6_motion S ((grC S x0 2).getD 0))) hy6.1 ?_
      obtain ⟨hy7, hp⟩ := hp
      refine cGoi (va_runV (As := []) (rest := []) ⟨hx, hb, hml, hown, hts⟩ (c_Y4_amends l G K ad S ((f_Y6_motion S ((grC S x0 2).getD 0)).getD 0) _) (cwV 0 hts (wGV t_ (mw (.methodLink RX8 150 yX4_amends) (List.mem_of_getElem? (i := 5) rfl)) (mw (.instanceMethod yX4_amends) (List.mem_of_getElem? (i := 6) rfl)) (mw (.selects RX4 yX4_amends yX4_amends) (List.mem_of_getElem? (i := 7) rfl)) (mw (.initialized RX4) (List.mem_of_getElem? (i := 8) rfl)) j_Y4_amends) rfl rfl rfl (by decide +kernel) ⟨Nat.le_of_ble_eq_true rfl, Nat.le_of_ble_eq_true rfl⟩) (cPV hK hTE hP hD 3 rfl (at_3 hy6.2) ⟨hy6.2, hy7⟩) rfl rfl hl.1 rfl (lv_room (Nat.le_of_ble_eq_true rfl)) dX8_againstSpan_13 ⟨Nat.le_of_ble_eq_true rfl, Nat.le_of_ble_eq_true rfl⟩) hP hD hS hA (fun r9 u8 H locs hv hP hD hS => ?_)
      have h1 := congrArg Prod.fst hv
      have h2 := (congrArg Prod.snd hv).symm
      dsimp only at h1 h2
      subst h1
      subst h2
      refine lv_if_eq (tgt := 26) hx hb dX8_againstSpan_16 (by decide) (fun c10 => ?_) (fun c10 => ?_)
      · rw [if_pos c10] at hE hp
        exact B_Y8_againstSpan_26 x1 x2 (f_Y6_motion S ((grC S x0 2).getD 0)) _ _ _ hE hp hP hD hS (lv_sub hl [1, 2, 3, 0] rfl)
      · rw [if_neg c10] at hE hp
        refine cAload_n (ad := ad) (r := (f_Y6_motion S ((grC S x0 2).getD 0))) hx hb dX8_againstSpan_19 rfl (lv_at hl 0 rfl) ?_
        obtain ⟨hy11, hp⟩ := hp
        refine cTop (r := (f_Y6_motion S ((grC S x0 2).getD 0))) hy11.1 ?_
        refine va_get (D := G) (ci := 3) (v := .int (giC S ((f_Y6_motion S ((grC S x0 2).getD 0)).getD 0) 10)) (C := RX4) (T := TX4) (N := 16) hx hb hts iX4 hown hK hP ((f_Y6_motion S ((grC S x0 2).getD 0)).getD 0) (at_3 hy11.2) rfl 10 (by decide) (hw (.fieldLink RX8 153 "MotionFloor$Motion" "laid" "Z") (List.mem_of_getElem? (i := 9) rfl)) (fun _ h9 => h9) rfl dX8_againstSpan_20 ?_
        refine lv_if_eq (tgt := 29) hx hb dX8_againstSpan_23 (by decide) (fun c12 => ?_) (fun c12 => ?_)
        · rw [if_pos c12] at hE hp
          refine lv_iload_n hx hb dX8_againstSpan_29 rfl (lv_at hl 2 rfl) ?_
          refine lv_if_lt (tgt := 45) hx hb dX8_againstSpan_30 (by decide) (fun c13 => ?_) (fun c13 => ?_)
          · rw [if_pos c13] at hE hp
            exact B_Y8_againstSpan_45 x1 x2 (f_Y6_motion S ((grC S x0 2).getD 0)) _ _ _ hE hp hP hD hS (lv_sub hl [1, 2, 3, 0] rfl)
          · rw [if_neg c13] at hE hp
            refine lv_iload_n hx hb dX8_againstSpan_33 rfl (lv_at hl 3 rfl) ?_
            refine lv_iload_n hx hb dX8_againstSpan_34 rfl (lv_at hl 2 rfl) ?_
            refine lv_icmp_lt (tgt := 45) hx hb dX8_againstSpan_35 (by decide) (fun c14 => ?_) (fun c14 => ?_)
            · rw [if_pos c14] at hE hp
              exact B_Y8_againstSpan_45 x1 x2 (f_Y6_motion S ((grC S x0 2).getD 0)) _ _ _ hE hp hP hD hS (lv_sub hl [1, 2, 3, 0] rfl)
            · rw [if_neg c14] at hE hp
              refine lv_iload_n hx hb dX8_againstSpan_38 rfl (lv_at hl 3 rfl) ?_
              refine lv_sipush (v := 400) hx hb dX8_againstSpan_39 (by decide) ?_
              refine lv_icmp_le (tgt := 50) hx hb dX8_againstSpan_42 (by decide) (fun c15 => ?_) (fun c15 => ?_)
              · rw [if_pos c15] at hE hp
                refine lv_iconst (v := 0) hx hb dX8_againstSpan_50 (by decide) ?_
                exact B_Y8_againstSpan_51 x1 x2 (f_Y6_motion S ((grC S x0 2).getD 0)) 0 _ _ _ hE hp hP hD hS (lv_sub hl [1, 2, 3, 0] rfl)
              · rw [if_neg c15] at hE hp
                exact B_Y8_againstSpan_45 x1 x2 (f_Y6_motion S ((grC S x0 2).getD 0)) _ _ _ hE hp hP hD hS (lv_sub hl [1, 2, 3, 0] rfl)
        · rw [if_neg c12] at hE hp
          exact B_Y8_againstSpan_26 x1 x2 (f_Y6_motion S ((grC S x0 2).getD 0)) _ _ _ hE hp hP hD hS (lv_sub hl [1, 2, 3, 0] rfl)
  exact B_M a1 a2 _ _ _ hX hp hP hD hS hl
