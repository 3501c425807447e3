theorem dX0_enact_0 : decode cX0_enact 0 = .ok (.aload_n 0, 1) := by decide +kernel
theorem dX0_enact_1 : decode cX0_enact 1 = .ok (.aload_n 0, 1) := by decide +kernel
theorem dX0_enact_2 : decode cX0_enact 2 = .ok (.iload_n 1, 1) := by decide +kernel
theorem dX0_enact_3 : decode cX0_enact 3 = .ok (.iload_n 2, 1) := by decide +kernel
theorem dX0_enact_4 : decode cX0_enact 4 = .ok (.iload_n 3, 1) := by decide +kernel
theorem dX0_enact_5 : decode cX0_enact 5 = .ok (.iload 4, 2) := by decide +kernel
theorem dX0_enact_7 : decode cX0_enact 7 = .ok (.iload 5, 2) := by decide +kernel
theorem dX0_enact_9 : decode cX0_enact 9 = .ok (.invokestatic 155, 3) := by decide +kernel
theorem dX8_against_0 : decode cX8_against 0 = .ok (.iload_n 1, 1) := by decide +kernel
theorem dX8_against_1 : decode cX8_against 1 = .ok (.bipush 9, 2) := by decide +kernel
theorem dX8_against_3 : decode cX8_against 3 = .ok (.if_icmp .gt 15, 3) := by decide +kernel
theorem dX8_against_18 : decode cX8_against 18 = .ok (.iload_n 1, 1) := by decide +kernel
theorem dX8_against_19 : decode cX8_against 19 = .ok (.bipush 14, 2) := by decide +kernel
theorem dX8_against_21 : decode cX8_against 21 = .ok (.if_icmp .gt 19, 3) := by decide +kernel
theorem dX8_against_40 : decode cX8_against 40 = .ok (.aload_n 0, 1) := by decide +kernel
theorem dX8_against_41 : decode cX8_against 41 = .ok (.iload_n 1, 1) := by decide +kernel
theorem dX8_against_42 : decode cX8_against 42 = .ok (.iload_n 2, 1) := by decide +kernel
theorem dX8_against_43 : decode cX8_against 43 = .ok (.iload_n 3, 1) := by decide +kernel
theorem dX8_against_44 : decode cX8_against 44 = .ok (.invokestatic 19, 3) := by decide +kernel
theorem dX8_againstOnMotion_0 : decode cX8_againstOnMotion 0 = .ok (.iload_n 1, 1) := by decide +kernel
theorem dX8_againstOnMotion_1 : decode cX8_againstOnMotion 1 = .ok (.bipush 15, 2) := by decide +kernel
theorem dX8_againstOnMotion_3 : decode cX8_againstOnMotion 3 = .ok (.if_icmp .ne 9, 3) := by decide +kernel
theorem dX8_againstOnMotion_12 : decode cX8_againstOnMotion 12 = .ok (.aload_n 0, 1) := by decide +kernel
theorem dX8_againstOnMotion_13 : decode cX8_againstOnMotion 13 = .ok (.getfield 34, 3) := by decide +kernel
theorem dX8_againstOnMotion_16 : decode cX8_againstOnMotion 16 = .ok (.aload_n 0, 1) := by decide +kernel
theorem dX8_againstOnMotion_17 : decode cX8_againstOnMotion 17 = .ok (.getfield 34, 3) := by decide +kernel
theorem dX8_againstOnMotion_20 : decode cX8_againstOnMotion 20 = .ok (.getfield 79, 3) := by decide +kernel
theorem dX8_againstOnMotion_23 : decode cX8_againstOnMotion 23 = .ok (.invokevirtual 82, 3) := by decide +kernel
set_option maxRecDepth 100000 in
theorem zc142 : wZ (.code yX2_isThere cX2_isThere 2 (some .boolean)) := ⟨wT2 (List.mem_of_getElem? (i := 65) rfl), Or.inl rfl⟩
def b_Y2_isThere_35 (S : Cst) (x0 : Nat) (x1 : Int32) (y0 : Int32) : Int32 := y0
def q_Y2_isThere_35 (S : Cst) (x0 : Nat) (x1 : Int32) (y0 : Int32) : Prop := (narrow .boolean (.int y0) = .int y0) ∧ True
def b_Y2_isThere_34 (S : Cst) (x0 : Nat) (x1 : Int32) : Int32 := (b_Y2_isThere_35 S x0 x1 0)
def q_Y2_isThere_34 (S : Cst) (x0 : Nat) (x1 : Int32) : Prop := (q_Y2_isThere_35 S x0 x1 0)
def f_Y2_isThere (S : Cst) (x0 : Nat) (x1 : Int32) : Int32 := if x1 < 0 then (b_Y2_isThere_34 S x0 x1) else if (giC S x0 0) ≤ x1 then (b_Y2_isThere_34 S x0 x1) else if (Int32.ofNat (lnC S ((grC S x0 1).getD 0))) ≤ x1 then (b_Y2_isThere_34 S x0 x1) else if (giC S ((grC S x0 1).getD 0) x1.toNatClampNeg) = 0 then (b_Y2_isThere_34 S x0 x1) else (b_Y2_isThere_35 S x0 x1 1)
def p_Y2_isThere (S : Cst) (x0 : Nat) (x1 : Int32) : Prop := (if x1 < 0 then (q_Y2_isThere_34 S x0 x1) else (if (giC S x0 0) ≤ x1 then (q_Y2_isThere_34 S x0 x1) else (iR S (grC S x0 1) 21) ∧ (if (Int32.ofNat (lnC S ((grC S x0 1).getD 0))) ≤ x1 then (q_Y2_isThere_34 S x0 x1) else (iR S (grC S x0 1) 21) ∧ (vp_in x1 (lnC S ((grC S x0 1).getD 0))) ∧ (if (giC S ((grC S x0 1).getD 0) x1.toNatClampNeg) = 0 then (q_Y2_isThere_34 S x0 x1) else (q_Y2_isThere_35 S x0 x1 1)))))
def e_Y2_isThere : List Cond := [.fieldLink RX2 19 "MotionFloor$House" "seats" "I", .fieldLink RX2 9 "MotionFloor$House" "there" "[Z"]
def v_Y2_isThere : List Cond := .code yX2_isThere cX2_isThere 2 (some .boolean) :: (e_Y2_isThere ++ (wsX20 ++ []))
theorem te_Y2_isThere : GoodIn lw_tbl e_Y2_isThere := wGc zc84 (wGc zc70 (wG0))
theorem t_Y2_isThere : GoodIn lw_tbl v_Y2_isThere := wGc zc142 (wGa te_Y2_isThere (wGa zcX2 (wG0)))
set_option maxHeartbeats 4000000 in
set_option maxRecDepth 100000 in
theorem c_Y2_isThere (l : Launch) (G : va_G) (K : Nat → ClassId) (ad : Nat → Nat) (S : Cst) (x0 : Nat) (a1 : Int32) (sz : Nat) : Met l yX2_isThere v_Y2_isThere ({ frames := 0, cells := 0, slots := 0, locals := 0 }) (va_Pc [.ref (ad x0), .int a1] (cSt G K ad sz S (iK S x0 1 ∧ p_Y2_isThere S x0 a1))) (va_Qi (fun (r : Int32) (u : Cst) => (r, u) = (f_Y2_isThere S x0 a1, S)) (cBt G K ad (va_A (wsC K ad S) sz)) (va_A (wsC K ad S) sz)) 0 0 (va_A (wsC K ad S) sz) := by
  refine Met.ofW (cc := cX2_isThere) (maxL := 2) (ret := (some .boolean)) (by decide) rfl ?_
  intro p e s m args below meth c s₁ B hml hv
  obtain ⟨rfl, ⟨hsz, hP, hK, hD0, hTE⟩, hp⟩ := hv
  obtain ⟨k_x0, hp⟩ := hp
  have hx := B.exec
  have hb := B.bytes
  have hr := B.returns
  have hts := atoms_spec (ws := v_Y2_isThere) B.pre
  have t_ := t_Y2_isThere
  have mw : ∀ w ∈ e_Y2_isThere, w ∈ v_Y2_isThere := fun w h => List.mem_cons_of_mem _ (List.mem_append_left _ h)
  have hw := fun w (h : w ∈ e_Y2_isThere) => hts w (mw w h)
  have iX2 : ∀ w ∈ wsX20, w ∈ v_Y2_isThere := fun w h => List.mem_cons_of_mem _ (List.mem_append_right _ (List.mem_append_left _ h))
  have hown : s.vm.findClass RX2 = some m.cls := findClass_of_methodNamed B.named
  have hlocks := B.notSynchronized
  subst hsz
  have hD := hD0.self (sz := s.heap.size)
  generalize hAe : va_A (wsC K ad S) s.heap.size = A at hD ⊢
  have hA : ∀ q : Nat, s.heap.size ≤ q → A q := fun q h => by rw [← hAe]; exact Or.inr h
  have hS : va_S A s.heap s.heap [] := va_S.rf
  have hl : lv_has (lg_sl ([.ref (ad x0), .int a1]) ++ List.replicate (2 - (lg_sl ([.ref (ad x0), .int a1])).length) Slot.unset).toArray 2 [(0, .ref (ad x0)), (1, .int a1)] := by
    exact lv_entry ([.ref (ad x0), .int a1]) (n := 2) (Nat.le_of_ble_eq_true rfl)
  rw [lg_entry_eq]
  generalize (lg_sl ([.ref (ad x0), .int a1]) ++ List.replicate (2 - (lg_sl ([.ref (ad x0), .int a1])).length) Slot.unset).toArray = ls_ at hl ⊢
  refine wGen (fun Q hQ => ?_)
  obtain ⟨X, hX⟩ : ∃ X, f_Y2_isThere S x0 a1 = X := ⟨_, rfl⟩
  have B_Y2_isThere_35 : ∀ (x1 : Int32) (y0 : Int32) (H : Heap) (locs : List Loc) (ls_ : Array Slot), b_Y2_isThere_35 S x0 x1 y0 = X → q_Y2_isThere_35 S x0 x1 y0 → va_P G vwCl (wsC K ad S) H → va_D A (wsC K ad S) → va_S A s.heap H locs → lv_has ls_ 2 [(0, .ref (ad x0)), (1, .int x1)] → W p l e ({ frames := 0, cells := 0, slots := 0, locals := 0 } : Room) s m #[Value.ref (ad x0), Value.int a1] below meth c H locs 0 0 Q (F0 m 35 ls_ [.int y0]) := by
    intro x1 y0 H locs ls_ hE hp hP hD hS hl
    unfold b_Y2_isThere_35 at hE
    unfold q_Y2_isThere_35 at hp
    obtain ⟨hy2, hp⟩ := hp
    subst hQ
    exact W.zret (v := y0) (ty := .boolean) hx hb hr hy2 (fun t ht hW => ⟨⟨y0, S, rfl, (pair_i (hE.trans hX.symm)), by rw [ht]; exact hP, hD⟩, hS.F ht⟩) hS.2.2 dX2_isThere_35
  have B_Y2_isThere_34 : ∀ (x1 : Int32) (H : Heap) (locs : List Loc) (ls_ : Array Slot), b_Y2_isThere_34 S x0 x1 = X → q_Y2_isThere_34 S x0 x1 → va_P G vwCl (wsC K ad S) H → va_D A (wsC K ad S) → va_S A s.heap H locs → lv_has ls_ 2 [(0, .ref (ad x0)), (1, .int x1)] → W p l e ({ frames := 0, cells := 0, slots := 0, locals := 0 } : Room) s m #[Value.ref (ad x0), Value.int a1] below meth c H locs 0 0 Q (F0 m 34 ls_ []) := by
    intro x1 H locs ls_ hE hp hP hD hS hl
    unfold b_Y2_isThere_34 at hE
    unfold q_Y2_isThere_34 at hp
    refine lv_iconst (v := 0) hx hb dX2_isThere_34 (by decide) ?_
    exact B_Y2_isThere_35 x1 0 _ _ _ hE hp hP hD hS (lv_sub hl [0, 1] rfl)
  have B_M : ∀ (x1 : Int32) (H : Heap) (locs : List Loc) (ls_ : Array Slot), f_Y2_isThere S x0 x1 = X → p_Y2_isThere S x0 x1 → va_P G vwCl (wsC K ad S) H → va_D A (wsC K ad S) → va_S A s.heap H locs → lv_has ls_ 2 [(0, .ref (ad x0)), (1, .int x1)] → W p l e ({ frames := 0, cells := 0, slots := 0, locals := 0 } : Room) s m #[Value.ref (ad x0), Value.int a1] below meth c H locs 0 0 Q (F0 m 0 ls_ []) := by
    intro x1 H locs ls_ hE hp hP hD hS hl
    unfold f_Y2_isThere at hE
    unfold p_Y2_isThere at hp
    refine lv_iload_n hx hb dX2_isThere_0 rfl (lv_at hl 1 rfl) ?_
    refine lv_if_lt (tgt := 34) hx hb dX2_isThere_1 (by decide) (fun c1 => ?_) (fun c1 => ?_)
    · rw [if_pos c1] at hE hp
      exact B_Y2_isThere_34 x1 _ _ _ hE hp hP hD hS (lv_sub hl [0, 1] rfl)
    · rw [if_neg c1] at hE hp
      refine lv_iload_n hx hb dX2_isThere_4 rfl (lv_at hl 1 rfl) ?_
      refine lv_aload_n hx hb dX2_isThere_5 rfl (lv_at hl 0 rfl) ?_
      refine va_get (D := G) (ci := 1) (v := .int (giC S x0 0)) (C := RX2) (T := TX2) (N := 8) hx hb hts iX2 hown hK hP x0 (at_1 k_x0) rfl 0 (by decide) (hw (.fieldLink RX2 19 "MotionFloor$House" "seats" "I") (List.mem_of_getElem? (i := 0) rfl)) (fun _ h9 => h9) rfl dX2_isThere_6 ?_
      refine lv_icmp_ge (tgt := 34) hx hb dX2_isThere_9 (by decide) (fun c3 => ?_) (fun c3 => ?_)
      · rw [if_pos c3] at hE hp
        exact B_Y2_isThere_34 x1 _ _ _ hE hp hP hD hS (lv_sub hl [0, 1] rfl)
      · rw [if_neg c3] at hE hp
        refine lv_iload_n hx hb dX2_isThere_12 rfl (lv_at hl 1 rfl) ?_
        refine lv_aload_n hx hb dX2_isThere_13 rfl (lv_at hl 0 rfl) ?_
        refine va_get (D := G) (ci := 1) (v := va_re ad (grC S x0 1)) (C := RX2) (T := TX2) (N := 8) hx hb hts iX2 hown hK hP x0 (at_1 k_x0) rfl 1 (by decide) (hw (.fieldLink RX2 9 "MotionFloor$House" "there" "[Z") (List.mem_of_getElem? (i := 1) rfl)) (fun _ h9 => h9) rfl dX2_isThere_14 ?_
        obtain ⟨hy4, hp⟩ := hp
        refine cTop (r := (grC S x0 1)) hy4.1 ?_
        refine va_alen (v := (Int32.ofNat (lnC S ((grC S x0 1).getD 0)))) hx hb hK hP ((grC S x0 1).getD 0) 1 (at_21 hy4.2) rfl rfl dX2_isThere_17 ?_
        refine lv_icmp_ge (tgt := 34) hx hb dX2_isThere_18 (by decide) (fun c5 => ?_) (fun c5 => ?_)
        · rw [if_pos c5] at hE hp
          exact B_Y2_isThere_34 x1 _ _ _ hE hp hP hD hS (lv_sub hl [0, 1] rfl)
        · rw [if_neg c5] at hE hp
          refine lv_aload_n hx hb dX2_isThere_21 rfl (lv_at hl 0 rfl) ?_
          refine va_get (D := G) (ci := 1) (v := va_re ad (grC S x0 1)) (C := RX2) (T := TX2) (N := 8) hx hb hts iX2 hown hK hP x0 (at_1 k_x0) rfl 1 (by decide) (hw (.fieldLink RX2 9 "MotionFloor$House" "there" "[Z") (List.mem_of_getElem? (i := 1) rfl)) (fun _ h9 => h9) rfl dX2_isThere_22 ?_
          refine lv_iload_n hx hb dX2_isThere_25 rfl (lv_at hl 1 rfl) ?_
          obtain ⟨hy6, hp⟩ := hp
          refine cTop2 (r := (grC S x0 1)) hy6.1 ?_
          obtain ⟨hy7, hp⟩ := hp
          refine va_zald hx hb hK hP ((grC S x0 1).getD 0) 1 (at_21 hy6.2) rfl hy7 dX2_isThere_26 ?_
          refine lv_if_eq (tgt := 34) hx hb dX2_isThere_27 (by decide) (fun c8 => ?_) (fun c8 => ?_)
          · rw [if_pos c8] at hE hp
            exact B_Y2_isThere_34 x1 _ _ _ hE hp hP hD hS (lv_sub hl [0, 1] rfl)
          · rw [if_neg c8] at hE hp
            refine lv_iconst (v := 1) hx hb dX2_isThere_30 (by decide) ?_
            refine lv_goto (tgt := 35) hx hb dX2_isThere_31 (by decide) ?_
            exact B_Y2_isThere_35 x1 1 _ _ _ hE hp hP hD hS (lv_sub hl [0, 1] rfl)
  exact B_M a1 _ _ _ hX hp hP hD hS hl
theorem dX5_top_0 : decode cX5_top 0 = .ok (.aload_n 0, 1) := by decide +kernel
theorem dX5_top_1 : decode cX5_top 1 = .ok (.aload_n 0, 1) := by decide +kernel
theorem dX5_top_2 : decode cX5_top 2 = .ok (.getfield 17, 3) := by decide +kernel
theorem dX5_top_5 : decode cX5_top 5 = .ok (.iconst 1, 1) := by decide +kernel
theorem dX5_top_6 : decode cX5_top 6 = .ok (.isub, 1) := by decide +kernel
theorem dX5_top_7 : decode cX5_top 7 = .ok (.invokevirtual 21, 3) := by decide +kernel
theorem dX5_top_10 : decode cX5_top 10 = .ok (.areturn, 1) := by decide +kernel
theorem dX8_againstOnMotion_26 : decode cX8_againstOnMotion 26 = .ok (.istore 4, 2) := by decide +kernel
theorem dX8_againstOnMotion_28 : decode cX8_againstOnMotion 28 = .ok (.iload_n 1, 1) := by decide +kernel
theorem dX8_againstOnMotion_29 : decode cX8_againstOnMotion 29 = .ok (.bipush 22, 2) := by decide +kernel
theorem dX8_againstOnMotion_31 : decode cX8_againstOnMotion 31 = .ok (.if_icmp .ne 15, 3) := by decide +kernel
theorem dX8_againstOnMotion_46 : decode cX8_againstOnMotion 46 = .ok (.iload_n 1, 1) := by decide +kernel
theorem dX8_againstOnMotion_47 : decode cX8_againstOnMotion 47 = .ok (.bipush 19, 2) := by decide +kernel
theorem dX8_againstOnMotion_49 : decode cX8_againstOnMotion 49 = .ok (.if_icmp .eq 9, 3) := by decide +kernel
theorem dX8_againstOnMotion_58 : decode cX8_againstOnMotion 58 = .ok (.iload 4, 2) := by decide +kernel
theorem dX8_againstOnMotion_60 : decode cX8_againstOnMotion 60 = .ok (.ifCond .ne 6, 3) := by decide +kernel
theorem dX8_againstOnMotion_66 : decode cX8_againstOnMotion 66 = .ok (.aload_n 0, 1) := by decide +kernel
theorem dX8_againstOnMotion_67 : decode cX8_againstOnMotion 67 = .ok (.getfield 86, 3) := by decide +kernel
theorem dX8_againstOnMotion_70 : decode cX8_againstOnMotion 70 = .ok (.invokevirtual 90, 3) := by decide +kernel
set_option maxRecDepth 100000 in
theorem zc143 : wZ (.methodLink RX5 21 yX5_at) := ⟨wT2 (List.mem_of_getElem? (i := 79) (by decide +kernel)), Or.inl rfl⟩
set_option maxRecDepth 100000 in
theorem zc144 : wZ (.code yX5_top cX5_top 1 (some (.object "MotionFloor$Motion"))) := ⟨wT2 (List.mem_of_getElem? (i := 78) rfl), Or.inl rfl⟩
def f_Y5_top (S : Cst) (x0 : Nat) : Option Nat := (f_Y5_at S x0 ((giC S x0 1) - 1))
def p_Y5_top (S : Cst) (x0 : Nat) : Prop := (p_Y5_at S x0 ((giC S x0 1) - 1)) ∧ True
def e_Y5_top : List Cond := [.fieldLink RX5 17 "MotionFloor$Pile" "size" "I", .methodLink RX5 21 yX5_at, .instanceMethod yX5_at, .selects RX5 yX5_at yX5_at, .initialized RX5]
def v_Y5_top : List Cond := .code yX5_top cX5_top 1 (some (.object "MotionFloor$Motion")) :: (e_Y5_top ++ (wsX50 ++ (v_Y5_at ++ [])))
theorem te_Y5_top : GoodIn lw_tbl e_Y5_top := wGc zc3 (wGc zc143 (wGc zc128 (wGc zc127 (wGc zc34 (wG0)))))
theorem t_Y5_top : GoodIn lw_tbl v_Y5_top := wGc zc144 (wGa te_Y5_top (wGa zcX5 (wGa t_Y5_at (wG0))))
set_option maxHeartbeats 4000000 in
set_option maxRecDepth 100000 in
theorem c_Y5_top (l : Launch) (G : va_G) (K : Nat → ClassId) (ad : Nat → Nat) (S : Cst) (x0 : Nat)  (sz : Nat) : Met l yX5_top v_Y5_top ({ frames := 1, cells := 0, slots := 0, locals := 21 }) (va_Pc [.ref (ad x0)] (cSt G K ad sz S (iK S x0 4 ∧ p_Y5_top S x0))) (va_Qq (fun (r : Option Nat) (u : Cst) => ∃ r', r = r'.map ad ∧ ((r', u) = (f_Y5_top S x0, S))) (cBt G K ad (va_A (wsC K ad S) sz)) (va_A (wsC K ad S) sz)) 0 0 (va_A (wsC K ad S) sz) := by
  refine Met.ofW (cc := cX5_top) (maxL := 1) (ret := (some (.object "MotionFloor$Motion"))) (by decide) rfl ?_
  intro p e s m args below meth c s₁ B hml hv
  obtain ⟨rfl, ⟨hsz, hP, hK, hD0, hTE⟩, hp⟩ := hv
  obtain ⟨k_x0, hp⟩ := hp
  have hx := B.exec
  have hb := B.bytes
  have hr := B.returns
  have hts := atoms_spec (ws := v_Y5_top) B.pre
  have t_ := t_Y5_top
  have mw : ∀ w ∈ e_Y5_top, w ∈ v_Y5_top := fun w h => List.mem_cons_of_mem _ (List.mem_append_left _ h)
  have hw := fun w (h : w ∈ e_Y5_top) => hts w (mw w h)
  have iX5 : ∀ w ∈ wsX50, w ∈ v_Y5_top := fun w h => List.mem_cons_of_mem _ (List.mem_append_right _ (List.mem_append_left _ h))
  have j_Y5_at : ∀ w ∈ v_Y5_at, w ∈ v_Y5_top := fun w h => List.mem_cons_of_mem _ (List.mem_append_right _ (List.mem_append_right _ (List.mem_append_left _ h)))
  have hown : s.vm.findClass RX5 = some m.cls := findClass_of_methodNamed B.named
  have hlocks := B.notSynchronized
  subst hsz
  have hD := hD0.self (sz := s.heap.size)
  generalize hAe : va_A (wsC K ad S) s.heap.size = A at hD ⊢
  have hA : ∀ q : Nat, s.heap.size ≤ q → A q := fun q h => by rw [← hAe]; exact Or.inr h
  have hS : va_S A s.heap s.heap [] := va_S.rf
  have hl : lv_has (lg_sl ([.ref (ad x0)]) ++ List.replicate (1 - (lg_sl ([.ref (ad x0)])).length) Slot.unset).toArray 1 [(0, .ref (ad x0))] := by
    exact lv_entry ([.ref (ad x0)]) (n := 1) (Nat.le_of_ble_eq_true rfl)
  rw [lg_entry_eq]
  generalize (lg_sl ([.ref (ad x0)]) ++ List.replicate (1 - (lg_sl ([.ref (ad x0)])).length) Slot.unset).toArray = ls_ at hl ⊢
  refine wGen (fun Q hQ => ?_)
  obtain ⟨X, hX⟩ : ∃ X, f_Y5_top S x0 = X := ⟨_, rfl⟩
  have B_M : ∀ (H : Heap) (locs : List Loc) (ls_ : Array Slot), f_Y5_top S x0 = X → p_Y5_top S x0 → va_P G vwCl (wsC K ad S) H → va_D A (wsC K ad S) → va_S A s.heap H locs → lv_has ls_ 1 [(0, .ref (ad x0))] → W p l e ({ frames := 1, cells := 0, slots := 0, locals := 21 } : Room) s m #[Value.ref (ad x0)] below meth c H locs 0 0 Q (F0 m 0 ls_ []) := by
    intro  H locs ls_ hE hp hP hD hS hl
    unfold f_Y5_top at hE
    unfold p_Y5_top at hp
    refine lv_aload_n hx hb dX5_top_0 rfl (lv_at hl 0 rfl) ?_
    refine lv_aload_n hx hb dX5_top_1 rfl (lv_at hl 0 rfl) ?_
    refine va_get (D := G) (ci := 4) (v := .int (giC S x0 1)) (C := RX5) (T := TX5) (N := 2) hx hb hts iX5 hown hK hP x0 (at_4 k_x0) rfl 1 (by decide) (hw (.fieldLink RX5 17 "MotionFloor$Pile" "size" "I") (List.mem_of_getElem? (i := 0) rfl)) (fun _ h9 => h9) rfl dX5_top_2 ?_
    refine lv_iconst (v := 1) hx hb dX5_top_5 (by decide) ?_
    refine lv_isub hx hb dX5_top_6 ?_
    obtain ⟨hy1, hp⟩ := hp
    refine cGoq (va_runV (As := [.int ((giC S x0 1) - 1)]) (rest := []) ⟨hx, hb, hml, hown, hts⟩ (c_Y5_at l G K ad S x0 ((giC S x0 1) - 1) _) (cwV 1 hts (wGV t_ (mw (.methodLink RX5 21 yX5_at) (List.mem_of_getElem? (i := 1) rfl)) (mw (.instanceMethod yX5_at) (List.mem_of_getElem? (i := 2) rfl)) (mw (.selects RX5 yX5_at yX5_at) (List.mem_of_getElem? (i := 3) rfl)) (mw (.initialized RX5) (List.mem_of_getElem? (i := 4) rfl)) j_Y5_at) rfl rfl rfl (by decide +kernel) ⟨Nat.le_of_ble_eq_true rfl, Nat.le_of_ble_eq_true rfl⟩) (cPV hK hTE hP hD 4 rfl (at_4 k_x0) ⟨k_x0, hy1⟩) rfl rfl hl.1 rfl (lv_room (Nat.le_of_ble_eq_true rfl)) dX5_top_7 ⟨Nat.le_of_ble_eq_true rfl, Nat.le_of_ble_eq_true rfl⟩) hP hD hS hA (fun r3 u2 H locs hv hP hD hS => ?_)
    have h1 := congrArg Prod.fst hv
    have h2 := (congrArg Prod.snd hv).symm
    dsimp only at h1 h2
    subst h1
    subst h2
    subst hQ
    exact W.aret (v := va_re ad (f_Y5_at S x0 ((giC S x0 1) - 1))) hx hb hr (Or.inl ⟨_, rfl⟩) (va_re_or ad _) (fun t ht hW => ⟨⟨(f_Y5_at S x0 ((giC S x0 1) - 1)).map ad, S, rfl, ⟨(f_Y5_at S x0 ((giC S x0 1) - 1)), rfl, (pair_i (hE.trans hX.symm))⟩, by rw [ht]; exact hP, hD⟩, hS.F ht⟩) hS.2.2 dX5_top_10
  exact B_M  _ _ _ hX hp hP hD hS hl
theorem dX8_againstAbsent_0 : decode cX8_againstAbsent 0 = .ok (.aload_n 0, 1) := by decide +kernel
theorem dX8_againstAbsent_1 : decode cX8_againstAbsent 1 = .ok (.iload_n 1, 1) := by decide +kernel
theorem dX8_againstAbsent_2 : decode cX8_againstAbsent 2 = .ok (.invokevirtual 114, 3) := by decide +kernel
theorem dX8_againstOnMotion_73 : decode cX8_againstOnMotion 73 = .ok (.astore 5, 2) := by decide +kernel
theorem dX8_againstOnMotion_75 : decode cX8_againstOnMotion 75 = .ok (.aload 5, 2) := by decide +kernel
theorem dX8_againstOnMotion_77 : decode cX8_againstOnMotion 77 = .ok (.ifnonnull 6, 3) := by decide +kernel
theorem dX8_againstOnMotion_80 : decode cX8_againstOnMotion 80 = .ok (.bipush 7, 2) := by decide +kernel
theorem dX8_againstOnMotion_82 : decode cX8_againstOnMotion 82 = .ok (.ireturn, 1) := by decide +kernel
theorem dX8_againstOnMotion_83 : decode cX8_againstOnMotion 83 = .ok (.iload_n 1, 1) := by decide +kernel
theorem dX8_againstOnMotion_84 : decode cX8_againstOnMotion 84 = .ok (.tableswitch 94 16 21 #[40, 51, 63, 74, 81, 92], 40) := by decide +kernel
theorem dX8_againstOnMotion_124 : decode cX8_againstOnMotion 124 = .ok (.aload_n 0, 1) := by decide +kernel
theorem dX8_againstOnMotion_125 : decode cX8_againstOnMotion 125 = .ok (.getfield 34, 3) := by decide +kernel
theorem dX8_againstOnMotion_128 : decode cX8_againstOnMotion 128 = .ok (.aload 5, 2) := by decide +kernel
theorem dX8_againstOnMotion_130 : decode cX8_againstOnMotion 130 = .ok (.iload_n 2, 1) := by decide +kernel
theorem dX8_againstOnMotion_131 : decode cX8_againstOnMotion 131 = .ok (.invokestatic 96, 3) := by decide +kernel
theorem dX8_againstSecond_0 : decode cX8_againstSecond 0 = .ok (.aload_n 0, 1) := by decide +kernel
theorem dX8_againstSecond_1 : decode cX8_againstSecond 1 = .ok (.iload_n 2, 1) := by decide +kernel
theorem dX8_againstSecond_2 : decode cX8_againstSecond 2 = .ok (.invokestatic 42, 3) := by decide +kernel
set_option maxRecDepth 100000 in
theorem zc145 : wZ (.code yX2_has cX2_has 2 (some .boolean)) := ⟨wT2 (List.mem_of_getElem? (i := 61) rfl), Or.inl rfl⟩
def b_Y2_has_26 (S : Cst) (x0 : Nat) (x1 : Int32) (y0 : Int32) : Int32 := y0
def q_Y2_has_26 (S : Cst) (x0 : Nat) (x1 : Int32) (y0 : Int32) : Prop := (narrow .boolean (.int y0) = .int y0) ∧ True
def b_Y2_has_25 (S : Cst) (x0 : Nat) (x1 : Int32) : Int32 := (b_Y2_has_26 S x0 x1 0)
def q_Y2_has_25 (S : Cst) (x0 : Nat) (x1 : Int32) : Prop := (q_Y2_has_26 S x0 x1 0)
def f_Y2_has (S : Cst) (x0 : Nat) (x1 : Int32) : Int32 := if x1 < 0 then (b_Y2_has_25 S x0 x1) else if (giC S x0 0) ≤ x1 then (b_Y2_has_25 S x0 x1) else if (Int32.ofNat (lnC S ((grC S x0 1).getD 0))) ≤ x1 then (b_Y2_has_25 S x0 x1) else (b_Y2_has_26 S x0 x1 1)
def p_Y2_has (S : Cst) (x0 : Nat) (x1 : Int32) : Prop := (if x1 < 0 then (q_Y2_has_25 S x0 x1) else (if (giC S x0 0) ≤ x1 then (q_Y2_has_25 S x0 x1) else (iR S (grC S x0 1) 21) ∧ (if (Int32.ofNat (lnC S ((grC S x0 1).getD 0))) ≤ x1 then (q_Y2_has_25 S x0 x1) else (q_Y2_has_26 S x0 x1 1))))
def e_Y2_has : List Cond := [.fieldLink RX2 19 "MotionFloor$House" "seats" "I", .fieldLink RX2 9 "MotionFloor$House" "there" "[Z"]
def v_Y2_has : List Cond := .code yX2_has cX2_has 2 (some .boolean) :: (e_Y2_has ++ (wsX20 ++ []))
theorem te_Y2_has : GoodIn lw_tbl e_Y2_has := wGc zc84 (wGc zc70 (wG0))
theorem t_Y2_has : GoodIn lw_tbl v_Y2_has := wGc zc145 (wGa te_Y2_has (wGa zcX2 (wG0)))
set_option maxHeartbeats 4000000 in
set_option maxRecDepth 100000 in
theorem c_Y2_has (l : Launch) (G : va_G) (K : Nat → ClassId) (ad : Nat → Nat) (S : Cst) (x0 : Nat) (a1 : Int32) (sz : Nat) : Met l yX2_has v_Y2_has ({ frames := 0, cells := 0, slots := 0, locals := 0 }) (va_Pc [.ref (ad x0), .int a1] (cSt G K ad sz S (iK S x0 1 ∧ p_Y2_has S x0 a1))) (va_Qi (fun (r : Int32) (u : Cst) => (r, u) = (f_Y2_has S x0 a1, S)) (cBt G K ad (va_A (wsC K ad S) sz)) (va_A (wsC K ad S) sz)) 0 0 (va_A (wsC K ad S) sz) := by
  refine Met.ofW (cc := cX2_has) (maxL := 2) (ret := (some .boolean)) (by decide) rfl ?_
  intro p e s m args below meth c s₁ B hml hv
  obtain ⟨rfl, ⟨hsz, hP, hK, hD0, hTE⟩, hp⟩ := hv
  obtain ⟨k_x0, hp⟩ := hp
  have hx := B.exec
  have hb := B.bytes
  have hr := B.returns
  have hts := atoms_spec (ws := v_Y2_has) B.pre
  have t_ := t_Y2_has
  have mw : ∀ w ∈ e_Y2_has, w ∈ v_Y2_has := fun w h => List.mem_cons_of_mem _ (List.mem_append_left _ h)
  have hw := fun w (h : w ∈ e_Y2_has) => hts w (mw w h)
  have iX2 : ∀ w ∈ wsX20, w ∈ v_Y2_has := fun w h => List.mem_cons_of_mem _ (List.mem_append_right _ (List.mem_append_left _ h))
  have hown : s.vm.findClass RX2 = some m.cls := findClass_of_methodNamed B.named
  have hlocks := B.notSynchronized
  subst hsz
  have hD := hD0.self (sz := s.heap.size)
  generalize hAe : va_A (wsC K ad S) s.heap.size = A at hD ⊢
  have hA : ∀ q : Nat, s.heap.size ≤ q → A q := fun q h => by rw [← hAe]; exact Or.inr h
  have hS : va_S A s.heap s.heap [] := va_S.rf
  have hl : lv_has (lg_sl ([.ref (ad x0), .int a1]) ++ List.replicate (2 - (lg_sl ([.ref (ad x0), .int a1])).length) Slot.unset).toArray 2 [(0, .ref (ad x0)), (1, .int a1)] := by
    exact lv_entry ([.ref (ad x0), .int a1]) (n := 2) (Nat.le_of_ble_eq_true rfl)
  rw [lg_entry_eq]
  generalize (lg_sl ([.ref (ad x0), .int a1]) ++ List.replicate (2 - (lg_sl ([.ref (ad x0), .int a1])).length) Slot.unset).toArray = ls_ at hl ⊢
  refine wGen (fun Q hQ => ?_)
  obtain ⟨X, hX⟩ : ∃ X, f_Y2_has S x0 a1 = X := ⟨_, rfl⟩
  have B_Y2_has_26 : ∀ (x1 : Int32) (y0 : Int32) (H : Heap) (locs : List Loc) (ls_ : Array Slot), b_Y2_has_26 S x0 x1 y0 = X → q_Y2_has_26 S x0 x1 y0 → va_P G vwCl (wsC K ad S) H → va_D A (wsC K ad S) → va_S A s.heap H locs → lv_has ls_ 2 [(0, .ref (ad x0)), (1, .int x1)] → W p l e ({ frames := 0, cells := 0, slots := 0, locals := 0 } : Room) s m #[Value.ref (ad x0), Value.int a1] below meth c H locs 0 0 Q (F0 m 26 ls_ [.int y0]) := by
    intro x1 y0 H locs ls_ hE hp hP hD hS hl
    unfold b_Y2_has_26 at hE
    unfold q_Y2_has_26 at hp
    obtain ⟨hy2, hp⟩ := hp
    subst hQ
    exact W.zret (v := y0) (ty := .boolean) hx hb hr hy2 (fun t ht hW => ⟨⟨y0, S, rfl, (pair_i (hE.trans hX.symm)), by rw [ht]; exact hP, hD⟩, hS.F ht⟩) hS.2.2 dX2_has_26
  have B_Y2_has_25 : ∀ (x1 : Int32) (H : Heap) (locs : List Loc) (ls_ : Array Slot), b_Y2_has_25 S x0 x1 = X → q_Y2_has_25 S x0 x1 → va_P G vwCl (wsC K ad S) H → va_D A (wsC K ad S) → va_S A s.heap H locs → lv_has ls_ 2 [(0, .ref (ad x0)), (1, .int x1)] → W p l e ({ frames := 0, cells := 0, slots := 0, locals := 0 } : Room) s m #[Value.ref (ad x0), Value.int a1] below meth c H locs 0 0 Q (F0 m 25 ls_ []) := by
    intro x1 H locs ls_ hE hp hP hD hS hl
    unfold b_Y2_has_25 at hE
    unfold q_Y2_has_25 at hp
    refine lv_iconst (v := 0) hx hb dX2_has_25 (by decide) ?_
    exact B_Y2_has_26 x1 0 _ _ _ hE hp hP hD hS (lv_sub hl [0, 1] rfl)
  have B_M : ∀ (x1 : Int32) (H : Heap) (locs : List Loc) (ls_ : Array Slot), f_Y2_has S x0 x1 = X → p_Y2_has S x0 x1 → va_P G vwCl (wsC K ad S) H → va_D A (wsC K ad S) → va_S A s.heap H locs → lv_has ls_ 2 [(0, .ref (ad x0)), (1, .int x1)] → W p l e ({ frames := 0, cells := 0, slots := 0, locals := 0 } : Room) s m #[Value.ref (ad x0), Value.int a1] below meth c H locs 0 0 Q (F0 m 0 ls_ []) := by
    intro x1 H locs ls_ hE hp hP hD hS hl
    unfold f_Y2_has at hE
    unfold p_Y2_has at hp
    refine lv_iload_n hx hb dX2_has_0 rfl (lv_at hl 1 rfl) ?_
    refine lv_if_lt (tgt := 25) hx hb dX2_has_1 (by decide) (fun c1 => ?_) (fun c1 => ?_)
    · rw [if_pos c1] at hE hp
      exact B_Y2_has_25 x1 _ _ _ hE hp hP hD hS (lv_sub hl [0, 1] rfl)
    · rw [if_neg c1] at hE hp
      refine lv_iload_n hx hb dX2_has_4 rfl (lv_at hl 1 rfl) ?_
      refine lv_aload_n hx hb dX2_has_5 rfl (lv_at hl 0 rfl) ?_
      refine va_get (D := G) (ci := 1) (v := .int (giC S x0 0)) (C := RX2) (T := TX2) (N := 8) hx hb hts iX2 hown hK hP x0 (at_1 k_x0) rfl 0 (by decide) (hw (.fieldLink RX2 19 "MotionFloor$House" "seats" "I") (List.mem_of_getElem? (i := 0) rfl)) (fun _ h9 => h9) rfl dX2_has_6 ?_
      refine lv_icmp_ge (tgt := 25) hx hb dX2_has_9 (by decide) (fun c3 => ?_) (fun c3 => ?_)
      · rw [if_pos c3] at hE hp
        exact B_Y2_has_25 x1 _ _ _ hE hp hP hD hS (lv_sub hl [0, 1] rfl)
      · rw [if_neg c3] at hE hp
        refine lv_iload_n hx hb dX2_has_12 rfl (lv_at hl 1 rfl) ?_
        refine lv_aload_n hx hb dX2_has_13 rfl (lv_at hl 0 rfl) ?_
        refine va_get (D := G) (ci := 1) (v := va_re ad (grC S x0 1)) (C := RX2) (T := TX2) (N := 8) hx hb hts iX2 hown hK hP x0 (at_1 k_x0) rfl 1 (by decide) (hw (.fieldLink RX2 9 "MotionFloor$House" "there" "[Z") (List.mem_of_getElem? (i := 1) rfl)) (fun _ h9 => h9) rfl dX2_has_14 ?_
        obtain ⟨hy4, hp⟩ := hp
        refine cTop (r := (grC S x0 1)) hy4.1 ?_
        refine va_alen (v := (Int32.ofNat (lnC S ((grC S x0 1).getD 0)))) hx hb hK hP ((grC S x0 1).getD 0) 1 (at_21 hy4.2) rfl rfl dX2_has_17 ?_
        refine lv_icmp_ge (tgt := 25) hx hb dX2_has_18 (by decide) (fun c5 => ?_) (fun c5 => ?_)
        · rw [if_pos c5] at hE hp
          exact B_Y2_has_25 x1 _ _ _ hE hp hP hD hS (lv_sub hl [0, 1] rfl)
        · rw [if_neg c5] at hE hp
          refine lv_iconst (v := 1) hx hb dX2_has_21 (by decide) ?_
          refine lv_goto (tgt := 26) hx hb dX2_has_22 (by decide) ?_
          exact B_Y2_has_26 x1 1 _ _ _ hE hp hP hD hS (lv_sub hl [0, 1] rfl)
  exact B_M a1 _ _ _ hX hp hP hD hS hl
theorem dX8_againstAbsent_5 : decode cX8_againstAbsent 5 = .ok (.ifCond .ne 6, 3) := by decide +kernel
theorem dX8_againstAbsent_8 : decode cX8_againstAbsent 8 = .ok (.bipush 9, 2) := by decide +kernel
theorem dX8_againstAbsent_10 : decode cX8_againstAbsent 10 = .ok (.ireturn, 1) := by decide +kernel
theorem dX8_againstAbsent_11 : decode cX8_againstAbsent 11 = .ok (.aload_n 0, 1) := by decide +kernel
theorem dX8_againstAbsent_12 : decode cX8_againstAbsent 12 = .ok (.iload_n 1, 1) := by decide +kernel
theorem dX8_againstAbsent_13 : decode cX8_againstAbsent 13 = .ok (.invokevirtual 82, 3) := by decide +kernel
theorem dX8_againstAbsent_16 : decode cX8_againstAbsent 16 = .ok (.ifCond .eq 7, 3) := by decide +kernel
theorem dX8_againstAbsent_19 : decode cX8_againstAbsent 19 = .ok (.iconst 0, 1) := by decide +kernel
theorem dX8_againstAbsent_20 : decode cX8_againstAbsent 20 = .ok (.goto 5, 3) := by decide +kernel
theorem dX8_againstAbsent_23 : decode cX8_againstAbsent 23 = .ok (.bipush 8, 2) := by decide +kernel
theorem dX8_againstAbsent_25 : decode cX8_againstAbsent 25 = .ok (.ireturn, 1) := by decide +kernel
set_option maxRecDepth 100000 in
theorem zc146 : wZ (.selects RX2 yX2_isThere yX2_isThere) := ⟨wT2 (List.mem_of_getElem? (i := 64) (by decide +kernel)), Or.inl rfl⟩
set_option maxRecDepth 100000 in
theorem zc147 : wZ (.instanceMethod yX2_isThere) := ⟨wT2 (List.mem_of_getElem? (i := 63) (by decide +kernel)), Or.inl rfl⟩
set_option maxRecDepth 100000 in
theorem zc148 : wZ (.methodLink RX8 82 yX2_isThere) := ⟨wT2 (List.mem_of_getElem? (i := 62) (by decide +kernel)), Or.inl rfl⟩
set_option maxRecDepth 100000 in
theorem zc149 : wZ (.selects RX2 yX2_has yX2_has) := ⟨wT2 (List.mem_of_getElem? (i := 60) (by decide +kernel)), Or.inl rfl⟩
set_option maxRecDepth 100000 in
theorem zc150 : wZ (.instanceMethod yX2_has) := ⟨wT2 (List.mem_of_getElem? (i := 59) (by decide +kernel)), Or.inl rfl⟩
set_option maxRecDepth 100000 in
theorem zc151 : wZ (.methodLink RX8 114 yX2_has) := ⟨wT2 (List.mem_of_getElem? (i := 58) (by decide +kernel)), Or.inl rfl⟩
set_option maxRecDepth 100000 in
theorem zc152 : wZ (.code yX8_againstAbsent cX8_againstAbsent 2 (some .int)) := ⟨wT2 (List.mem_of_getElem? (i := 68) rfl), Or.inl rfl⟩
def b_Y8_againstAbsent_25 (S : Cst) (x0 : Nat) (x1 : Int32) (y0 : Int32) : Int32 := y0
def q_Y8_againstAbsent_25 (S : Cst) (x0 : Nat) (x1 : Int32) (y0 : Int32) : Prop := True
def f_Y8_againstAbsent (S : Cst) (x0 : Nat) (x1 : Int32) : Int32 := if (f_Y2_has S x0 x1) = 0 then (9 : Int32) else if (f_Y2_isThere S x0 x1) = 0 then (b_Y8_againstAbsent_25 S x0 x1 8) else (b_Y8_againstAbsent_25 S x0 x1 0)
def p_Y8_againstAbsent (S : Cst) (x0 : Nat) (x1 : Int32) : Prop := (p_Y2_has S x0 x1) ∧ (if (f_Y2_has S x0 x1) = 0 then True else (p_Y2_isThere S x0 x1) ∧ (if (f_Y2_isThere S x0 x1) = 0 then (q_Y8_againstAbsent_25 S x0 x1 8) else (q_Y8_againstAbsent_25 S x0 x1 0)))
def e_Y8_againstAbsent : List Cond := [.methodLink RX8 114 yX2_has, .instanceMethod yX2_has, .selects RX2 yX2_has yX2_has, .initialized RX2, .methodLink RX8 82 yX2_isThere, .instanceMethod yX2_isThere, .selects RX2 yX2_isThere yX2_isThere]
def v_Y8_againstAbsent : List Cond := .code yX8_againstAbsent cX8_againstAbsent 2 (some .int) :: (e_Y8_againstAbsent ++ (v_Y2_has ++ (v_Y2_isThere ++ [])))
theorem te_Y8_againstAbsent : GoodIn lw_tbl e_Y8_againstAbsent := wGc zc151 (wGc zc150 (wGc zc149 (wGc zc77 (wGc zc148 (wGc zc147 (wGc zc146 (wG0)))))))
theorem t_Y8_againstAbsent : GoodIn lw_tbl v_Y8_againstAbsent := wGc zc152 (wGa te_Y8_againstAbsent (wGa t_Y2_has (wGa t_Y2_isThere (wG0))))
set_option maxHeartbeats 4000000 in
set_option maxRecDepth 100000 in
theorem c_Y8_againstAbsent (l : Launch) (G : va_G) (K : Nat → ClassId) (ad : Nat → Nat) (S : Cst) (x0 : Nat) (a1 : Int32) (sz : Nat) : Met l yX8_againstAbsent v_Y8_againstAbsent ({ frames := 1, cells := 0, slots := 0, locals := 21 }) (va_Pc [.ref (ad x0), .int a1] (cSt G K ad sz S (iK S x0 1 ∧ p_Y8_againstAbsent S x0 a1))) (va_Qi (fun (r : Int32) (u : Cst) => (r, u) = (f_Y8_againstAbsent S x0 a1, S)) (cBt G K ad (va_A (wsC K ad S) sz)) (va_A (wsC K ad S) sz)) 0 0 (va_A (wsC K ad S) sz) := by
  refine Met.ofW (cc := cX8_againstAbsent) (maxL := 2) (ret := (some .int)) (by decide) rfl ?_
  intro p e s m args below meth c s₁ B hml hv
  obtain ⟨rfl, ⟨hsz, hP, hK, hD0, hTE⟩, hp⟩ := hv
  obtain ⟨k_x0, hp⟩ := hp
  have hx := B.exec
  have hb := B.bytes
  have hr := B.returns
  have hts := atoms_spec (ws := v_Y8_againstAbsent) B.pre
  have t_ := t_Y8_againstAbsent
  have mw : ∀ w ∈ e_Y8_againstAbsent, w ∈ v_Y8_againstAbsent := fun w h => List.mem_cons_of_mem _ (List.mem_append_left _ h)
  have hw := fun w (h : w ∈ e_Y8_againstAbsent) => hts w (mw w h)
  have j_Y2_has : ∀ w ∈ v_Y2_has, w ∈ v_Y8_againstAbsent := fun w h => List.mem_cons_of_mem _ (List.mem_append_right _ (List.mem_append_left _ h))
  have j_Y2_isThere : ∀ w ∈ v_Y2_isThere, w ∈ v_Y8_againstAbsent := fun w h => List.mem_cons_of_mem _ (List.mem_append_right _ (List.mem_append_right _ (List.mem_append_left _ h)))
  have hown : s.vm.findClass RX8 = some m.cls := findClass_of_methodNamed B.named
  have hlocks := B.notSynchronized
  subst hsz
  have hD := hD0.self (sz := s.heap.size)
  generalize hAe : va_A (wsC K ad S) s.heap.size = A at hD ⊢
  have hA : ∀ q : Nat, s.heap.size ≤ q → A q := fun q h => by rw [← hAe]; exact Or.inr h
  have hS : va_S A s.heap s.heap [] := va_S.rf
  have hl : lv_has (lg_sl ([.ref (ad x0), .int a1]) ++ List.replicate (2 - (lg_sl ([.ref (ad x0), .int a1])).length) Slot.unset).toArray 2 [(0, .ref (ad x0)), (1, .int a1)] := by
    exact lv_entry ([.ref (ad x0), .int a1]) (n := 2) (Nat.le_of_ble_eq_true rfl)
  rw [lg_entry_eq]
  generalize (lg_sl ([.ref (ad x0), .int a1]) ++ List.replicate (2 - (lg_sl ([.ref (ad x0), .int a1])).length) Slot.unset).toArray = ls_ at hl ⊢
  refine wGen (fun Q hQ => ?_)
  obtain ⟨X, hX⟩ : ∃ X, f_Y8_againstAbsent S x0 a1 = X := ⟨_, rfl⟩
  have B_Y8_againstAbsent_25 : ∀ (x1 : Int32) (y0 : Int32) (H : Heap) (locs : List Loc) (ls_ : Array Slot), b_Y8_againstAbsent_25 S x0 x1 y0 = X → q_Y8_againstAbsent_25 S x0 x1 y0 → va_P G vwCl (wsC K ad S) H → va_D A (wsC K ad S) → va_S A s.heap H locs → lv_has ls_ 2 [(0, .ref (ad x0)), (1, .int x1)] → W p l e ({ frames := 1, cells := 0, slots := 0, locals := 21 } : Room) s m #[Value.ref (ad x0), Value.int a1] below meth c H locs 0 0 Q (F0 m 25 ls_ [.int y0]) := by
    intro x1 y0 H locs ls_ hE hp hP hD hS hl
    unfold b_Y8_againstAbsent_25 at hE
    unfold q_Y8_againstAbsent_25 at hp
    subst hQ
    exact W.iret (v := y0) hx hb hr (fun t ht hW => ⟨⟨y0, S, rfl, (pair_i (hE.trans hX.symm)), by rw [ht]; exact hP, hD⟩, hS.F ht⟩) hS.2.2 dX8_againstAbsent_25
  have B_M : ∀ (x1 : Int32) (H : Heap) (locs : List Loc) (ls_ : Array Slot), f_Y8_againstAbsent S x0 x1 = X → p_Y8_againstAbsent S x0 x1 → va_P G vwCl (wsC K ad S) H → va_D A (wsC K ad S) → va_S A s.heap H locs → lv_has ls_ 2 [(0, .ref (ad x0)), (1, .int x1)] → W p l e ({ frames := 1, cells := 0, slots := 0, locals := 21 } : Room) s m #[Value.ref (ad x0), Value.int a1] below meth c H locs 0 0 Q (F0 m 0 ls_ []) := by
    intro x1 H locs ls_ hE hp hP hD hS hl
    unfold f_Y8_againstAbsent at hE
    unfold p_Y8_againstAbsent at hp
    refine lv_aload_n hx hb dX8_againstAbsent_0 rfl (lv_at hl 0 rfl) ?_
    refine lv_iload_n hx hb dX8_againstAbsent_1 rfl (lv_at hl 1 rfl) ?_
    obtain ⟨hy1, hp⟩ := hp
    refine cGoi (va_runV (As := [.int x1]) (rest := []) ⟨hx, hb, hml, hown, hts⟩ (c_Y2_has l G K ad S x0 x1 _) (cwV 1 hts (wGV t_ (mw (.methodLink RX8 114 yX2_has) (List.mem_of_getElem? (i := 0) rfl)) (mw (.instanceMethod yX2_has) (List.mem_of_getElem? (i := 1) rfl)) (mw (.selects RX2 yX2_has yX2_has) (List.mem_of_getElem? (i := 2) rfl)) (mw (.initialized RX2) (List.mem_of_getElem? (i := 3) rfl)) j_Y2_has) rfl rfl rfl (by decide +kernel) ⟨Nat.le_of_ble_eq_true rfl, Nat.le_of_ble_eq_true rfl⟩) (cPV hK hTE hP hD 1 rfl (at_1 k_x0) ⟨k_x0, hy1⟩) rfl rfl hl.1 rfl (lv_room (Nat.le_of_ble_eq_true rfl)) dX8_againstAbsent_2 ⟨Nat.le_of_ble_eq_true rfl, Nat.le_of_ble_eq_true rfl⟩) hP hD hS hA (fun r3 u2 H locs hv hP hD hS => ?_)
    have h1 := congrArg Prod.fst hv
    have h2 := (congrArg Prod.snd hv).symm
    dsimp only at h1 h2
    subst h1
    subst h2
    refine lv_if_ne (tgt := 11) hx hb dX8_againstAbsent_5 (by decide) (fun c4 => ?_) (fun c4 => ?_)
    · rw [if_neg c4] at hE hp
      refine lv_aload_n hx hb dX8_againstAbsent_11 rfl (lv_at hl 0 rfl) ?_
      refine lv_iload_n hx hb dX8_againstAbsent_12 rfl (lv_at hl 1 rfl) ?_
      obtain ⟨hy5, hp⟩ := hp
      refine cGoi (va_runV (As := [.int x1]) (rest := []) ⟨hx, hb, hml, hown, hts⟩ (c_Y2_isThere l G K ad S x0 x1 _) (cwV 1 hts (wGV t_ (mw (.methodLink RX8 82 yX2_isThere) (List.mem_of_getElem? (i := 4) rfl)) (mw (.instanceMethod yX2_isThere) (List.mem_of_getElem? (i := 5) rfl)) (mw (.selects RX2 yX2_isThere yX2_isThere) (List.mem_of_getElem? (i := 6) rfl)) (mw (.initialized RX2) (List.mem_of_getElem? (i := 3) rfl)) j_Y2_isThere) rfl rfl rfl (by decide +kernel) ⟨Nat.le_of_ble_eq_true rfl, Nat.le_of_ble_eq_true rfl⟩) (cPV hK hTE hP hD 1 rfl (at_1 k_x0) ⟨k_x0, hy5⟩) rfl rfl hl.1 rfl (lv_room (Nat.le_of_ble_eq_true rfl)) dX8_againstAbsent_13 ⟨Nat.le_of_ble_eq_true rfl, Nat.le_of_ble_eq_true rfl⟩) hP hD hS hA (fun r7 u6 H locs hv hP hD hS => ?_)
      have h1 := congrArg Prod.fst hv
      have h2 := (congrArg Prod.snd hv).symm
      dsimp only at h1 h2
      subst h1
      subst h2
      refine lv_if_eq (tgt := 23) hx hb dX8_againstAbsent_16 (by decide) (fun c8 => ?_) (fun c8 => ?_)
      · rw [if_pos c8] at hE hp
        refine lv_bipush (v := 8) hx hb dX8_againstAbsent_23 (by decide) ?_
        exact B_Y8_againstAbsent_25 x1 8 _ _ _ hE hp hP hD hS (lv_sub hl [0, 1] rfl)
      · rw [if_neg c8] at hE hp
        refine lv_iconst (v := 0) hx hb dX8_againstAbsent_19 (by decide) ?_
        refine lv_goto (tgt := 25) hx hb dX8_againstAbsent_20 (by decide) ?_
        exact B_Y8_againstAbsent_25 x1 0 _ _ _ hE hp hP hD hS (lv_sub hl [0, 1] rfl)
    · rw [if_pos c4] at hE hp
      refine lv_bipush (v := 9) hx hb dX8_againstAbsent_8 (by decide) ?_
      subst hQ
      exact W.iret (v := (9 : Int32)) hx hb hr (fun t ht hW => ⟨⟨(9 : Int32), S, rfl, (pair_i (hE.trans hX.symm)), by rw [ht]; exact hP, hD⟩, hS.F ht⟩) hS.2.2 dX8_againstAbsent_10
  exact B_M a1 _ _ _ hX hp hP hD hS hl
theorem dX8_againstSecond_5 : decode cX8_againstSecond 5 = .ok (.istore_n 3, 1) := by decide +kernel
theorem dX8_againstSecond_6 : decode cX8_againstSecond 6 = .ok (.iload_n 3, 1) := by decide +kernel
theorem dX8_againstSecond_7 : decode cX8_againstSecond 7 = .ok (.ifCond .eq 5, 3) := by decide +kernel
theorem dX8_againstSecond_10 : decode cX8_againstSecond 10 = .ok (.iload_n 3, 1) := by decide +kernel
theorem dX8_againstSecond_11 : decode cX8_againstSecond 11 = .ok (.ireturn, 1) := by decide +kernel
theorem dX8_againstSecond_12 : decode cX8_againstSecond 12 = .ok (.aload_n 1, 1) := by decide +kernel
theorem dX8_againstSecond_13 : decode cX8_againstSecond 13 = .ok (.getfield 138, 3) := by decide +kernel
theorem dX8_againstSecond_16 : decode cX8_againstSecond 16 = .ok (.iconst (-1), 1) := by decide +kernel
theorem dX8_againstSecond_17 : decode cX8_againstSecond 17 = .ok (.if_icmp .ne 12, 3) := by decide +kernel
theorem dX8_againstSecond_20 : decode cX8_againstSecond 20 = .ok (.aload_n 1, 1) := by decide +kernel
theorem dX8_againstSecond_21 : decode cX8_againstSecond 21 = .ok (.getfield 128, 3) := by decide +kernel
theorem dX8_againstSecond_24 : decode cX8_againstSecond 24 = .ok (.bipush 9, 2) := by decide +kernel
theorem dX8_againstSecond_26 : decode cX8_againstSecond 26 = .ok (.if_icmp .ne 5, 3) := by decide +kernel
theorem dX8_againstSecond_29 : decode cX8_againstSecond 29 = .ok (.iconst 3, 1) := by decide +kernel
theorem dX8_againstSecond_30 : decode cX8_againstSecond 30 = .ok (.ireturn, 1) := by decide +kernel
theorem dX8_againstSecond_31 : decode cX8_againstSecond 31 = .ok (.iload_n 2, 1) := by decide +kernel
theorem dX8_againstSecond_32 : decode cX8_againstSecond 32 = .ok (.aload_n 1, 1) := by decide +kernel
theorem dX8_againstSecond_33 : decode cX8_againstSecond 33 = .ok (.getfield 229, 3) := by decide +kernel
theorem dX8_againstSecond_36 : decode cX8_againstSecond 36 = .ok (.if_icmp .eq 11, 3) := by decide +kernel
theorem dX8_againstSecond_39 : decode cX8_againstSecond 39 = .ok (.iload_n 2, 1) := by decide +kernel
theorem dX8_againstSecond_40 : decode cX8_againstSecond 40 = .ok (.aload_n 0, 1) := by decide +kernel
theorem dX8_againstSecond_41 : decode cX8_againstSecond 41 = .ok (.getfield 79, 3) := by decide +kernel
theorem dX8_againstSecond_44 : decode cX8_againstSecond 44 = .ok (.if_icmp .ne 7, 3) := by decide +kernel
theorem dX8_againstSecond_47 : decode cX8_againstSecond 47 = .ok (.iconst 2, 1) := by decide +kernel
theorem dX8_againstSecond_48 : decode cX8_againstSecond 48 = .ok (.goto 4, 3) := by decide +kernel
theorem dX8_againstSecond_51 : decode cX8_againstSecond 51 = .ok (.iconst 0, 1) := by decide +kernel
theorem dX8_againstSecond_52 : decode cX8_againstSecond 52 = .ok (.ireturn, 1) := by decide +kernel
set_option maxRecDepth 100000 in
theorem zc153 : wZ (.fieldLink RX8 79 "MotionFloor$House" "chair" "I") := ⟨wT1 (List.mem_of_getElem? (i := 43) (by decide +kernel)), Or.inl rfl⟩
set_option maxRecDepth 100000 in
theorem zc154 : wZ (.fieldLink RX8 229 "MotionFloor$Motion" "mover" "I") := ⟨wT3 (List.mem_of_getElem? (i := 23) (by decide +kernel)), Or.inl rfl⟩
set_option maxRecDepth 100000 in
theorem zc155 : wZ (.fieldLink RX8 128 "MotionFloor$Motion" "kind" "I") := ⟨wT3 (List.mem_of_getElem? (i := 19) (by decide +kernel)), Or.inl rfl⟩
set_option maxRecDepth 100000 in
theorem zc156 : wZ (.fieldLink RX8 138 "MotionFloor$Motion" "seconder" "I") := ⟨wT3 (List.mem_of_getElem? (i := 26) (by decide +kernel)), Or.inl rfl⟩
set_option maxRecDepth 100000 in
theorem zc157 : wZ (.initialized RX8) := ⟨wT1 (List.mem_of_getElem? (i := 12) (by decide +kernel)), Or.inl rfl⟩
set_option maxRecDepth 100000 in
theorem zc158 : wZ (.static yX8_againstAbsent) := ⟨wT2 (List.mem_of_getElem? (i := 67) (by decide +kernel)), Or.inl rfl⟩
set_option maxRecDepth 100000 in
theorem zc159 : wZ (.methodLink RX8 42 yX8_againstAbsent) := ⟨wT2 (List.mem_of_getElem? (i := 66) (by decide +kernel)), Or.inl rfl⟩
set_option maxRecDepth 100000 in
theorem zc160 : wZ (.code yX8_againstSecond cX8_againstSecond 4 (some .int)) := ⟨wT2 (List.mem_of_getElem? (i := 177) rfl), Or.inl rfl⟩
def b_Y8_againstSecond_29 (S : Cst) (x0 : Nat) (x1 : Option Nat) (x2 : Int32) (x3 : Int32) : Int32 := (3 : Int32)
def q_Y8_againstSecond_29 (S : Cst) (x0 : Nat) (x1 : Option Nat) (x2 : Int32) (x3 : Int32) : Prop := True
def b_Y8_againstSecond_52 (S : Cst) (x0 : Nat) (x1 : Option Nat) (x2 : Int32) (x3 : Int32) (y0 : Int32) : Int32 := y0
def q_Y8_againstSecond_52 (S : Cst) (x0 : Nat) (x1 : Option Nat) (x2 : Int32) (x3 : Int32) (y0 : Int32) : Prop := True
def b_Y8_againstSecond_47 (S : Cst) (x0 : Nat) (x1 : Option Nat) (x2 : Int32) (x3 : Int32) : Int32 := (b_Y8_againstSecond_52 S x0 x1 x2 x3 2)
def q_Y8_againstSecond_47 (S : Cst) (x0 : Nat) (x1 : Option Nat) (x2 : Int32) (x3 : Int32) : Prop := (q_Y8_againstSecond_52 S x0 x1 x2 x3 2)
def f_Y8_againstSecond (S : Cst) (x0 : Nat) (x1 : Option Nat) (x2 : Int32) : Int32 := if (f_Y8_againstAbsent S x0 x2) = 0 then if (giC S (x1.getD 0) 4) = (-1) then if (giC S (x1.getD 0) 2) = 9 then (b_Y8_againstSecond_29 S x0 x1 x2 (f_Y8_againstAbsent S x0 x2)) else if x2 = (giC S (x1.getD 0) 3) then (b_Y8_againstSecond_47 S x0 x1 x2 (f_Y8_againstAbsent S x0 x2)) else if x2 = (giC S x0 3) then (b_Y8_againstSecond_47 S x0 x1 x2 (f_Y8_againstAbsent S x0 x2)) else (b_Y8_againstSecond_52 S x0 x1 x2 (f_Y8_againstAbsent S x0 x2) 0) else (b_Y8_againstSecond_29 S x0 x1 x2 (f_Y8_againstAbsent S x0 x2)) else (f_Y8_againstAbsent S x0 x2)
def p_Y8_againstSecond (S : Cst) (x0 : Nat) (x1 : Option Nat) (x2 : Int32) : Prop := (p_Y8_againstAbsent S x0 x2) ∧ (if (f_Y8_againstAbsent S x0 x2) = 0 then (iR S x1 3) ∧ (if (giC S (x1.getD 0) 4) = (-1) then (iR S x1 3) ∧ (if (giC S (x1.getD 0) 2) = 9 then (q_Y8_againstSecond_29 S x0 x1 x2 (f_Y8_againstAbsent S x0 x2)) else (iR S x1 3) ∧ (if x2 = (giC S (x1.getD 0) 3) then (q_Y8_againstSecond_47 S x0 x1 x2 (f_Y8_againstAbsent S x0 x2)) else (if x2 = (giC S x0 3) then (q_Y8_againstSecond_47 S x0 x1 x2 (f_Y8_againstAbsent S x0 x2)) else (q_Y8_againstSecond_52 S x0 x1 x2 (f_Y8_againstAbsent S x0 x2) 0)))) else (q_Y8_againstSecond_29 S x0 x1 x2 (f_Y8_againstAbsent S x0 x2))) else True)
def e_Y8_againstSecond : List Cond := [.methodLink RX8 42 yX8_againstAbsent, .static yX8_againstAbsent, .initialized RX8, .fieldLink RX8 138 "MotionFloor$Motion" "seconder" "I", .fieldLink RX8 128 "MotionFloor$Motion" "kind" "I", .fieldLink RX8 229 "MotionFloor$Motion" "mover" "I", .fieldLink RX8 79 "MotionFloor$House" "chair" "I"]
def v_Y8_againstSecond : List Cond := .code yX8_againstSecond cX8_againstSecond 4 (some .int) :: (e_Y8_againstSecond ++ (wsX40 ++ (wsX20 ++ (v_Y8_againstAbsent ++ []))))
theorem te_Y8_againstSecond : GoodIn lw_tbl e_Y8_againstSecond := wGc zc159 (wGc zc158 (wGc zc157 (wGc zc156 (wGc zc155 (wGc zc154 (wGc zc153 (wG0)))))))
theorem t_Y8_againstSecond : GoodIn lw_tbl v_Y8_againstSecond := wGc zc160 (wGa te_Y8_againstSecond (wGa zcX4 (wGa zcX2 (wGa t_Y8_againstAbsent (wG0)))))
set_option maxHeartbeats 4000000 in
set_option maxRecDepth 100000 in
theorem c_Y8_againstSecond (l : Launch) (G : va_G) (K : Nat → ClassId) (ad : Nat → Nat) (S : Cst) (x0 : Nat) (a1 : Option Nat) (a2 : Int32) (sz : Nat) : Met l yX8_againstSecond v_Y8_againstSecond ({ frames := 2, cells := 0, slots := 0, locals := 42 }) (va_Pc [.ref (ad x0), va_re ad a1, .int a2] (cSt G K ad sz S (iK S x0 1 ∧ p_Y8_againstSecond S x0 a1 a2))) (va_Qi (fun (r : Int32) (u : Cst) => (r, u) = (f_Y8_againstSecond S x0 a1 a2, S)) (cBt G K ad (va_A (wsC K ad S) sz)) (va_A (wsC K ad S) sz)) 0 0 (va_A (wsC K ad S) sz) := by
  refine Met.ofW (cc := cX8_againstSecond) (maxL := 4) (ret := (some .int)) (by decide) rfl ?_
  intro p e s m args below meth c s₁ B hml hv
  obtain ⟨rfl, ⟨hsz, hP, hK, hD0, hTE⟩, hp⟩ := hv
  obtain ⟨k_x0, hp⟩ := hp
  have hx := B.exec
  have hb := B.bytes
  have hr := B.returns
  have hts := atoms_spec (ws := v_Y8_againstSecond) B.pre
  have t_ := t_Y8_againstSecond
  have mw : ∀ w ∈ e_Y8_againstSecond, w ∈ v_Y8_againstSecond := fun w h => List.mem_cons_of_mem _ (List.mem_append_left _ h)
  have hw := fun w (h : w ∈ e_Y8_againstSecond) => hts w (mw w h)
  have iX4 : ∀ w ∈ wsX40, w ∈ v_Y8_againstSecond := fun w h => List.mem_cons_of_mem _ (List.mem_append_right _ (List.mem_append_left _ h))
  have iX2 : ∀ w ∈ wsX20, w ∈ v_Y8_againstSecond := fun w h => List.mem_cons_of_mem _ (List.mem_append_right _ (List.mem_append_right _ (List.mem_append_left _ h)))
  have j_Y8_againstAbsent : ∀ w ∈ v_Y8_againstAbsent, w ∈ v_Y8_againstSecond := fun w h => List.mem_cons_of_mem _ (List.mem_append_right _ (List.mem_append_right _ (List.mem_append_right _ (List.mem_append_left _ h))))
  have hown : s.vm.findClass RX8 = some m.cls := findClass_of_methodNamed B.named
  have hlocks := B.notSynchronized
  subst hsz
  have hD := hD0.self (sz := s.heap.size)
  generalize hAe : va_A (wsC K ad S) s.heap.size = A at hD ⊢
  have hA : ∀ q : Nat, s.heap.size ≤ q → A q := fun q h => by rw [← hAe]; exact Or.inr h
  have hS : va_S A s.heap s.heap [] := va_S.rf
  have hl : lv_has (lg_sl ([.ref (ad x0), va_re ad a1, .int a2]) ++ List.replicate (4 - (lg_sl ([.ref (ad x0), va_re ad a1, .int a2])).length) Slot.unset).toArray 4 [(0, .ref (ad x0)), (1, va_re ad a1), (2, .int a2)] := by
    cases a1 <;> exact lv_entry _ (n := 4) (Nat.le_of_ble_eq_true rfl)
  rw [lg_entry_eq]
  generalize (lg_sl ([.ref (ad x0), va_re ad a1, .int a2]) ++ List.replicate (4 - (lg_sl ([.ref (ad x0), va_re ad a1, .int a2])).length) Slot.unset).toArray = ls_ at hl ⊢
  refine wGen (fun Q hQ => ?_)
  obtain ⟨X, hX⟩ : ∃ X, f_Y8_againstSecond S x0 a1 a2 = X := ⟨_, rfl⟩
  have B_Y8_againstSecond_29 : ∀ (x1 : Option Nat) (x2 : Int32) (x3 : Int32) (H : Heap) (locs : List Loc) (ls_ : Array Slot), b_Y8_againstSecond_29 S x0 x1 x2 x3 = X → q_Y8_againstSecond_29 S x0 x1 x2 x3 → va_P G vwCl (wsC K ad S) H → va_D A (wsC K ad S) → va_S A s.heap H locs → lv_has ls_ 4 [(0, .ref (ad x0)), (1, va_re ad x1), (2, .int x2), (3, .int x3)] → W p l e ({ frames := 2, cells := 0, slots := 0, locals := 42 } : Room) s m #[Value.ref (ad x0), va_re ad a1, Value.int a2] below meth c H locs 0 0 Q (F0 m 29 ls_ []) := by
    intro x1 x2 x3 H locs ls_ hE hp hP hD hS hl
    unfold b_Y8_againstSecond_29 at hE
    unfold q_Y8_againstSecond_29 at hp
    refine lv_iconst (v := 3) hx hb dX8_againstSecond_29 (by decide) ?_
    subst hQ
    exact W.iret (v := (3 : Int32)) hx hb hr (fun t ht hW => ⟨⟨(3 : Int32), S, rfl, (pair_i (hE.trans hX.symm)), by rw [ht]; exact hP, hD⟩, hS.F ht⟩) hS.2.2 dX8_againstSecond_30
  have B_Y8_againstSecond_52 : ∀ (x1 : Option Nat) (x2 : Int32) (x3 : Int32) (y0 : Int32) (H : Heap) (locs : List Loc) (ls_ : Array Slot), b_Y8_againstSecond_52 S x0 x1 x2 x3 y0 = X → q_Y8_againstSecond_52 S x0 x1 x2 x3 y0 → va_P G vwCl (wsC K ad S) H → va_D A (wsC K ad S) → va_S A s.heap H locs → lv_has ls_ 4 [(0, .ref (ad x0)), (1, va_re ad x1), (2, .int x2), (3, .int x3)] → W p l e ({ frames := 2, cells := 0, slots := 0, locals := 42 } : Room) s m #[Value.ref (ad x0), va_re ad a1, Value.int a2] below meth c H locs 0 0 Q (F0 m 52 ls_ [.int y0]) := by
    intro x1 x2 x3 y0 H locs ls_ hE hp hP hD hS hl
    unfold b_Y8_againstSecond_52 at hE
    unfold q_Y8_againstSecond_52 at hp
    subst hQ
    exact W.iret (v := y0) hx hb hr (fun t ht hW => ⟨⟨y0, S, rfl, (pair_i (hE.trans hX.symm)), by rw [ht]; exact hP, hD⟩, hS.F ht⟩) hS.2.2 dX8_againstSecond_52
  have B_Y8_againstSecond_47 : ∀ (x1 : Option Nat) (x2 : Int32) (x3 : Int32) (H : Heap) (locs : List Loc) (ls_ : Array Slot), b_Y8_againstSecond_47 S x0 x1 x2 x3 = X → q_Y8_againstSecond_47 S x0 x1 x2 x3 → va_P G vwCl (wsC K ad S) H → va_D A (wsC K ad S) → va_S A s.heap H locs → lv_has ls_ 4 [(0, .ref (ad x0)), (1, va_re ad x1), (2, .int x2), (3, .int x3)] → W p l e ({ frames := 2, cells := 0, slots := 0, locals := 42 } : Room) s m #[Value.ref (ad x0), va_re ad a1, Value.int a2] below meth c H locs 0 0 Q (F0 m 47 ls_ []) := by
    intro x1 x2 x3 H locs ls_ hE hp hP hD hS hl
    unfold b_Y8_againstSecond_47 at hE
    unfold q_Y8_againstSecond_47 at hp
    refine lv_iconst (v := 2) hx hb dX8_againstSecond_47 (by decide) ?_
    refine lv_goto (tgt := 52) hx hb dX8_againstSecond_48 (by decide) ?_
    exact B_Y8_againstSecond_52 x1 x2 x3 2 _ _ _ hE hp hP hD hS (lv_sub hl [0, 1, 2, 3] rfl)
  have B_M : ∀ (x1 : Option Nat) (x2 : Int32) (H : Heap) (locs : List Loc) (ls_ : Array Slot), f_Y8_againstSecond S x0 x1 x2 = X → p_Y8_againstSecond S x0 x1 x2 → va_P G vwCl (wsC K ad S) H → va_D A (wsC K ad S) → va_S A s.heap H locs → lv_has ls_ 4 [(0, .ref (ad x0)), (1, va_re ad x1), (2, .int x2)] → W p l e ({ frames := 2, cells := 0, slots := 0, locals := 42 } : Room) s m #[Value.ref (ad x0), va_re ad a1, Value.int a2] below meth c H locs 0 0 Q (F0 m 0 ls_ []) := by
    intro x1 x2 H locs ls_ hE hp hP hD hS hl
    unfold f_Y8_againstSecond at hE
    unfold p_Y8_againstSecond at hp
    refine lv_aload_n hx hb dX8_againstSecond_0 rfl (lv_at hl 0 rfl) ?_
    refine lv_iload_n hx hb dX8_againstSecond_1 rfl (lv_at hl 2 rfl) ?_
    obtain ⟨hy1, hp⟩ := hp
    refine cGoi (va_runS (As := [.ref (ad x0), .int x2]) (rest := []) ⟨hx, hb, hml, hown, hts⟩ (c_Y8_againstAbsent l G K ad S x0 x2 _) (va_cwS 2 hts (wGS t_ (mw (.methodLink RX8 42 yX8_againstAbsent) (List.mem_of_getElem? (i := 0) rfl)) (mw (.static yX8_againstAbsent) (List.mem_of_getElem? (i := 1) rfl)) (mw (.initialized RX8) (List.mem_of_getElem? (i := 2) rfl)) j_Y8_againstAbsent) rfl rfl rfl (by decide +kernel) ⟨Nat.le_of_ble_eq_true rfl, Nat.le_of_ble_eq_true rfl⟩) (cPS hK hTE hP hD ⟨k_x0, hy1⟩) rfl rfl hl.1 rfl (lv_room (Nat.le_of_ble_eq_true rfl)) dX8_againstSecond_2 ⟨Nat.le_of_ble_eq_true rfl, Nat.le_of_ble_eq_true rfl⟩) hP hD hS hA (fun r3 u2 H locs hv hP hD hS => ?_)
    have h1 := congrArg Prod.fst hv
    have h2 := (congrArg Prod.snd hv).symm
    dsimp only at h1 h2
    subst h1
    subst h2
    refine lv_istore_n (i := 3) (lv' := [(3, .int (f_Y8_againstAbsent S x0 x2)), (0, .ref (ad x0)), (1, va_re ad x1), (2, .int x2)]) hx hb dX8_againstSecond_5 rfl hl (by decide) rfl (fun ls_ hl => ?_)
    refine lv_iload_n hx hb dX8_againstSecond_6 rfl (lv_at hl 0 rfl) ?_
    refine lv_if_eq (tgt := 12) hx hb dX8_againstSecond_7 (by decide) (fun c4 => ?_) (fun c4 => ?_)
    · rw [if_pos c4] at hE hp
      refine cAload_n (ad := ad) (r := x1) hx hb dX8_againstSecond_12 rfl (lv_at hl 2 rfl) ?_
      obtain ⟨hy5, hp⟩ := hp
      refine cTop (r := x1) hy5.1 ?_
      refine va_get (D := G) (ci := 3) (v := .int (giC S (x1.getD 0) 4)) (C := RX4) (T := TX4) (N := 16) hx hb hts iX4 hown hK hP (x1.getD 0) (at_3 hy5.2) rfl 4 (by decide) (hw (.fieldLink RX8 138 "MotionFloor$Motion" "seconder" "I") (List.mem_of_getElem? (i := 3) rfl)) (fun _ h9 => h9) rfl dX8_againstSecond_13 ?_
      refine lv_iconst (v := (-1)) hx hb dX8_againstSecond_16 (by decide) ?_
      refine lv_icmp_ne (tgt := 29) hx hb dX8_againstSecond_17 (by decide) (fun c6 => ?_) (fun c6 => ?_)
      · rw [if_neg c6] at hE hp
        exact B_Y8_againstSecond_29 x1 x2 (f_Y8_againstAbsent S x0 x2) _ _ _ hE hp hP hD hS (lv_sub hl [1, 2, 3, 0] rfl)
      · rw [if_pos c6] at hE hp
        refine cAload_n (ad := ad) (r := x1) hx hb dX8_againstSecond_20 rfl (lv_at hl 2 rfl) ?_
        obtain ⟨hy7, hp⟩ := hp
        refine cTop (r := x1) hy7.1 ?_
        refine va_get (D := G) (ci := 3) (v := .int (giC S (x1.getD 0) 2)) (C := RX4) (T := TX4) (N := 16) hx hb hts iX4 hown hK hP (x1.getD 0) (at_3 hy7.2) rfl 2 (by decide) (hw (.fieldLink RX8 128 "MotionFloor$Motion" "kind" "I") (List.mem_of_getElem? (i := 4) rfl)) (fun _ h9 => h9) rfl dX8_againstSecond_21 ?_
        refine lv_bipush (v := 9) hx hb dX8_againstSecond_24 (by decide) ?_
        refine lv_icmp_ne (tgt := 31) hx hb dX8_againstSecond_26 (by decide) (fun c8 => ?_) (fun c8 => ?_)
        · rw [if_neg c8] at hE hp
          refine lv_iload_n hx hb dX8_againstSecond_31 rfl (lv_at hl 3 rfl) ?_
          refine cAload_n (ad := ad) (r := x1) hx hb dX8_againstSecond_32 rfl (lv_at hl 2 rfl) ?_
          obtain ⟨hy9, hp⟩ := hp
          refine cTop (r := x1) hy9.1 ?_
          refine va_get (D := G) (ci := 3) (v := .int (giC S (x1.getD 0) 3)) (C := RX4) (T := TX4) (N := 16) hx hb hts iX4 hown hK hP (x1.getD 0) (at_3 hy9.2) rfl 3 (by decide) (hw (.fieldLink RX8 229 "MotionFloor$Motion" "mover" "I") (List.mem_of_getElem? (i := 5) rfl)) (fun _ h9 => h9) rfl dX8_againstSecond_33 ?_
          refine lv_icmp_eq (tgt := 47) hx hb dX8_againstSecond_36 (by decide) (fun c10 => ?_) (fun c10 => ?_)
          · rw [if_pos c10] at hE hp
            exact B_Y8_againstSecond_47 x1 x2 (f_Y8_againstAbsent S x0 x2) _ _ _ hE hp hP hD hS (lv_sub hl [1, 2, 3, 0] rfl)
          · rw [if_neg c10] at hE hp
            refine lv_iload_n hx hb dX8_againstSecond_39 rfl (lv_at hl 3 rfl) ?_
            refine lv_aload_n hx hb dX8_againstSecond_40 rfl (lv_at hl 1 rfl) ?_
            refine va_get (D := G) (ci := 1) (v := .int (giC S x0 3)) (C := RX2) (T := TX2) (N := 8) hx hb hts iX2 hown hK hP x0 (at_1 k_x0) rfl 3 (by decide) (hw (.fieldLink RX8 79 "MotionFloor$House" "chair" "I") (List.mem_of_getElem? (i := 6) rfl)) (fun _ h9 => h9) rfl dX8_againstSecond_41 ?_
            refine lv_icmp_ne (tgt := 51) hx hb dX8_againstSecond_44 (by decide) (fun c11 => ?_) (fun c11 => ?_)
            · rw [if_neg c11] at hE hp
              refine lv_iconst (v := 0) hx hb dX8_againstSecond_51 (by decide) ?_
              exact B_Y8_againstSecond_52 x1 x2 (f_Y8_againstAbsent S x0 x2) 0 _ _ _ hE hp hP hD hS (lv_sub hl [1, 2, 3, 0] rfl)
            · rw [if_pos c11] at hE hp
              exact B_Y8_againstSecond_47 x1 x2 (f_Y8_againstAbsent S x0 x2) _ _ _ hE hp hP hD hS (lv_sub hl [1, 2, 3, 0] rfl)
        · rw [if_pos c8] at hE hp
          exact B_Y8_againstSecond_29 x1 x2 (f_Y8_againstAbsent S x0 x2) _ _ _ hE hp hP hD hS (lv_sub hl [1, 2, 3, 0] rfl)
    · rw [if_neg c4] at hE hp
      refine lv_iload_n hx hb dX8_againstSecond_10 rfl (lv_at hl 0 rfl) ?_
      subst hQ
      exact W.iret (v := (f_Y8_againstAbsent S x0 x2)) hx hb hr (fun t ht hW => ⟨⟨(f_Y8_againstAbsent S x0 x2), S, rfl, (pair_i (hE.trans hX.symm)), by rw [ht]; exact hP, hD⟩, hS.F ht⟩) hS.2.2 dX8_againstSecond_11
  exact B_M a1 a2 _ _ _ hX hp hP hD hS hl
theorem dX8_againstOnMotion_134 : decode cX8_againstOnMotion 134 = .ok (.ireturn, 1) := by decide +kernel
theorem dX8_againstOnMotion_135 : decode cX8_againstOnMotion 135 = .ok (.aload_n 0, 1) := by decide +kernel
theorem dX8_againstOnMotion_136 : decode cX8_againstOnMotion 136 = .ok (.getfield 34, 3) := by decide +kernel
theorem dX8_againstOnMotion_139 : decode cX8_againstOnMotion 139 = .ok (.aload 5, 2) := by decide +kernel
theorem dX8_againstOnMotion_141 : decode cX8_againstOnMotion 141 = .ok (.iload_n 2, 1) := by decide +kernel
theorem dX8_againstOnMotion_142 : decode cX8_againstOnMotion 142 = .ok (.iload_n 3, 1) := by decide +kernel
theorem dX8_againstOnMotion_143 : decode cX8_againstOnMotion 143 = .ok (.invokestatic 100, 3) := by decide +kernel
theorem dX8_againstVote_0 : decode cX8_againstVote 0 = .ok (.aload_n 0, 1) := by decide +kernel
theorem dX8_againstVote_1 : decode cX8_againstVote 1 = .ok (.iload_n 2, 1) := by decide +kernel
theorem dX8_againstVote_2 : decode cX8_againstVote 2 = .ok (.invokevirtual 114, 3) := by decide +kernel
theorem dX8_againstVote_5 : decode cX8_againstVote 5 = .ok (.ifCond .eq 12, 3) := by decide +kernel
theorem dX8_againstVote_8 : decode cX8_againstVote 8 = .ok (.iload_n 3, 1) := by decide +kernel
theorem dX8_againstVote_9 : decode cX8_againstVote 9 = .ok (.ifCond .lt 8, 3) := by decide +kernel
theorem dX8_againstVote_12 : decode cX8_againstVote 12 = .ok (.iload_n 3, 1) := by decide +kernel
theorem dX8_againstVote_13 : decode cX8_againstVote 13 = .ok (.iconst 2, 1) := by decide +kernel
theorem dX8_againstVote_14 : decode cX8_againstVote 14 = .ok (.if_icmp .le 6, 3) := by decide +kernel
theorem dX8_againstVote_17 : decode cX8_againstVote 17 = .ok (.bipush 9, 2) := by decide +kernel
theorem dX8_againstVote_19 : decode cX8_againstVote 19 = .ok (.ireturn, 1) := by decide +kernel
theorem dX8_againstVote_20 : decode cX8_againstVote 20 = .ok (.aload_n 0, 1) := by decide +kernel
theorem dX8_againstVote_21 : decode cX8_againstVote 21 = .ok (.iload_n 2, 1) := by decide +kernel
theorem dX8_againstVote_22 : decode cX8_againstVote 22 = .ok (.invokevirtual 82, 3) := by decide +kernel
theorem dX8_againstVote_25 : decode cX8_againstVote 25 = .ok (.ifCond .ne 6, 3) := by decide +kernel
theorem dX8_againstVote_28 : decode cX8_againstVote 28 = .ok (.bipush 8, 2) := by decide +kernel
theorem dX8_againstVote_30 : decode cX8_againstVote 30 = .ok (.ireturn, 1) := by decide +kernel
theorem dX8_againstVote_31 : decode cX8_againstVote 31 = .ok (.aload_n 1, 1) := by decide +kernel
theorem dX8_againstVote_32 : decode cX8_againstVote 32 = .ok (.getfield 138, 3) := by decide +kernel
theorem dX8_againstVote_35 : decode cX8_againstVote 35 = .ok (.iconst (-1), 1) := by decide +kernel
theorem dX8_againstVote_36 : decode cX8_againstVote 36 = .ok (.if_icmp .ne 7, 3) := by decide +kernel
theorem dX8_againstVote_39 : decode cX8_againstVote 39 = .ok (.iconst 3, 1) := by decide +kernel
theorem dX8_againstVote_40 : decode cX8_againstVote 40 = .ok (.goto 4, 3) := by decide +kernel
theorem dX8_againstVote_43 : decode cX8_againstVote 43 = .ok (.iconst 0, 1) := by decide +kernel
theorem dX8_againstVote_44 : decode cX8_againstVote 44 = .ok (.ireturn, 1) := by decide +kernel
set_option maxRecDepth 100000 in
theorem zc161 : wZ (.code yX8_againstVote cX8_againstVote 4 (some .int)) := ⟨wT2 (List.mem_of_getElem? (i := 180) rfl), Or.inl rfl⟩
def b_Y8_againstVote_17 (S : Cst) (x0 : Nat) (x1 : Option Nat) (x2 : Int32) (x3 : Int32) : Int32 := (9 : Int32)
def q_Y8_againstVote_17 (S : Cst) (x0 : Nat) (x1 : Option Nat) (x2 : Int32) (x3 : Int32) : Prop := True
def b_Y8_againstVote_44 (S : Cst) (x0 : Nat) (x1 : Option Nat) (x2 : Int32) (x3 : Int32) (y0 : Int32) : Int32 := y0
def q_Y8_againstVote_44 (S : Cst) (x0 : Nat) (x1 : Option Nat) (x2 : Int32) (x3 : Int32) (y0 : Int32) : Prop := True
def f_Y8_againstVote (S : Cst) (x0 : Nat) (x1 : Option Nat) (x2 : Int32) (x3 : Int32) : Int32 := if (f_Y2_has S x0 x2) = 0 then (b_Y8_againstVote_17 S x0 x1 x2 x3) else if x3 < 0 then (b_Y8_againstVote_17 S x0 x1 x2 x3) else if x3 ≤ 2 then if (f_Y2_isThere S x0 x2) = 0 then (8 : Int32) else if (giC S (x1.getD 0) 4) = (-1) then (b_Y8_againstVote_44 S x0 x1 x2 x3 3) else (b_Y8_againstVote_44 S x0 x1 x2 x3 0) else (b_Y8_againstVote_17 S x0 x1 x2 x3)
def p_Y8_againstVote (S : Cst) (x0 : Nat) (x1 : Option Nat) (x2 : Int32) (x3 : Int32) : Prop := (p_Y2_has S x0 x2) ∧ (if (f_Y2_has S x0 x2) = 0 then (q_Y8_againstVote_17 S x0 x1 x2 x3) else (if x3 < 0 then (q_Y8_againstVote_17 S x0 x1 x2 x3) else (if x3 ≤ 2 then (p_Y2_isThere S x0 x2) ∧ (if (f_Y2_isThere S x0 x2) = 0 then True else (iR S x1 3) ∧ (if (giC S (x1.getD 0) 4) = (-1) then (q_Y8_againstVote_44 S x0 x1 x2 x3 3) else (q_Y8_againstVote_44 S x0 x1 x2 x3 0))) else (q_Y8_againstVote_17 S x0 x1 x2 x3))))
def e_Y8_againstVote : List Cond := [.methodLink RX8 114 yX2_has, .instanceMethod yX2_has, .selects RX2 yX2_has yX2_has, .initialized RX2, .methodLink RX8 82 yX2_isThere, .instanceMethod yX2_isThere, .selects RX2 yX2_isThere yX2_isThere, .fieldLink RX8 138 "MotionFloor$Motion" "seconder" "I"]
def v_Y8_againstVote : List Cond := .code yX8_againstVote cX8_againstVote 4 (some .int) :: (e_Y8_againstVote ++ (wsX40 ++ (v_Y2_has ++ (v_Y2_isThere ++ []))))
theorem te_Y8_againstVote : GoodIn lw_tbl e_Y8_againstVote := wGc zc151 (wGc zc150 (wGc zc149 (wGc zc77 (wGc zc148 (wGc zc147 (wGc zc146 (wGc zc156 (wG0))))))))
theorem t_Y8_againstVote : GoodIn lw_tbl v_Y8_againstVote := wGc zc161 (wGa te_Y8_againstVote (wGa zcX4 (wGa t_Y2_has (wGa t_Y2_isThere (wG0)))))
set_option maxHeartbeats 4000000 in
set_option maxRecDepth 100000 in
theorem c_Y8_againstVote (l : Launch) (G : va_G) (K : Nat → ClassId) (ad : Nat → Nat) (S : Cst) (x0 : Nat) (a1 : Option Nat) (a2 : Int32) (a3 : Int32) (sz : Nat) : Met l yX8_againstVote v_Y8_againstVote ({ frames := 1, cells := 0, slots := 0, locals := 21 }) (va_Pc [.ref (ad x0), va_re ad a1, .int a2, .int a3] (cSt G K ad sz S (iK S x0 1 ∧ p_Y8_againstVote S x0 a1 a2 a3))) (va_Qi (fun (r : Int32) (u : Cst) => (r, u) = (f_Y8_againstVote S x0 a1 a2 a3, S)) (cBt G K ad (va_A (wsC K ad S) sz)) (va_A (wsC K ad S) sz)) 0 0 (va_A (wsC K ad S) sz) := by
  refine Met.ofW (cc := cX8_againstVote) (maxL := 4) (ret := (some .int)) (by decide) rfl ?_
  intro p e s m args below meth c s₁ B hml hv
  obtain ⟨rfl, ⟨hsz, hP, hK, hD0, hTE⟩, hp⟩ := hv
  obtain ⟨k_x0, hp⟩ := hp
  have hx := B.exec
  have hb := B.bytes
  have hr := B.returns
  have hts := atoms_spec (ws := v_Y8_againstVote) B.pre
  have t_ := t_Y8_againstVote
  have mw : ∀ w ∈ e_Y8_againstVote, w ∈ v_Y8_againstVote := fun w h => List.mem_cons_of_mem _ (List.mem_append_left _ h)
  have hw := fun w (h : w ∈ e_Y8_againstVote) => hts w (mw w h)
  have iX4 : ∀ w ∈ wsX40, w ∈ v_Y8_againstVote := fun w h => List.mem_cons_of_mem _ (List.mem_append_right _ (List.mem_append_left _ h))
  have j_Y2_has : ∀ w ∈ v_Y2_has, w ∈ v_Y8_againstVote := fun w h => List.mem_cons_of_mem _ (List.mem_append_right _ (List.mem_append_right _ (List.mem_append_left _ h)))
  have j_Y2_isThere : ∀ w ∈ v_Y2_isThere, w ∈ v_Y8_againstVote := fun w h => List.mem_cons_of_mem _ (List.mem_append_right _ (List.mem_append_right _ (List.mem_append_right _ (List.mem_append_left _ h))))
  have hown : s.vm.findClass RX8 = some m.cls := findClass_of_methodNamed B.named
  have hlocks := B.notSynchronized
  subst hsz
  have hD := hD0.self (sz := s.heap.size)
  generalize hAe : va_A (wsC K ad S) s.heap.size = A at hD ⊢
  have hA : ∀ q : Nat, s.heap.size ≤ q → A q := fun q h => by rw [← hAe]; exact Or.inr h
  have hS : va_S A s.heap s.heap [] := va_S.rf
  have hl : lv_has (lg_sl ([.ref (ad x0), va_re ad a1, .int a2, .int a3]) ++ List.replicate (4 - (lg_sl ([.ref (ad x0), va_re ad a1, .int a2, .int a3])).length) Slot.unset).toArray 4 [(0, .ref (ad x0)), (1, va_re ad a1), (2, .int a2), (3, .int a3)] := by
    cases a1 <;> exact lv_entry _ (n := 4) (Nat.le_of_ble_eq_true rfl)
  rw [lg_entry_eq]
  generalize (lg_sl ([.ref (ad x0), va_re ad a1, .int a2, .int a3]) ++ List.replicate (4 - (lg_sl ([.ref (ad x0), va_re ad a1, .int a2, .int a3])).length) Slot.unset).toArray = ls_ at hl ⊢
  refine wGen (fun Q hQ => ?_)
  obtain ⟨X, hX⟩ : ∃ X, f_Y8_againstVote S x0 a1 a2 a3 = X := ⟨_, rfl⟩
  have B_Y8_againstVote_17 : ∀ (x1 : Option Nat) (x2 : Int32) (x3 : Int32) (H : Heap) (locs : List Loc) (ls_ : Array Slot), b_Y8_againstVote_17 S x0 x1 x2 x3 = X → q_Y8_againstVote_17 S x0 x1 x2 x3 → va_P G vwCl (wsC K ad S) H → va_D A (wsC K ad S) → va_S A s.heap H locs → lv_has ls_ 4 [(0, .ref (ad x0)), (1, va_re ad x1), (2, .int x2), (3, .int x3)] → W p l e ({ frames := 1, cells := 0, slots := 0, locals := 21 } : Room) s m #[Value.ref (ad x0), va_re ad a1, Value.int a2, Value.int a3] below meth c H locs 0 0 Q (F0 m 17 ls_ []) := by
    intro x1 x2 x3 H locs ls_ hE hp hP hD hS hl
    unfold b_Y8_againstVote_17 at hE
    unfold q_Y8_againstVote_17 at hp
    refine lv_bipush (v := 9) hx hb dX8_againstVote_17 (by decide) ?_
    subst hQ
    exact W.iret (v := (9 : Int32)) hx hb hr (fun t ht hW => ⟨⟨(9 : Int32), S, rfl, (pair_i (hE.trans hX.symm)), by rw [ht]; exact hP, hD⟩, hS.F ht⟩) hS.2.2 dX8_againstVote_19
  have B_Y8_againstVote_44 : ∀ (x1 : Option Nat) (x2 : Int32) (x3 : Int32) (y0 : Int32) (H : Heap) (locs : List Loc) (ls_ : Array Slot), b_Y8_againstVote_44 S x0 x1 x2 x3 y0 = X → q_Y8_againstVote_44 S x0 x1 x2 x3 y0 → va_P G vwCl (wsC K ad S) H → va_D A (wsC K ad S) → va_S A s.heap H locs → lv_has ls_ 4 [(0, .ref (ad x0)), (1, va_re ad x1), (2, .int x2), (3, .int x3)] → W p l e ({ frames := 1, cells := 0, slots := 0, locals := 21 } : Room) s m #[Value.ref (ad x0), va_re ad a1, Value.int a2, Value.int a3] below meth c H locs 0 0 Q (F0 m 44 ls_ [.int y0]) := by
    intro x1 x2 x3 y0 H locs ls_ hE hp hP hD hS hl
    unfold b_Y8_againstVote_44 at hE
    unfold q_Y8_againstVote_44 at hp
    subst hQ
    exact W.iret (v := y0) hx hb hr (fun t ht hW => ⟨⟨y0, S, rfl, (pair_i (hE.trans hX.symm)), by rw [ht]; exact hP, hD⟩, hS.F ht⟩) hS.2.2 dX8_againstVote_44
  have B_M : ∀ (x1 : Option Nat) (x2 : Int32) (x3 : Int32) (H : Heap) (locs : List Loc) (ls_ : Array Slot), f_Y8_againstVote S x0 x1 x2 x3 = X → p_Y8_againstVote S x0 x1 x2 x3 → va_P G vwCl (wsC K ad S) H → va_D A (wsC K ad S) → va_S A s.heap H locs → lv_has ls_ 4 [(0, .ref (ad x0)), (1, va_re ad x1), (2, .int x2), (3, .int x3)] → W p l e ({ frames := 1, cells := 0, slots := 0, locals := 21 } : Room) s m #[Value.ref (ad x0), va_re ad a1, Value.int a2, Value.int a3] below meth c H locs 0 0 Q (F0 m 0 ls_ []) := by
    intro x1 x2 x3 H locs ls_ hE hp hP hD hS hl
    unfold f_Y8_againstVote at hE
    unfold p_Y8_againstVote at hp
    refine lv_aload_n hx hb dX8_againstVote_0 rfl (lv_at hl 0 rfl) ?_
    refine lv_iload_n hx hb dX8_againstVote_1 rfl (lv_at hl 2 rfl) ?_
    obtain ⟨hy1, hp⟩ := hp
    refine cGoi (va_runV (As := [.int x2]) (rest := []) ⟨hx, hb, hml, hown, hts⟩ (c_Y2_has l G K ad S x0 x2 _) (cwV 1 hts (wGV t_ (mw (.methodLink RX8 114 yX2_has) (List.mem_of_getElem? (i := 0) rfl)) (mw (.instanceMethod yX2_has) (List.mem_of_getElem? (i := 1) rfl)) (mw (.selects RX2 yX2_has yX2_has) (List.mem_of_getElem? (i := 2) rfl)) (mw (.initialized RX2) (List.mem_of_getElem? (i := 3) rfl)) j_Y2_has) rfl rfl rfl (by decide +kernel) ⟨Nat.le_of_ble_eq_true rfl, Nat.le_of_ble_eq_true rfl⟩) (cPV hK hTE hP hD 1 rfl (at_1 k_x0) ⟨k_x0, hy1⟩) rfl rfl hl.1 rfl (lv_room (Nat.le_of_ble_eq_true rfl)) dX8_againstVote_2 ⟨Nat.le_of_ble_eq_true rfl, Nat.le_of_ble_eq_true rfl⟩) hP hD hS hA (fun r3 u2 H locs hv hP hD hS => ?_)
    have h1 := congrArg Prod.fst hv
    have h2 := (congrArg Prod.snd hv).symm
    dsimp only at h1 h2
    subst h1
    subst h2
    refine lv_if_eq (tgt := 17) hx hb dX8_againstVote_5 (by decide) (fun c4 => ?_) (fun c4 => ?_)
    · rw [if_pos c4] at hE hp
      exact B_Y8_againstVote_17 x1 x2 x3 _ _ _ hE hp hP hD hS (lv_sub hl [0, 1, 2, 3] rfl)
    · rw [if_neg c4] at hE hp
      refine lv_iload_n hx hb dX8_againstVote_8 rfl (lv_at hl 3 rfl) ?_
      refine lv_if_lt (tgt := 17) hx hb dX8_againstVote_9 (by decide) (fun c5 => ?_) (fun c5 => ?_)
      · rw [if_pos c5] at hE hp
        exact B_Y8_againstVote_17 x1 x2 x3 _ _ _ hE hp hP hD hS (lv_sub hl [0, 1, 2, 3] rfl)
      · rw [if_neg c5] at hE hp
        refine lv_iload_n hx hb dX8_againstVote_12 rfl (lv_at hl 3 rfl) ?_
        refine lv_iconst (v := 2) hx hb dX8_againstVote_13 (by decide) ?_
        refine lv_icmp_le (tgt := 20) hx hb dX8_againstVote_14 (by decide) (fun c6 => ?_) (fun c6 => ?_)
        · rw [if_pos c6] at hE hp
          refine lv_aload_n hx hb dX8_againstVote_20 rfl (lv_at hl 0 rfl) ?_
          refine lv_iload_n hx hb dX8_againstVote_21 rfl (lv_at hl 2 rfl) ?_
          obtain ⟨hy7, hp⟩ := hp
          refine cGoi (va_runV (As := [.int x2]) (rest := []) ⟨hx, hb, hml, hown, hts⟩ (c_Y2_isThere l G K ad S x0 x2 _) (cwV 1 hts (wGV t_ (mw (.methodLink RX8 82 yX2_isThere) (List.mem_of_getElem? (i := 4) rfl)) (mw (.instanceMethod yX2_isThere) (List.mem_of_getElem? (i := 5) rfl)) (mw (.selects RX2 yX2_isThere yX2_isThere) (List.mem_of_getElem? (i := 6) rfl)) (mw (.initialized RX2) (List.mem_of_getElem? (i := 3) rfl)) j_Y2_isThere) rfl rfl rfl (by decide +kernel) ⟨Nat.le_of_ble_eq_true rfl, Nat.le_of_ble_eq_true rfl⟩) (cPV hK hTE hP hD 1 rfl (at_1 k_x0) ⟨k_x0, hy7⟩) rfl rfl hl.1 rfl (lv_room (Nat.le_of_ble_eq_true rfl)) dX8_againstVote_22 ⟨Nat.le_of_ble_eq_true rfl, Nat.le_of_ble_eq_true rfl⟩) hP hD hS hA (fun r9 u8 H locs hv hP hD hS => ?_)
          have h1 := congrArg Prod.fst hv
          have h2 := (congrArg Prod.snd hv).symm
          dsimp only at h1 h2
          subst h1
          subst h2
          refine lv_if_ne (tgt := 31) hx hb dX8_againstVote_25 (by decide) (fun c10 => ?_) (fun c10 => ?_)
          · rw [if_neg c10] at hE hp
            refine cAload_n (ad := ad) (r := x1) hx hb dX8_againstVote_31 rfl (lv_at hl 1 rfl) ?_
            obtain ⟨hy11, hp⟩ := hp
            refine cTop (r := x1) hy11.1 ?_
            refine va_get (D := G) (ci := 3) (v := .int (giC S (x1.getD 0) 4)) (C := RX4) (T := TX4) (N := 16) hx hb hts iX4 hown hK hP (x1.getD 0) (at_3 hy11.2) rfl 4 (by decide) (hw (.fieldLink RX8 138 "MotionFloor$Motion" "seconder" "I") (List.mem_of_getElem? (i := 7) rfl)) (fun _ h9 => h9) rfl dX8_againstVote_32 ?_
            refine lv_iconst (v := (-1)) hx hb dX8_againstVote_35 (by decide) ?_
            refine lv_icmp_ne (tgt := 43) hx hb dX8_againstVote_36 (by decide) (fun c12 => ?_) (fun c12 => ?_)
            · rw [if_neg c12] at hE hp
              refine lv_iconst (v := 0) hx hb dX8_againstVote_43 (by decide) ?_
              exact B_Y8_againstVote_44 x1 x2 x3 0 _ _ _ hE hp hP hD hS (lv_sub hl [0, 1, 2, 3] rfl)
            · rw [if_pos c12] at hE hp
              refine lv_iconst (v := 3) hx hb dX8_againstVote_39 (by decide) ?_
              refine lv_goto (tgt := 44) hx hb dX8_againstVote_40 (by decide) ?_
              exact B_Y8_againstVote_44 x1 x2 x3 3 _ _ _ hE hp hP hD hS (lv_sub hl [0, 1, 2, 3] rfl)
          · rw [if_pos c10] at hE hp
            refine lv_bipush (v := 8) hx hb dX8_againstVote_28 (by decide) ?_
            subst hQ
            exact W.iret (v := (8 : Int32)) hx hb hr (fun t ht hW => ⟨⟨(8 : Int32), S, rfl, (pair_i (hE.trans hX.symm)), by rw [ht]; exact hP, hD⟩, hS.F ht⟩) hS.2.2 dX8_againstVote_30
        · rw [if_neg c6] at hE hp
          exact B_Y8_againstVote_17 x1 x2 x3 _ _ _ hE hp hP hD hS (lv_sub hl [0, 1, 2, 3] rfl)
  exact B_M a1 a2 a3 _ _ _ hX hp hP hD hS hl
theorem dX8_againstOnMotion_146 : decode cX8_againstOnMotion 146 = .ok (.ireturn, 1) := by decide +kernel
theorem dX8_againstOnMotion_147 : decode cX8_againstOnMotion 147 = .ok (.aload_n 0, 1) := by decide +kernel
theorem dX8_againstOnMotion_148 : decode cX8_againstOnMotion 148 = .ok (.getfield 34, 3) := by decide +kernel
theorem dX8_againstOnMotion_151 : decode cX8_againstOnMotion 151 = .ok (.aload 5, 2) := by decide +kernel
theorem dX8_againstOnMotion_153 : decode cX8_againstOnMotion 153 = .ok (.iload_n 2, 1) := by decide +kernel
theorem dX8_againstOnMotion_154 : decode cX8_againstOnMotion 154 = .ok (.invokestatic 104, 3) := by decide +kernel
theorem dX8_againstWithdraw_0 : decode cX8_againstWithdraw 0 = .ok (.iload_n 2, 1) := by decide +kernel
theorem dX8_againstWithdraw_1 : decode cX8_againstWithdraw 1 = .ok (.aload_n 1, 1) := by decide +kernel
theorem dX8_againstWithdraw_2 : decode cX8_againstWithdraw 2 = .ok (.getfield 229, 3) := by decide +kernel
theorem dX8_againstWithdraw_5 : decode cX8_againstWithdraw 5 = .ok (.if_icmp .ne 12, 3) := by decide +kernel
theorem dX8_againstWithdraw_8 : decode cX8_againstWithdraw 8 = .ok (.aload_n 1, 1) := by decide +kernel
theorem dX8_againstWithdraw_9 : decode cX8_againstWithdraw 9 = .ok (.getfield 128, 3) := by decide +kernel
theorem dX8_againstWithdraw_12 : decode cX8_againstWithdraw 12 = .ok (.bipush 9, 2) := by decide +kernel
theorem dX8_againstWithdraw_14 : decode cX8_againstWithdraw 14 = .ok (.if_icmp .ne 5, 3) := by decide +kernel
theorem dX8_againstWithdraw_17 : decode cX8_againstWithdraw 17 = .ok (.iconst 2, 1) := by decide +kernel
theorem dX8_againstWithdraw_18 : decode cX8_againstWithdraw 18 = .ok (.ireturn, 1) := by decide +kernel
theorem dX8_againstWithdraw_19 : decode cX8_againstWithdraw 19 = .ok (.aload_n 0, 1) := by decide +kernel
theorem dX8_againstWithdraw_20 : decode cX8_againstWithdraw 20 = .ok (.iload_n 2, 1) := by decide +kernel
theorem dX8_againstWithdraw_21 : decode cX8_againstWithdraw 21 = .ok (.invokevirtual 82, 3) := by decide +kernel
theorem dX8_againstWithdraw_24 : decode cX8_againstWithdraw 24 = .ok (.ifCond .eq 7, 3) := by decide +kernel
theorem dX8_againstWithdraw_27 : decode cX8_againstWithdraw 27 = .ok (.iconst 0, 1) := by decide +kernel
theorem dX8_againstWithdraw_28 : decode cX8_againstWithdraw 28 = .ok (.goto 5, 3) := by decide +kernel
theorem dX8_againstWithdraw_31 : decode cX8_againstWithdraw 31 = .ok (.bipush 8, 2) := by decide +kernel
theorem dX8_againstWithdraw_33 : decode cX8_againstWithdraw 33 = .ok (.ireturn, 1) := by decide +kernel
set_option maxRecDepth 100000 in
theorem zc162 : wZ (.code yX8_againstWithdraw cX8_againstWithdraw 3 (some .int)) := ⟨wT2 (List.mem_of_getElem? (i := 183) rfl), Or.inl rfl⟩
def b_Y8_againstWithdraw_17 (S : Cst) (x0 : Nat) (x1 : Option Nat) (x2 : Int32) : Int32 := (2 : Int32)
def q_Y8_againstWithdraw_17 (S : Cst) (x0 : Nat) (x1 : Option Nat) (x2 : Int32) : Prop := True
def b_Y8_againstWithdraw_33 (S : Cst) (x0 : Nat) (x1 : Option Nat) (x2 : Int32) (y0 : Int32) : Int32 := y0
def q_Y8_againstWithdraw_33 (S : Cst) (x0 : Nat) (x1 : Option Nat) (x2 : Int32) (y0 : Int32) : Prop := True
def f_Y8_againstWithdraw (S : Cst) (x0 : Nat) (x1 : Option Nat) (x2 : Int32) : Int32 := if x2 = (giC S (x1.getD 0) 3) then if (giC S (x1.getD 0) 2) = 9 then (b_Y8_againstWithdraw_17 S x0 x1 x2) else if (f_Y2_isThere S x0 x2) = 0 then (b_Y8_againstWithdraw_33 S x0 x1 x2 8) else (b_Y8_againstWithdraw_33 S x0 x1 x2 0) else (b_Y8_againstWithdraw_17 S x0 x1 x2)
def p_Y8_againstWithdraw (S : Cst) (x0 : Nat) (x1 : Option Nat) (x2 : Int32) : Prop := (iR S x1 3) ∧ (if x2 = (giC S (x1.getD 0) 3) then (iR S x1 3) ∧ (if (giC S (x1.getD 0) 2) = 9 then (q_Y8_againstWithdraw_17 S x0 x1 x2) else (p_Y2_isThere S x0 x2) ∧ (if (f_Y2_isThere S x0 x2) = 0 then (q_Y8_againstWithdraw_33 S x0 x1 x2 8) else (q_Y8_againstWithdraw_33 S x0 x1 x2 0))) else (q_Y8_againstWithdraw_17 S x0 x1 x2))
def e_Y8_againstWithdraw : List Cond := [.fieldLink RX8 229 "MotionFloor$Motion" "mover" "I", .fieldLink RX8 128 "MotionFloor$Motion" "kind" "I", .methodLink RX8 82 yX2_isThere, .instanceMethod yX2_isThere, .selects RX2 yX2_isThere yX2_isThere, .initialized RX2]
def v_Y8_againstWithdraw : List Cond := .code yX8_againstWithdraw cX8_againstWithdraw 3 (some .int) :: (e_Y8_againstWithdraw ++ (wsX40 ++ (v_Y2_isThere ++ [])))
theorem te_Y8_againstWithdraw : GoodIn lw_tbl e_Y8_againstWithdraw := wGc zc154 (wGc zc155 (wGc zc148 (wGc zc147 (wGc zc146 (wGc zc77 (wG0))))))
theorem t_Y8_againstWithdraw : GoodIn lw_tbl v_Y8_againstWithdraw := wGc zc162 (wGa te_Y8_againstWithdraw (wGa zcX4 (wGa t_Y2_isThere (wG0))))
set_option maxHeartbeats 4000000 in
set_option maxRecDepth 100000 in
theorem c_Y8_againstWithdraw (l : Launch) (G : va_G) (K : Nat → ClassId) (ad : Nat → Nat) (S : Cst) (x0 : Nat) (a1 : Option Nat) (a2 : Int32) (sz : Nat) : Met l yX8_againstWithdraw v_Y8_againstWithdraw ({ frames := 1, cells := 0, slots := 0, locals := 21 }) (va_Pc [.ref (ad x0), va_re ad a1, .int a2] (cSt G K ad sz S (iK S x0 1 ∧ p_Y8_againstWithdraw S x0 a1 a2))) (va_Qi (fun (r : Int32) (u : Cst) => (r, u) = (f_Y8_againstWithdraw S x0 a1 a2, S)) (cBt G K ad (va_A (wsC K ad S) sz)) (va_A (wsC K ad S) sz)) 0 0 (va_A (wsC K ad S) sz) := by
  refine Met.ofW (cc := cX8_againstWithdraw) (maxL := 3) (ret := (some .int)) (by decide) rfl ?_
  intro p e s m args below meth c s₁ B hml hv
  obtain ⟨rfl, ⟨hsz, hP, hK, hD0, hTE⟩, hp⟩ := hv
  obtain ⟨k_x0, hp⟩ := hp
  have hx := B.exec
  have hb := B.bytes
  have hr := B.returns
  have hts := atoms_spec (ws := v_Y8_againstWithdraw) B.pre
  have t_ := t_Y8_againstWithdraw
  have mw : ∀ w ∈ e_Y8_againstWithdraw, w ∈ v_Y8_againstWithdraw := fun w h => List.mem_cons_of_mem _ (List.mem_append_left _ h)
  have hw := fun w (h : w ∈ e_Y8_againstWithdraw) => hts w (mw w h)
  have iX4 : ∀ w ∈ wsX40, w ∈ v_Y8_againstWithdraw := fun w h => List.mem_cons_of_mem _ (List.mem_append_right _ (List.mem_append_left _ h))
  have j_Y2_isThere : ∀ w ∈ v_Y2_isThere, w ∈ v_Y8_againstWithdraw := fun w h => List.mem_cons_of_mem _ (List.mem_append_right _ (List.mem_append_right _ (List.mem_append_left _ h)))
  have hown : s.vm.findClass RX8 = some m.cls := findClass_of_methodNamed B.named
  have hlocks := B.notSynchronized
  subst hsz
  have hD := hD0.self (sz := s.heap.size)
  generalize hAe : va_A (wsC K ad S) s.heap.size = A at hD ⊢
  have hA : ∀ q : Nat, s.heap.size ≤ q → A q := fun q h => by rw [← hAe]; exact Or.inr h
  have hS : va_S A s.heap s.heap [] := va_S.rf
  have hl : lv_has (lg_sl ([.ref (ad x0), va_re ad a1, .int a2]) ++ List.replicate (3 - (lg_sl ([.ref (ad x0), va_re ad a1, .int a2])).length) Slot.unset).toArray 3 [(0, .ref (ad x0)), (1, va_re ad a1), (2, .int a2)] := by
    cases a1 <;> exact lv_entry _ (n := 3) (Nat.le_of_ble_eq_true rfl)
  rw [lg_entry_eq]
  generalize (lg_sl ([.ref (ad x0), va_re ad a1, .int a2]) ++ List.replicate (3 - (lg_sl ([.ref (ad x0), va_re ad a1, .int a2])).length) Slot.unset).toArray = ls_ at hl ⊢
  refine wGen (fun Q hQ => ?_)
  obtain ⟨X, hX⟩ : ∃ X, f_Y8_againstWithdraw S x0 a1 a2 = X := ⟨_, rfl⟩
  have B_Y8_againstWithdraw_17 : ∀ (x1 : Option Nat) (x2 : Int32) (H : Heap) (locs : List Loc) (ls_ : Array Slot), b_Y8_againstWithdraw_17 S x0 x1 x2 = X → q_Y8_againstWithdraw_17 S x0 x1 x2 → va_P G vwCl (wsC K ad S) H → va_D A (wsC K ad S) → va_S A s.heap H locs → lv_has ls_ 3 [(0, .ref (ad x0)), (1, va_re ad x1), (2, .int x2)] → W p l e ({ frames := 1, cells := 0, slots := 0, locals := 21 } : Room) s m #[Value.ref (ad x0), va_re ad a1, Value.int a2] below meth c H locs 0 0 Q (F0 m 17 ls_ []) := by
    intro x1 x2 H locs ls_ hE hp hP hD hS hl
    unfold b_Y8_againstWithdraw_17 at hE
    unfold q_Y8_againstWithdraw_17 at hp
    refine lv_iconst (v := 2) hx hb dX8_againstWithdraw_17 (by decide) ?_
    subst hQ
    exact W.iret (v := (2 : Int32)) hx hb hr (fun t ht hW => ⟨⟨(2 : Int32), S, rfl, (pair_i (hE.trans hX.symm)), by rw [ht]; exact hP, hD⟩, hS.F ht⟩) hS.2.2 dX8_againstWithdraw_18
  have B_Y8_againstWithdraw_33 : ∀ (x1 : Option Nat) (x2 : Int32) (y0 : Int32) (H : Heap) (locs : List Loc) (ls_ : Array Slot), b_Y8_againstWithdraw_33 S x0 x1 x2 y0 = X → q_Y8_againstWithdraw_33 S x0 x1 x2 y0 → va_P G vwCl (wsC K ad S) H → va_D A (wsC K ad S) → va_S A s.heap H locs → lv_has ls_ 3 [(0, .ref (ad x0)), (1, va_re ad x1), (2, .int x2)] → W p l e ({ frames := 1, cells := 0, slots := 0, locals := 21 } : Room) s m #[Value.ref (ad x0), va_re ad a1, Value.int a2] below meth c H locs 0 0 Q (F0 m 33 ls_ [.int y0]) := by
    intro x1 x2 y0 H locs ls_ hE hp hP hD hS hl
    unfold b_Y8_againstWithdraw_33 at hE
    unfold q_Y8_againstWithdraw_33 at hp
    subst hQ
    exact W.iret (v := y0) hx hb hr (fun t ht hW => ⟨⟨y0, S, rfl, (pair_i (hE.trans hX.symm)), by rw [ht]; exact hP, hD⟩, hS.F ht⟩) hS.2.2 dX8_againstWithdraw_33
  have B_M : ∀ (x1 : Option Nat) (x2 : Int32) (H : Heap) (locs : List Loc) (ls_ : Array Slot), f_Y8_againstWithdraw S x0 x1 x2 = X → p_Y8_againstWithdraw S x0 x1 x2 → va_P G vwCl (wsC K ad S) H → va_D A (wsC K ad S) → va_S A s.heap H locs → lv_has ls_ 3 [(0, .ref (ad x0)), (1, va_re ad x1), (2, .int x2)] → W p l e ({ frames := 1, cells := 0, slots := 0, locals := 21 } : Room) s m #[Value.ref (ad x0), va_re ad a1, Value.int a2] below meth c H locs 0 0 Q (F0 m 0 ls_ []) := by
    intro x1 x2 H locs ls_ hE hp hP hD hS hl
    unfold f_Y8_againstWithdraw at hE
    unfold p_Y8_againstWithdraw at hp
    refine lv_iload_n hx hb dX8_againstWithdraw_0 rfl (lv_at hl 2 rfl) ?_
    refine cAload_n (ad := ad) (r := x1) hx hb dX8_againstWithdraw_1 rfl (lv_at hl 1 rfl) ?_
    obtain ⟨hy1, hp⟩ := hp
    refine cTop (r := x1) hy1.1 ?_
    refine va_get (D := G) (ci := 3) (v := .int (giC S (x1.getD 0) 3)) (C := RX4) (T := TX4) (N := 16) hx hb hts iX4 hown hK hP (x1.getD 0) (at_3 hy1.2) rfl 3 (by decide) (hw (.fieldLink RX8 229 "MotionFloor$Motion" "mover" "I") (List.mem_of_getElem? (i := 0) rfl)) (fun _ h9 => h9) rfl dX8_againstWithdraw_2 ?_
    refine lv_icmp_ne (tgt := 17) hx hb dX8_againstWithdraw_5 (by decide) (fun c2 => ?_) (fun c2 => ?_)
    · rw [if_neg c2] at hE hp
      exact B_Y8_againstWithdraw_17 x1 x2 _ _ _ hE hp hP hD hS (lv_sub hl [0, 1, 2] rfl)
    · rw [if_pos c2] at hE hp
      refine cAload_n (ad := ad) (r := x1) hx hb dX8_againstWithdraw_8 rfl (lv_at hl 1 rfl) ?_
      obtain ⟨hy3, hp⟩ := hp
      refine cTop (r := x1) hy3.1 ?_
      refine va_get (D := G) (ci := 3) (v := .int (giC S (x1.getD 0) 2)) (C := RX4) (T := TX4) (N := 16) hx hb hts iX4 hown hK hP (x1.getD 0) (at_3 hy3.2) rfl 2 (by decide) (hw (.fieldLink RX8 128 "MotionFloor$Motion" "kind" "I") (List.mem_of_getElem? (i := 1) rfl)) (fun _ h9 => h9) rfl dX8_againstWithdraw_9 ?_
      refine lv_bipush (v := 9) hx hb dX8_againstWithdraw_12 (by decide) ?_
      refine lv_icmp_ne (tgt := 19) hx hb dX8_againstWithdraw_14 (by decide) (fun c4 => ?_) (fun c4 => ?_)
      · rw [if_neg c4] at hE hp
        refine lv_aload_n hx hb dX8_againstWithdraw_19 rfl (lv_at hl 0 rfl) ?_
        refine lv_iload_n hx hb dX8_againstWithdraw_20 rfl (lv_at hl 2 rfl) ?_
        obtain ⟨hy5, hp⟩ := hp
        refine cGoi (va_runV (As := [.int x2]) (rest := []) ⟨hx, hb, hml, hown, hts⟩ (c_Y2_isThere l G K ad S x0 x2 _) (cwV 1 hts (wGV t_ (mw (.methodLink RX8 82 yX2_isThere) (List.mem_of_getElem? (i := 2) rfl)) (mw (.instanceMethod yX2_isThere) (List.mem_of_getElem? (i := 3) rfl)) (mw (.selects RX2 yX2_isThere yX2_isThere) (List.mem_of_getElem? (i := 4) rfl)) (mw (.initialized RX2) (List.mem_of_getElem? (i := 5) rfl)) j_Y2_isThere) rfl rfl rfl (by decide +kernel) ⟨Nat.le_of_ble_eq_true rfl, Nat.le_of_ble_eq_true rfl⟩) (cPV hK hTE hP hD 1 rfl (at_1 k_x0) ⟨k_x0, hy5⟩) rfl rfl hl.1 rfl (lv_room (Nat.le_of_ble_eq_true rfl)) dX8_againstWithdraw_21 ⟨Nat.le_of_ble_eq_true rfl, Nat.le_of_ble_eq_true rfl⟩) hP hD hS hA (fun r7 u6 H locs hv hP hD hS => ?_)
        have h1 := congrArg Prod.fst hv
        have h2 := (congrArg Prod.snd hv).symm
        dsimp only at h1 h2
        subst h1
        subst h2
        refine lv_if_eq (tgt := 31) hx hb dX8_againstWithdraw_24 (by decide) (fun c8 => ?_) (fun c8 => ?_)
        · rw [if_pos c8] at hE hp
          refine lv_bipush (v := 8) hx hb dX8_againstWithdraw_31 (by decide) ?_
          exact B_Y8_againstWithdraw_33 x1 x2 8 _ _ _ hE hp hP hD hS (lv_sub hl [0, 1, 2] rfl)
        · rw [if_neg c8] at hE hp
          refine lv_iconst (v := 0) hx hb dX8_againstWithdraw_27 (by decide) ?_
          refine lv_goto (tgt := 33) hx hb dX8_againstWithdraw_28 (by decide) ?_
          exact B_Y8_againstWithdraw_33 x1 x2 0 _ _ _ hE hp hP hD hS (lv_sub hl [0, 1, 2] rfl)
      · rw [if_pos c4] at hE hp
        exact B_Y8_againstWithdraw_17 x1 x2 _ _ _ hE hp hP hD hS (lv_sub hl [0, 1, 2] rfl)
  exact B_M a1 a2 _ _ _ hX hp hP hD hS hl
theorem dX8_againstOnMotion_157 : decode cX8_againstOnMotion 157 = .ok (.ireturn, 1) := by decide +kernel
theorem dX8_againstOnMotion_158 : decode cX8_againstOnMotion 158 = .ok (.aload_n 0, 1) := by decide +kernel
theorem dX8_againstOnMotion_159 : decode cX8_againstOnMotion 159 = .ok (.aload 5, 2) := by decide +kernel
theorem dX8_againstOnMotion_161 : decode cX8_againstOnMotion 161 = .ok (.invokestatic 107, 3) := by decide +kernel
theorem dX8_againstRule_0 : decode cX8_againstRule 0 = .ok (.aload_n 1, 1) := by decide +kernel
theorem dX8_againstRule_1 : decode cX8_againstRule 1 = .ok (.getfield 128, 3) := by decide +kernel
theorem dX8_againstRule_4 : decode cX8_againstRule 4 = .ok (.bipush 9, 2) := by decide +kernel
theorem dX8_againstRule_6 : decode cX8_againstRule 6 = .ok (.if_icmp .ne 6, 3) := by decide +kernel
theorem dX8_againstRule_9 : decode cX8_againstRule 9 = .ok (.bipush 11, 2) := by decide +kernel
theorem dX8_againstRule_11 : decode cX8_againstRule 11 = .ok (.ireturn, 1) := by decide +kernel
theorem dX8_againstRule_12 : decode cX8_againstRule 12 = .ok (.aload_n 0, 1) := by decide +kernel
theorem dX8_againstRule_13 : decode cX8_againstRule 13 = .ok (.getfield 86, 3) := by decide +kernel
theorem dX8_againstRule_16 : decode cX8_againstRule 16 = .ok (.getfield 117, 3) := by decide +kernel
theorem dX8_againstRule_19 : decode cX8_againstRule 19 = .ok (.bipush 9, 2) := by decide +kernel
theorem dX8_againstRule_21 : decode cX8_againstRule 21 = .ok (.if_icmp .lt 8, 3) := by decide +kernel
theorem dX8_againstRule_24 : decode cX8_againstRule 24 = .ok (.bipush 10, 2) := by decide +kernel
theorem dX8_againstRule_26 : decode cX8_againstRule 26 = .ok (.goto 4, 3) := by decide +kernel
theorem dX8_againstRule_29 : decode cX8_againstRule 29 = .ok (.iconst 0, 1) := by decide +kernel
theorem dX8_againstRule_30 : decode cX8_againstRule 30 = .ok (.ireturn, 1) := by decide +kernel
set_option maxRecDepth 100000 in
theorem zc163 : wZ (.fieldLink RX8 117 "MotionFloor$Pile" "size" "I") := ⟨wT1 (List.mem_of_getElem? (i := 91) (by decide +kernel)), Or.inl rfl⟩
set_option maxRecDepth 100000 in
theorem zc164 : wZ (.fieldLink RX8 86 "MotionFloor$Assembly" "pending" "LMotionFloor$Pile;") := ⟨wT1 (List.mem_of_getElem? (i := 185) (by decide +kernel)), Or.inl rfl⟩
set_option maxRecDepth 100000 in
theorem zc165 : wZ (.code yX8_againstRule cX8_againstRule 2 (some .int)) := ⟨wT2 (List.mem_of_getElem? (i := 186) rfl), Or.inl rfl⟩
def b_Y8_againstRule_30 (S : Cst) (x0 : Nat) (x1 : Option Nat) (y0 : Int32) : Int32 := y0
def q_Y8_againstRule_30 (S : Cst) (x0 : Nat) (x1 : Option Nat) (y0 : Int32) : Prop := True
def f_Y8_againstRule (S : Cst) (x0 : Nat) (x1 : Option Nat) : Int32 := if (giC S (x1.getD 0) 2) = 9 then (11 : Int32) else if (giC S ((grC S x0 1).getD 0) 1) < 9 then (b_Y8_againstRule_30 S x0 x1 0) else (b_Y8_againstRule_30 S x0 x1 10)
def p_Y8_againstRule (S : Cst) (x0 : Nat) (x1 : Option Nat) : Prop := (iR S x1 3) ∧ (if (giC S (x1.getD 0) 2) = 9 then True else (iR S (grC S x0 1) 4) ∧ (if (giC S ((grC S x0 1).getD 0) 1) < 9 then (q_Y8_againstRule_30 S x0 x1 0) else (q_Y8_againstRule_30 S x0 x1 10)))
def e_Y8_againstRule : List Cond := [.fieldLink RX8 128 "MotionFloor$Motion" "kind" "I", .fieldLink RX8 86 "MotionFloor$Assembly" "pending" "LMotionFloor$Pile;", .fieldLink RX8 117 "MotionFloor$Pile" "size" "I"]
def v_Y8_againstRule : List Cond := .code yX8_againstRule cX8_againstRule 2 (some .int) :: (e_Y8_againstRule ++ (wsX40 ++ (wsX00 ++ (wsX50 ++ []))))
theorem te_Y8_againstRule : GoodIn lw_tbl e_Y8_againstRule := wGc zc155 (wGc zc164 (wGc zc163 (wG0)))
theorem t_Y8_againstRule : GoodIn lw_tbl v_Y8_againstRule := wGc zc165 (wGa te_Y8_againstRule (wGa zcX4 (wGa zcX0 (wGa zcX5 (wG0)))))
set_option maxHeartbeats 4000000 in
set_option maxRecDepth 100000 in
theorem c_Y8_againstRule (l : Launch) (G : va_G) (K : Nat → ClassId) (ad : Nat → Nat) (S : Cst) (x0 : Nat) (a1 : Option Nat) (sz : Nat) : Met l yX8_againstRule v_Y8_againstRule ({ frames := 0, cells := 0, slots := 0, locals := 0 }) (va_Pc [.ref (ad x0), va_re ad a1] (cSt G K ad sz S (iK S x0 0 ∧ p_Y8_againstRule S x0 a1))) (va_Qi (fun (r : Int32) (u : Cst) => (r, u) = (f_Y8_againstRule S x0 a1, S)) (cBt G K ad (va_A (wsC K ad S) sz)) (va_A (wsC K ad S) sz)) 0 0 (va_A (wsC K ad S) sz) := by
  refine Met.ofW (cc := cX8_againstRule) (maxL := 2) (ret := (some .int)) (by decide) rfl ?_
  intro p e s m args below meth c s₁ B hml hv
  obtain ⟨rfl, ⟨hsz, hP, hK, hD0, hTE⟩, hp⟩ := hv
  obtain ⟨k_x0, hp⟩ := hp
  have hx := B.exec
  have hb := B.bytes
  have hr := B.returns
  have hts := atoms_spec (ws := v_Y8_againstRule) B.pre
  have t_ := t_Y8_againstRule
  have mw : ∀ w ∈ e_Y8_againstRule, w ∈ v_Y8_againstRule := fun w h => List.mem_cons_of_mem _ (List.mem_append_left _ h)
  have hw := fun w (h : w ∈ e_Y8_againstRule) => hts w (mw w h)
  have iX4 : ∀ w ∈ wsX40, w ∈ v_Y8_againstRule := fun w h => List.mem_cons_of_mem _ (List.mem_append_right _ (List.mem_append_left _ h))
  have iX0 : ∀ w ∈ wsX00, w ∈ v_Y8_againstRule := fun w h => List.mem_cons_of_mem _ (List.mem_append_right _ (List.mem_append_right _ (List.mem_append_left _ h)))
  have iX5 : ∀ w ∈ wsX50, w ∈ v_Y8_againstRule := fun w h => List.mem_cons_of_mem _ (List.mem_append_right _ (List.mem_append_right _ (List.mem_append_right _ (List.mem_append_left _ h))))
  have hown : s.vm.findClass RX8 = some m.cls := findClass_of_methodNamed B.named
  have hlocks := B.notSynchronized
  subst hsz
  have hD := hD0.self (sz := s.heap.size)
  generalize hAe : va_A (wsC K ad S) s.heap.size = A at hD ⊢
  have hA : ∀ q : Nat, s.heap.size ≤ q → A q := fun q h => by rw [← hAe]; exact Or.inr h
  have hS : va_S A s.heap s.heap [] := va_S.rf
  have hl : lv_has (lg_sl ([.ref (ad x0), va_re ad a1]) ++ List.replicate (2 - (lg_sl ([.ref (ad x0), va_re ad a1])).length) Slot.unset).toArray 2 [(0, .ref (ad x0)), (1, va_re ad a1)] := by
    cases a1 <;> exact lv_entry _ (n := 2) (Nat.le_of_ble_eq_true rfl)
  rw [lg_entry_eq]
  generalize (lg_sl ([.ref (ad x0), va_re ad a1]) ++ List.replicate (2 - (lg_sl ([.ref (ad x0), va_re ad a1])).length) Slot.unset).toArray = ls_ at hl ⊢
  refine wGen (fun Q hQ => ?_)
  obtain ⟨X, hX⟩ : ∃ X, f_Y8_againstRule S x0 a1 = X := ⟨_, rfl⟩
  have B_Y8_againstRule_30 : ∀ (x1 : Option Nat) (y0 : Int32) (H : Heap) (locs : List Loc) (ls_ : Array Slot), b_Y8_againstRule_30 S x0 x1 y0 = X → q_Y8_againstRule_30 S x0 x1 y0 → va_P G vwCl (wsC K ad S) H → va_D A (wsC K ad S) → va_S A s.heap H locs → lv_has ls_ 2 [(0, .ref (ad x0)), (1, va_re ad x1)] → W p l e ({ frames := 0, cells := 0, slots := 0, locals := 0 } : Room) s m #[Value.ref (ad x0), va_re ad a1] below meth c H locs 0 0 Q (F0 m 30 ls_ [.int y0]) := by
    intro x1 y0 H locs ls_ hE hp hP hD hS hl
    unfold b_Y8_againstRule_30 at hE
    unfold q_Y8_againstRule_30 at hp
    subst hQ
    exact W.iret (v := y0) hx hb hr (fun t ht hW => ⟨⟨y0, S, rfl, (pair_i (hE.trans hX.symm)), by rw [ht]; exact hP, hD⟩, hS.F ht⟩) hS.2.2 dX8_againstRule_30
  have B_M : ∀ (x1 : Option Nat) (H : Heap) (locs : List Loc) (ls_ : Array Slot), f_Y8_againstRule S x0 x1 = X → p_Y8_againstRule S x0 x1 → va_P G vwCl (wsC K ad S) H → va_D A (wsC K ad S) → va_S A s.heap H locs → lv_has ls_ 2 [(0, .ref (ad x0)), (1, va_re ad x1)] → W p l e ({ frames := 0, cells := 0, slots := 0, locals := 0 } : Room) s m #[Value.ref (ad x0), va_re ad a1] below meth c H locs 0 0 Q (F0 m 0 ls_ []) := by
    intro x1 H locs ls_ hE hp hP hD hS hl
    unfold f_Y8_againstRule at hE
    unfold p_Y8_againstRule at hp
    refine cAload_n (ad := ad) (r := x1) hx hb dX8_againstRule_0 rfl (lv_at hl 1 rfl) ?_
    obtain ⟨hy1, hp⟩ := hp
    refine cTop (r := x1) hy1.1 ?_
    refine va_get (D := G) (ci := 3) (v := .int (giC S (x1.getD 0) 2)) (C := RX4) (T := TX4) (N := 16) hx hb hts iX4 hown hK hP (x1.getD 0) (at_3 hy1.2) rfl 2 (by decide) (hw (.fieldLink RX8 128 "MotionFloor$Motion" "kind" "I") (List.mem_of_getElem? (i := 0) rfl)) (fun _ h9 => h9) rfl dX8_againstRule_1 ?_
    refine lv_bipush (v := 9) hx hb dX8_againstRule_4 (by decide) ?_
    refine lv_icmp_ne (tgt := 12) hx hb dX8_againstRule_6 (by decide) (fun c2 => ?_) (fun c2 => ?_)
    · rw [if_neg c2] at hE hp
      refine lv_aload_n hx hb dX8_againstRule_12 rfl (lv_at hl 0 rfl) ?_
      refine va_get (D := G) (ci := 0) (v := va_re ad (grC S x0 1)) (C := RX0) (T := TX0) (N := 11) hx hb hts iX0 hown hK hP x0 (at_0 k_x0) rfl 1 (by decide) (hw (.fieldLink RX8 86 "MotionFloor$Assembly" "pending" "LMotionFloor$Pile;") (List.mem_of_getElem? (i := 1) rfl)) (fun _ h9 => h9) rfl dX8_againstRule_13 ?_
      obtain ⟨hy3, hp⟩ := hp
      refine cTop (r := (grC S x0 1)) hy3.1 ?_
      refine va_get (D := G) (ci := 4) (v := .int (giC S ((grC S x0 1).getD 0) 1)) (C := RX5) (T := TX5) (N := 2) hx hb hts iX5 hown hK hP ((grC S x0 1).getD 0) (at_4 hy3.2) rfl 1 (by decide) (hw (.fieldLink RX8 117 "MotionFloor$Pile" "size" "I") (List.mem_of_getElem? (i := 2) rfl)) (fun _ h9 => h9) rfl dX8_againstRule_16 ?_
      refine lv_bipush (v := 9) hx hb dX8_againstRule_19 (by decide) ?_
      refine lv_icmp_lt (tgt := 29) hx hb dX8_againstRule_21 (by decide) (fun c4 => ?_) (fun c4 => ?_)
      · rw [if_pos c4] at hE hp
        refine lv_iconst (v := 0) hx hb dX8_againstRule_29 (by decide) ?_
        exact B_Y8_againstRule_30 x1 0 _ _ _ hE hp hP hD hS (lv_sub hl [0, 1] rfl)
      · rw [if_neg c4] at hE hp
        refine lv_bipush (v := 10) hx hb dX8_againstRule_24 (by decide) ?_
        refine lv_goto (tgt := 30) hx hb dX8_againstRule_26 (by decide) ?_
        exact B_Y8_againstRule_30 x1 10 _ _ _ hE hp hP hD hS (lv_sub hl [0, 1] rfl)
    · rw [if_pos c2] at hE hp
      refine lv_bipush (v := 11) hx hb dX8_againstRule_9 (by decide) ?_
      subst hQ
      exact W.iret (v := (11 : Int32)) hx hb hr (fun t ht hW => ⟨⟨(11 : Int32), S, rfl, (pair_i (hE.trans hX.symm)), by rw [ht]; exact hP, hD⟩, hS.F ht⟩) hS.2.2 dX8_againstRule_11
  exact B_M a1 _ _ _ hX hp hP hD hS hl
theorem dX8_againstAppeal_0 : decode cX8_againstAppeal 0 = .ok (.aload_n 1, 1) := by decide +kernel
theorem dX8_againstAppeal_1 : decode cX8_againstAppeal 1 = .ok (.getfield 128, 3) := by decide +kernel
theorem dX8_againstAppeal_4 : decode cX8_againstAppeal 4 = .ok (.bipush 9, 2) := by decide +kernel
theorem dX8_againstAppeal_6 : decode cX8_againstAppeal 6 = .ok (.if_icmp .ne 11, 3) := by decide +kernel
theorem dX8_againstAppeal_9 : decode cX8_againstAppeal 9 = .ok (.aload_n 1, 1) := by decide +kernel
theorem dX8_againstAppeal_10 : decode cX8_againstAppeal 10 = .ok (.getfield 138, 3) := by decide +kernel
theorem dX8_againstAppeal_13 : decode cX8_againstAppeal 13 = .ok (.iconst (-1), 1) := by decide +kernel
theorem dX8_againstAppeal_14 : decode cX8_againstAppeal 14 = .ok (.if_icmp .eq 6, 3) := by decide +kernel
theorem dX8_againstAppeal_17 : decode cX8_againstAppeal 17 = .ok (.bipush 11, 2) := by decide +kernel
theorem dX8_againstAppeal_19 : decode cX8_againstAppeal 19 = .ok (.ireturn, 1) := by decide +kernel
theorem dX8_againstAppeal_20 : decode cX8_againstAppeal 20 = .ok (.aload_n 0, 1) := by decide +kernel
theorem dX8_againstAppeal_21 : decode cX8_againstAppeal 21 = .ok (.iload_n 2, 1) := by decide +kernel
theorem dX8_againstAppeal_22 : decode cX8_againstAppeal 22 = .ok (.invokestatic 42, 3) := by decide +kernel
theorem dX8_againstAppeal_25 : decode cX8_againstAppeal 25 = .ok (.istore_n 3, 1) := by decide +kernel
theorem dX8_againstAppeal_26 : decode cX8_againstAppeal 26 = .ok (.iload_n 3, 1) := by decide +kernel
theorem dX8_againstAppeal_27 : decode cX8_againstAppeal 27 = .ok (.ifCond .eq 5, 3) := by decide +kernel
theorem dX8_againstAppeal_30 : decode cX8_againstAppeal 30 = .ok (.iload_n 3, 1) := by decide +kernel
theorem dX8_againstAppeal_31 : decode cX8_againstAppeal 31 = .ok (.ireturn, 1) := by decide +kernel
theorem dX8_againstAppeal_32 : decode cX8_againstAppeal 32 = .ok (.iload_n 2, 1) := by decide +kernel
theorem dX8_againstAppeal_33 : decode cX8_againstAppeal 33 = .ok (.aload_n 0, 1) := by decide +kernel
theorem dX8_againstAppeal_34 : decode cX8_againstAppeal 34 = .ok (.getfield 79, 3) := by decide +kernel
theorem dX8_againstAppeal_37 : decode cX8_againstAppeal 37 = .ok (.if_icmp .ne 7, 3) := by decide +kernel
theorem dX8_againstAppeal_40 : decode cX8_againstAppeal 40 = .ok (.iconst 2, 1) := by decide +kernel
theorem dX8_againstAppeal_41 : decode cX8_againstAppeal 41 = .ok (.goto 4, 3) := by decide +kernel
theorem dX8_againstAppeal_44 : decode cX8_againstAppeal 44 = .ok (.iconst 0, 1) := by decide +kernel
theorem dX8_againstAppeal_45 : decode cX8_againstAppeal 45 = .ok (.ireturn, 1) := by decide +kernel
theorem dX8_againstOnMotion_164 : decode cX8_againstOnMotion 164 = .ok (.ireturn, 1) := by decide +kernel
theorem dX8_againstOnMotion_165 : decode cX8_againstOnMotion 165 = .ok (.aload_n 0, 1) := by decide +kernel
theorem dX8_againstOnMotion_166 : decode cX8_againstOnMotion 166 = .ok (.getfield 34, 3) := by decide +kernel
theorem dX8_againstOnMotion_169 : decode cX8_againstOnMotion 169 = .ok (.aload 5, 2) := by decide +kernel
theorem dX8_againstOnMotion_171 : decode cX8_againstOnMotion 171 = .ok (.iload_n 2, 1) := by decide +kernel
theorem dX8_againstOnMotion_172 : decode cX8_againstOnMotion 172 = .ok (.invokestatic 111, 3) := by decide +kernel
set_option maxRecDepth 100000 in
theorem zc166 : wZ (.code yX8_againstAppeal cX8_againstAppeal 4 (some .int)) := ⟨wT2 (List.mem_of_getElem? (i := 189) rfl), Or.inl rfl⟩
def b_Y8_againstAppeal_17 (S : Cst) (x0 : Nat) (x1 : Option Nat) (x2 : Int32) : Int32 := (11 : Int32)
def q_Y8_againstAppeal_17 (S : Cst) (x0 : Nat) (x1 : Option Nat) (x2 : Int32) : Prop := True
def b_Y8_againstAppeal_45 (S : Cst) (x0 : Nat) (x1 : Option Nat) (x2 : Int32) (x3 : Int32) (y0 : Int32) : Int32 := y0
def q_Y8_againstAppeal_45 (S : Cst) (x0 : Nat) (x1 : Option Nat) (x2 : Int32) (x3 : Int32) (y0 : Int32) : Prop := True
def f_Y8_againstAppeal (S : Cst) (x0 : Nat) (x1 : Option Nat) (x2 : Int32) : Int32 := if (giC S (x1.getD 0) 2) = 9 then if (giC S (x1.getD 0) 4) = (-1) then if (f_Y8_againstAbsent S x0 x2) = 0 then if x2 = (giC S x0 3) then (b_Y8_againstAppeal_45 S x0 x1 x2 (f_Y8_againstAbsent S x0 x2) 2) else (b_Y8_againstAppeal_45 S x0 x1 x2 (f_Y8_againstAbsent S x0 x2) 0) else (f_Y8_againstAbsent S x0 x2) else (b_Y8_againstAppeal_17 S x0 x1 x2) else (b_Y8_againstAppeal_17 S x0 x1 x2)
def p_Y8_againstAppeal (S : Cst) (x0 : Nat) (x1 : Option Nat) (x2 : Int32) : Prop := (iR S x1 3) ∧ (if (giC S (x1.getD 0) 2) = 9 then (iR S x1 3) ∧ (if (giC S (x1.getD 0) 4) = (-1) then (p_Y8_againstAbsent S x0 x2) ∧ (if (f_Y8_againstAbsent S x0 x2) = 0 then (if x2 = (giC S x0 3) then (q_Y8_againstAppeal_45 S x0 x1 x2 (f_Y8_againstAbsent S x0 x2) 2) else (q_Y8_againstAppeal_45 S x0 x1 x2 (f_Y8_againstAbsent S x0 x2) 0)) else True) else (q_Y8_againstAppeal_17 S x0 x1 x2)) else (q_Y8_againstAppeal_17 S x0 x1 x2))
def e_Y8_againstAppeal : List Cond := [.fieldLink RX8 128 "MotionFloor$Motion" "kind" "I", .fieldLink RX8 138 "MotionFloor$Motion" "seconder" "I", .methodLink RX8 42 yX8_againstAbsent, .static yX8_againstAbsent, .initialized RX8, .fieldLink RX8 79 "MotionFloor$House" "chair" "I"]
def v_Y8_againstAppeal : List Cond := .code yX8_againstAppeal cX8_againstAppeal 4 (some .int) :: (e_Y8_againstAppeal ++ (wsX40 ++ (wsX20 ++ (v_Y8_againstAbsent ++ []))))
theorem te_Y8_againstAppeal : GoodIn lw_tbl e_Y8_againstAppeal := wGc zc155 (wGc zc156 (wGc zc159 (wGc zc158 (wGc zc157 (wGc zc153 (wG0))))))
theorem t_Y8_againstAppeal : GoodIn lw_tbl v_Y8_againstAppeal := wGc zc166 (wGa te_Y8_againstAppeal (wGa zcX4 (wGa zcX2 (wGa t_Y8_againstAbsent (wG0)))))
set_option maxHeartbeats 4000000 in
set_option maxRecDepth 100000 in
theorem c_Y8_againstAppeal (l : Launch) (G : va_G) (K : Nat → ClassId) (ad : Nat → Nat) (S : Cst) (x0 : Nat) (a1 : Option Nat) (a2 : Int32) (sz : Nat) : Met l yX8_againstAppeal v_Y8_againstAppeal ({ frames := 2, cells := 0, slots := 0, locals := 42 }) (va_Pc [.ref (ad x0), va_re ad a1, .int a2] (cSt G K ad sz S (iK S x0 1 ∧ p_Y8_againstAppeal S x0 a1 a2))) (va_Qi (fun (r : Int32) (u : Cst) => (r, u) = (f_Y8_againstAppeal S x0 a1 a2, S)) (cBt G K ad (va_A (wsC K ad S) sz)) (va_A (wsC K ad S) sz)) 0 0 (va_A (wsC K ad S) sz) := by
  refine Met.ofW (cc := cX8_againstAppeal) (maxL := 4) (ret := (some .int)) (by decide) rfl ?_
  intro p e s m args below meth c s₁ B hml hv
  obtain ⟨rfl, ⟨hsz, hP, hK, hD0, hTE⟩, hp⟩ := hv
  obtain ⟨k_x0, hp⟩ := hp
  have hx := B.exec
  have hb := B.bytes
  have hr := B.returns
  have hts := atoms_spec (ws := v_Y8_againstAppeal) B.pre
  have t_ := t_Y8_againstAppeal
  have mw : ∀ w ∈ e_Y8_againstAppeal, w ∈ v_Y8_againstAppeal := fun w h => List.mem_cons_of_mem _ (List.mem_append_left _ h)
  have hw := fun w (h : w ∈ e_Y8_againstAppeal) => hts w (mw w h)
  have iX4 : ∀ w ∈ wsX40, w ∈ v_Y8_againstAppeal := fun w h => List.mem_cons_of_mem _ (List.mem_append_right _ (List.mem_append_left _ h))
  have iX2 : ∀ w ∈ wsX20, w ∈ v_Y8_againstAppeal := fun w h => List.mem_cons_of_mem _ (List.mem_append_right _ (List.mem_append_right _ (List.mem_append_left _ h)))
  have j_Y8_againstAbsent : ∀ w ∈ v_Y8_againstAbsent, w ∈ v_Y8_againstAppeal := fun w h => List.mem_cons_of_mem _ (List.mem_append_right _ (List.mem_append_right _ (List.mem_append_right _ (List.mem_append_left _ h))))
  have hown : s.vm.findClass RX8 = some m.cls := findClass_of_methodNamed B.named
  have hlocks := B.notSynchronized
  subst hsz
  have hD := hD0.self (sz := s.heap.size)
  generalize hAe : va_A (wsC K ad S) s.heap.size = A at hD ⊢
  have hA : ∀ q : Nat, s.heap.size ≤ q → A q := fun q h => by rw [← hAe]; exact Or.inr h
  have hS : va_S A s.heap s.heap [] := va_S.rf
  have hl : lv_has (lg_sl ([.ref (ad x0), va_re ad a1, .int a2]) ++ List.replicate (4 - (lg_sl ([.ref (ad x0), va_re ad a1, .int a2])).length) Slot.unset).toArray 4 [(0, .ref (ad x0)), (1, va_re ad a1), (2, .int a2)] := by
    cases a1 <;> exact lv_entry _ (n := 4) (Nat.le_of_ble_eq_true rfl)
  rw [lg_entry_eq]
  generalize (lg_sl ([.ref (ad x0), va_re ad a1, .int a2]) ++ List.replicate (4 - (lg_sl ([.ref (ad x0), va_re ad a1, .int a2])).length) Slot.unset).toArray = ls_ at hl ⊢
  refine wGen (fun Q hQ => ?_)
  obtain ⟨X, hX⟩ : ∃ X, f_Y8_againstAppeal S x0 a1 a2 = X := ⟨_, rfl⟩
  have B_Y8_againstAppeal_17 : ∀ (x1 : Option Nat) (x2 : Int32) (H : Heap) (locs : List Loc) (ls_ : Array Slot), b_Y8_againstAppeal_17 S x0 x1 x2 = X → q_Y8_againstAppeal_17 S x0 x1 x2 → va_P G vwCl (wsC K ad S) H → va_D A (wsC K ad S) → va_S A s.heap H locs → lv_has ls_ 4 [(0, .ref (ad x0)), (1, va_re ad x1), (2, .int x2)] → W p l e ({ frames := 2, cells := 0, slots := 0, locals := 42 } : Room) s m #[Value.ref (ad x0), va_re ad a1, Value.int a2] below meth c H locs 0 0 Q (F0 m 17 ls_ []) := by
    intro x1 x2 H locs ls_ hE hp hP hD hS hl
    unfold b_Y8_againstAppeal_17 at hE
    unfold q_Y8_againstAppeal_17 at hp
    refine lv_bipush (v := 11) hx hb dX8_againstAppeal_17 (by decide) ?_
    subst hQ
    exact W.iret (v := (11 : Int32)) hx hb hr (fun t ht hW => ⟨⟨(11 : Int32), S, rfl, (pair_i (hE.trans hX.symm)), by rw [ht]; exact hP, hD⟩, hS.F ht⟩) hS.2.2 dX8_againstAppeal_19
  have B_Y8_againstAppeal_45 : ∀ (x1 : Option Nat) (x2 : Int32) (x3 : Int32) (y0 : Int32) (H : Heap) (locs : List Loc) (ls_ : Array Slot), b_Y8_againstAppeal_45 S x0 x1 x2 x3 y0 = X → q_Y8_againstAppeal_45 S x0 x1 x2 x3 y0 → va_P G vwCl (wsC K ad S) H → va_D A (wsC K ad S) → va_S A s.heap H locs → lv_has ls_ 4 [(0, .ref (ad x0)), (1, va_re ad x1), (2, .int x2), (3, .int x3)] → W p l e ({ frames := 2, cells := 0, slots := 0, locals := 42 } : Room) s m #[Value.ref (ad x0), va_re ad a1, Value.int a2] below meth c H locs 0 0 Q (F0 m 45 ls_ [.int y0]) := by
    intro x1 x2 x3 y0 H locs ls_ hE hp hP hD hS hl
    unfold b_Y8_againstAppeal_45 at hE
    unfold q_Y8_againstAppeal_45 at hp
    subst hQ
    exact W.iret (v := y0) hx hb hr (fun t ht hW => ⟨⟨y0, S, rfl, (pair_i (hE.trans hX.symm)), by rw [ht]; exact hP, hD⟩, hS.F ht⟩) hS.2.2 dX8_againstAppeal_45
  have B_M : ∀ (x1 : Option Nat) (x2 : Int32) (H : Heap) (locs : List Loc) (ls_ : Array Slot), f_Y8_againstAppeal S x0 x1 x2 = X → p_Y8_againstAppeal S x0 x1 x2 → va_P G vwCl (wsC K ad S) H → va_D A (wsC K ad S) → va_S A s.heap H locs → lv_has ls_ 4 [(0, .ref (ad x0)), (1, va_re ad x1), (2, .int x2)] → W p l e ({ frames := 2, cells := 0, slots := 0, locals := 42 } : Room) s m #[Value.ref (ad x0), va_re ad a1, Value.int a2] below meth c H locs 0 0 Q (F0 m 0 ls_ []) := by
    intro x1 x2 H locs ls_ hE hp hP hD hS hl
    unfold f_Y8_againstAppeal at hE
    unfold p_Y8_againstAppeal at hp
    refine cAload_n (ad := ad) (r := x1) hx hb dX8_againstAppeal_0 rfl (lv_at hl 1 rfl) ?_
    obtain ⟨hy1, hp⟩ := hp
    refine cTop (r := x1) hy1.1 ?_
    refine va_get (D := G) (ci := 3) (v := .int (giC S (x1.getD 0) 2)) (C := RX4) (T := TX4) (N := 16) hx hb hts iX4 hown hK hP (x1.getD 0) (at_3 hy1.2) rfl 2 (by decide) (hw (.fieldLink RX8 128 "MotionFloor$Motion" "kind" "I") (List.mem_of_getElem? (i := 0) rfl)) (fun _ h9 => h9) rfl dX8_againstAppeal_1 ?_
    refine lv_bipush (v := 9) hx hb dX8_againstAppeal_4 (by decide) ?_
    refine lv_icmp_ne (tgt := 17) hx hb dX8_againstAppeal_6 (by decide) (fun c2 => ?_) (fun c2 => ?_)
    · rw [if_neg c2] at hE hp
      exact B_Y8_againstAppeal_17 x1 x2 _ _ _ hE hp hP hD hS (lv_sub hl [0, 1, 2] rfl)
    · rw [if_pos c2] at hE hp
      refine cAload_n (ad := ad) (r := x1) hx hb dX8_againstAppeal_9 rfl (lv_at hl 1 rfl) ?_
      obtain ⟨hy3, hp⟩ := hp
      refine cTop (r := x1) hy3.1 ?_
      refine va_get (D := G) (ci := 3) (v := .int (giC S (x1.getD 0) 4)) (C := RX4) (T := TX4) (N := 16) hx hb hts iX4 hown hK hP (x1.getD 0) (at_3 hy3.2) rfl 4 (by decide) (hw (.fieldLink RX8 138 "MotionFloor$Motion" "seconder" "I") (List.mem_of_getElem? (i := 1) rfl)) (fun _ h9 => h9) rfl dX8_againstAppeal_10 ?_
      refine lv_iconst (v := (-1)) hx hb dX8_againstAppeal_13 (by decide) ?_
      refine lv_icmp_eq (tgt := 20) hx hb dX8_againstAppeal_14 (by decide) (fun c4 => ?_) (fun c4 => ?_)
      · rw [if_pos c4] at hE hp
        refine lv_aload_n hx hb dX8_againstAppeal_20 rfl (lv_at hl 0 rfl) ?_
        refine lv_iload_n hx hb dX8_againstAppeal_21 rfl (lv_at hl 2 rfl) ?_
        obtain ⟨hy5, hp⟩ := hp
        refine cGoi (va_runS (As := [.ref (ad x0), .int x2]) (rest := []) ⟨hx, hb, hml, hown, hts⟩ (c_Y8_againstAbsent l G K ad S x0 x2 _) (va_cwS 2 hts (wGS t_ (mw (.methodLink RX8 42 yX8_againstAbsent) (List.mem_of_getElem? (i := 2) rfl)) (mw (.static yX8_againstAbsent) (List.mem_of_getElem? (i := 3) rfl)) (mw (.initialized RX8) (List.mem_of_getElem? (i := 4) rfl)) j_Y8_againstAbsent) rfl rfl rfl (by decide +kernel) ⟨Nat.le_of_ble_eq_true rfl, Nat.le_of_ble_eq_true rfl⟩) (cPS hK hTE hP hD ⟨k_x0, hy5⟩) rfl rfl hl.1 rfl (lv_room (Nat.le_of_ble_eq_true rfl)) dX8_againstAppeal_22 ⟨Nat.le_of_ble_eq_true rfl, Nat.le_of_ble_eq_true rfl⟩) hP hD hS hA (fun r7 u6 H locs hv hP hD hS => ?_)
        have h1 := congrArg Prod.fst hv
        have h2 := (congrArg Prod.snd hv).symm
        dsimp only at h1 h2
        subst h1
        subst h2
        refine lv_istore_n (i := 3) (lv' := [(3, .int (f_Y8_againstAbsent S x0 x2)), (0, .ref (ad x0)), (1, va_re ad x1), (2, .int x2)]) hx hb dX8_againstAppeal_25 rfl hl (by decide) rfl (fun ls_ hl => ?_)
        refine lv_iload_n hx hb dX8_againstAppeal_26 rfl (lv_at hl 0 rfl) ?_
        refine lv_if_eq (tgt := 32) hx hb dX8_againstAppeal_27 (by decide) (fun c8 => ?_) (fun c8 => ?_)
        · rw [if_pos c8] at hE hp
          refine lv_iload_n hx hb dX8_againstAppeal_32 rfl (lv_at hl 3 rfl) ?_
          refine lv_aload_n hx hb dX8_againstAppeal_33 rfl (lv_at hl 1 rfl) ?_
          refine va_get (D := G) (ci := 1) (v := .int (giC S x0 3)) (C := RX2) (T := TX2) (N := 8) hx hb hts iX2 hown hK hP x0 (at_1 k_x0) rfl 3 (by decide) (hw (.fieldLink RX8 79 "MotionFloor$House" "chair" "I") (List.mem_of_getElem? (i := 5) rfl)) (fun _ h9 => h9) rfl dX8_againstAppeal_34 ?_
          refine lv_icmp_ne (tgt := 44) hx hb dX8_againstAppeal_37 (by decide) (fun c9 => ?_) (fun c9 => ?_)
          · rw [if_neg c9] at hE hp
            refine lv_iconst (v := 0) hx hb dX8_againstAppeal_44 (by decide) ?_
            exact B_Y8_againstAppeal_45 x1 x2 (f_Y8_againstAbsent S x0 x2) 0 _ _ _ hE hp hP hD hS (lv_sub hl [1, 2, 3, 0] rfl)
          · rw [if_pos c9] at hE hp
            refine lv_iconst (v := 2) hx hb dX8_againstAppeal_40 (by decide) ?_
            refine lv_goto (tgt := 45) hx hb dX8_againstAppeal_41 (by decide) ?_
            exact B_Y8_againstAppeal_45 x1 x2 (f_Y8_againstAbsent S x0 x2) 2 _ _ _ hE hp hP hD hS (lv_sub hl [1, 2, 3, 0] rfl)
        · rw [if_neg c8] at hE hp
          refine lv_iload_n hx hb dX8_againstAppeal_30 rfl (lv_at hl 0 rfl) ?_
          subst hQ
          exact W.iret (v := (f_Y8_againstAbsent S x0 x2)) hx hb hr (fun t ht hW => ⟨⟨(f_Y8_againstAbsent S x0 x2), S, rfl, (pair_i (hE.trans hX.symm)), by rw [ht]; exact hP, hD⟩, hS.F ht⟩) hS.2.2 dX8_againstAppeal_31
      · rw [if_neg c4] at hE hp
        exact B_Y8_againstAppeal_17 x1 x2 _ _ _ hE hp hP hD hS (lv_sub hl [0, 1, 2] rfl)
  exact B_M a1 a2 _ _ _ hX hp hP hD hS hl
theorem dX4_amends_0 : decode cX4_amends 0 = .ok (.aload_n 0, 1) := by decide +kernel
theorem dX4_amends_1 : decode cX4_amends 1 = .ok (.getfield 36, 3) := by decide +kernel
theorem dX4_amends_4 : decode cX4_amends 4 = .ok (.iconst 2, 1) := by decide +kernel
theorem dX4_amends_5 : decode cX4_amends 5 = .ok (.if_icmp .eq 11, 3) := by decide +kernel
theorem dX4_amends_8 : decode cX4_amends 8 = .ok (.aload_n 0, 1) := by decide +kernel
theorem dX4_amends_9 : decode cX4_amends 9 = .ok (.getfield 36, 3) := by decide +kernel
theorem dX4_amends_12 : decode cX4_amends 12 = .ok (.iconst 3, 1) := by decide +kernel
theorem dX4_amends_13 : decode cX4_amends 13 = .ok (.if_icmp .ne 7, 3) := by decide +kernel
theorem dX4_amends_16 : decode cX4_amends 16 = .ok (.iconst 1, 1) := by decide +kernel
theorem dX4_amends_17 : decode cX4_amends 17 = .ok (.goto 4, 3) := by decide +kernel
theorem dX4_amends_20 : decode cX4_amends 20 = .ok (.iconst 0, 1) := by decide +kernel
theorem dX4_amends_21 : decode cX4_amends 21 = .ok (.ireturn, 1) := by decide +kernel
theorem dX8_againstMove_0 : decode cX8_againstMove 0 = .ok (.aload_n 0, 1) := by decide +kernel
theorem dX8_againstMove_1 : decode cX8_againstMove 1 = .ok (.getfield 141, 3) := by decide +kernel
theorem dX8_againstMove_4 : decode cX8_againstMove 4 = .ok (.invokevirtual 170, 3) := by decide +kernel
theorem dX8_againstMove_7 : decode cX8_againstMove 7 = .ok (.ifCond .eq 6, 3) := by decide +kernel
theorem dX8_againstMove_13 : decode cX8_againstMove 13 = .ok (.aload_n 0, 1) := by decide +kernel
theorem dX8_againstMove_14 : decode cX8_againstMove 14 = .ok (.getfield 141, 3) := by decide +kernel
theorem dX8_againstMove_17 : decode cX8_againstMove 17 = .ok (.invokevirtual 145, 3) := by decide +kernel
theorem dX8_againstMove_20 : decode cX8_againstMove 20 = .ok (.astore_n 2, 1) := by decide +kernel
theorem dX8_againstMove_21 : decode cX8_againstMove 21 = .ok (.aload_n 0, 1) := by decide +kernel
theorem dX8_againstMove_22 : decode cX8_againstMove 22 = .ok (.getfield 86, 3) := by decide +kernel
theorem dX8_againstMove_25 : decode cX8_againstMove 25 = .ok (.invokevirtual 90, 3) := by decide +kernel
theorem dX8_againstMove_28 : decode cX8_againstMove 28 = .ok (.astore_n 3, 1) := by decide +kernel
theorem dX8_againstMove_29 : decode cX8_againstMove 29 = .ok (.aload_n 0, 1) := by decide +kernel
theorem dX8_againstMove_30 : decode cX8_againstMove 30 = .ok (.getfield 86, 3) := by decide +kernel
theorem dX8_againstMove_33 : decode cX8_againstMove 33 = .ok (.aload_n 2, 1) := by decide +kernel
theorem dX8_againstMove_34 : decode cX8_againstMove 34 = .ok (.aload_n 3, 1) := by decide +kernel
theorem dX8_againstMove_35 : decode cX8_againstMove 35 = .ok (.invokestatic 187, 3) := by decide +kernel
theorem dX8_againstOnMotion_6 : decode cX8_againstOnMotion 6 = .ok (.aload_n 0, 1) := by decide +kernel
theorem dX8_againstOnMotion_7 : decode cX8_againstOnMotion 7 = .ok (.iload_n 2, 1) := by decide +kernel
theorem dX8_againstOnMotion_8 : decode cX8_againstOnMotion 8 = .ok (.invokestatic 76, 3) := by decide +kernel
theorem dX8_againstOnMotion_34 : decode cX8_againstOnMotion 34 = .ok (.iload 4, 2) := by decide +kernel
theorem dX8_againstOnMotion_36 : decode cX8_againstOnMotion 36 = .ok (.ifCond .eq 7, 3) := by decide +kernel
theorem dX8_againstOnMotion_39 : decode cX8_againstOnMotion 39 = .ok (.iconst 0, 1) := by decide +kernel
theorem dX8_againstOnMotion_40 : decode cX8_againstOnMotion 40 = .ok (.goto 5, 3) := by decide +kernel
theorem dX8_againstOnMotion_43 : decode cX8_againstOnMotion 43 = .ok (.bipush 8, 2) := by decide +kernel
theorem dX8_againstOnMotion_45 : decode cX8_againstOnMotion 45 = .ok (.ireturn, 1) := by decide +kernel
theorem dX8_againstOnMotion_52 : decode cX8_againstOnMotion 52 = .ok (.iload_n 1, 1) := by decide +kernel
theorem dX8_againstOnMotion_53 : decode cX8_againstOnMotion 53 = .ok (.bipush 21, 2) := by decide +kernel
theorem dX8_againstOnMotion_55 : decode cX8_againstOnMotion 55 = .ok (.if_icmp .ne 11, 3) := by decide +kernel
theorem dX8_againstOnMotion_63 : decode cX8_againstOnMotion 63 = .ok (.bipush 8, 2) := by decide +kernel
theorem dX8_againstOnMotion_65 : decode cX8_againstOnMotion 65 = .ok (.ireturn, 1) := by decide +kernel
theorem dX8_againstOnMotion_175 : decode cX8_againstOnMotion 175 = .ok (.ireturn, 1) := by decide +kernel
theorem dX8_againstOnMotion_176 : decode cX8_againstOnMotion 176 = .ok (.iconst 0, 1) := by decide +kernel
theorem dX8_againstOnMotion_177 : decode cX8_againstOnMotion 177 = .ok (.ireturn, 1) := by decide +kernel
theorem dX8_againstOnMotion_178 : decode cX8_againstOnMotion 178 = .ok (.bipush 11, 2) := by decide +kernel
theorem dX8_againstOnMotion_180 : decode cX8_againstOnMotion 180 = .ok (.ireturn, 1) := by decide +kernel
theorem dX8_isOutOfRank_0 : decode cX8_isOutOfRank 0 = .ok (.aload_n 1, 1) := by decide +kernel
theorem dX8_isOutOfRank_1 : decode cX8_isOutOfRank 1 = .ok (.ifnull 11, 3) := by decide +kernel
theorem dX8_isOutOfRank_4 : decode cX8_isOutOfRank 4 = .ok (.aload_n 1, 1) := by decide +kernel
theorem dX8_isOutOfRank_5 : decode cX8_isOutOfRank 5 = .ok (.getfield 128, 3) := by decide +kernel
theorem dX8_isOutOfRank_8 : decode cX8_isOutOfRank 8 = .ok (.iconst 1, 1) := by decide +kernel
theorem dX8_isOutOfRank_9 : decode cX8_isOutOfRank 9 = .ok (.if_icmp .ne 13, 3) := by decide +kernel
theorem dX8_isOutOfRank_12 : decode cX8_isOutOfRank 12 = .ok (.aload_n 2, 1) := by decide +kernel
theorem dX8_isOutOfRank_13 : decode cX8_isOutOfRank 13 = .ok (.ifnull 7, 3) := by decide +kernel
theorem dX8_isOutOfRank_16 : decode cX8_isOutOfRank 16 = .ok (.iconst 1, 1) := by decide +kernel
theorem dX8_isOutOfRank_17 : decode cX8_isOutOfRank 17 = .ok (.goto 4, 3) := by decide +kernel
theorem dX8_isOutOfRank_20 : decode cX8_isOutOfRank 20 = .ok (.iconst 0, 1) := by decide +kernel
theorem dX8_isOutOfRank_21 : decode cX8_isOutOfRank 21 = .ok (.ireturn, 1) := by decide +kernel
theorem dX8_isOutOfRank_22 : decode cX8_isOutOfRank 22 = .ok (.aload_n 1, 1) := by decide +kernel
theorem dX8_isOutOfRank_23 : decode cX8_isOutOfRank 23 = .ok (.invokevirtual 150, 3) := by decide +kernel
set_option maxRecDepth 100000 in
theorem zc167 : wZ (.fieldLink RX4 36 "MotionFloor$Motion" "kind" "I") := ⟨wT3 (List.mem_of_getElem? (i := 15) (by decide +kernel)), Or.inl rfl⟩
set_option maxRecDepth 100000 in
theorem zc168 : wZ (.code yX4_amends cX4_amends 1 (some .boolean)) := ⟨wT2 (List.mem_of_getElem? (i := 104) rfl), Or.inl rfl⟩
def b_Y4_amends_21 (S : Cst) (x0 : Nat) (y0 : Int32) : Int32 := y0
def q_Y4_amends_21 (S : Cst) (x0 : Nat) (y0 : Int32) : Prop := (narrow .boolean (.int y0) = .int y0) ∧ True
def b_Y4_amends_16 (S : Cst) (x0 : Nat)  : Int32 := (b_Y4_amends_21 S x0 1)
def q_Y4_amends_16 (S : Cst) (x0 : Nat)  : Prop := (q_Y4_amends_21 S x0 1)
def f_Y4_amends (S : Cst) (x0 : Nat) : Int32 := if (giC S x0 2) = 2 then (b_Y4_amends_16 S x0) else if (giC S x0 2) = 3 then (b_Y4_amends_16 S x0) else (b_Y4_amends_21 S x0 0)
def p_Y4_amends (S : Cst) (x0 : Nat) : Prop := (if (giC S x0 2) = 2 then (q_Y4_amends_16 S x0) else (if (giC S x0 2) = 3 then (q_Y4_amends_16 S x0) else (q_Y4_amends_21 S x0 0)))
def e_Y4_amends : List Cond := [.fieldLink RX4 36 "MotionFloor$Motion" "kind" "I"]
def v_Y4_amends : List Cond := .code yX4_amends cX4_amends 1 (some .boolean) :: (e_Y4_amends ++ (wsX40 ++ []))
theorem te_Y4_amends : GoodIn lw_tbl e_Y4_amends := wGc zc167 (wG0)
theorem t_Y4_amends : GoodIn lw_tbl v_Y4_amends := wGc zc168 (wGa te_Y4_amends (wGa zcX4 (wG0)))
set_option maxHeartbeats 4000000 in
set_option maxRecDepth 100000 in
theorem c_Y4_amends (l : Launch) (G : va_G) (K : Nat → ClassId) (ad : Nat → Nat) (S : Cst) (x0 : Nat)  (sz : Nat) : Met l yX4_amends v_Y4_amends ({ frames := 0, cells := 0, slots := 0, locals := 0 }) (va_Pc [.ref (ad x0)] (cSt G K ad sz S (iK S x0 3 ∧ p_Y4_amends S x0))) (va_Qi (fun (r : Int32) (u : Cst) => (r, u) = (f_Y4_amends S x0, S)) (cBt G K ad (va_A (wsC K ad S) sz)) (va_A (wsC K ad S) sz)) 0 0 (va_A (wsC K ad S) sz) := by
  refine Met.ofW (cc := cX4_amends) (maxL := 1) (ret := (some .boolean)) (by decide) rfl ?_
  intro p e s m args below meth c s₁ B hml hv
  obtain ⟨rfl, ⟨hsz, hP, hK, hD0, hTE⟩, hp⟩ := hv
  obtain ⟨k_x0, hp⟩ := hp
  have hx := B.exec
  have hb := B.bytes
  have hr := B.returns
  have hts := atoms_spec (ws := v_Y4_amends) B.pre
  have t_ := t_Y4_amends
  have mw : ∀ w ∈ e_Y4_amends, w ∈ v_Y4_amends := fun w h => List.mem_cons_of_mem _ (List.mem_append_left _ h)
  have hw := fun w (h : w ∈ e_Y4_amends) => hts w (mw w h)
  have iX4 : ∀ w ∈ wsX40, w ∈ v_Y4_amends := fun w h => List.mem_cons_of_mem _ (List.mem_append_right _ (List.mem_append_left _ h))
  have hown : s.vm.findClass RX4 = some m.cls := findClass_of_methodNamed B.named
  have hlocks := B.notSynchronized
  subst hsz
  have hD := hD0.self (sz := s.heap.size)
  generalize hAe : va_A (wsC K ad S) s.heap.size = A at hD ⊢
  have hA : ∀ q : Nat, s.heap.size ≤ q → A q := fun q h => by rw [← hAe]; exact Or.inr h
  have hS : va_S A s.heap s.heap [] := va_S.rf
  have hl : lv_has (lg_sl ([.ref (ad x0)]) ++ List.replicate (1 - (lg_sl ([.ref (ad x0)])).length) Slot.unset).toArray 1 [(0, .ref (ad x0))] := by
    exact lv_entry ([.ref (ad x0)]) (n := 1) (Nat.le_of_ble_eq_true rfl)
  rw [lg_entry_eq]
  generalize (lg_sl ([.ref (ad x0)]) ++ List.replicate (1 - (lg_sl ([.ref (ad x0)])).length) Slot.unset).toArray = ls_ at hl ⊢
  refine wGen (fun Q hQ => ?_)
  obtain ⟨X, hX⟩ : ∃ X, f_Y4_amends S x0 = X := ⟨_, rfl⟩
  have B_Y4_amends_21 : ∀ (y0 : Int32) (H : Heap) (locs : List Loc) (ls_ : Array Slot), b_Y4_amends_21 S x0 y0 = X → q_Y4_amends_21 S x0 y0 → va_P G vwCl (wsC K ad S) H → va_D A (wsC K ad S) → va_S A s.heap H locs → lv_has ls_ 1 [(0, .ref (ad x0))] → W p l e ({ frames := 0, cells := 0, slots := 0, locals := 0 } : Room) s m #[Value.ref (ad x0)] below meth c H locs 0 0 Q (F0 m 21 ls_ [.int y0]) := by
    intro y0 H locs ls_ hE hp hP hD hS hl
    unfold b_Y4_amends_21 at hE
    unfold q_Y4_amends_21 at hp
    obtain ⟨hy2, hp⟩ := hp
    subst hQ
    exact W.zret (v := y0) (ty := .boolean) hx hb hr hy2 (fun t ht hW => ⟨⟨y0, S, rfl, (pair_i (hE.trans hX.symm)), by rw [ht]; exact hP, hD⟩, hS.F ht⟩) hS.2.2 dX4_amends_21
  have B_Y4_amends_16 : ∀  (H : Heap) (locs : List Loc) (ls_ : Array Slot), b_Y4_amends_16 S x0 = X → q_Y4_amends_16 S x0 → va_P G vwCl (wsC K ad S) H → va_D A (wsC K ad S) → va_S A s.heap H locs → lv_has ls_ 1 [(0, .ref (ad x0))] → W p l e ({ frames := 0, cells := 0, slots := 0, locals := 0 } : Room) s m #[Value.ref (ad x0)] below meth c H locs 0 0 Q (F0 m 16 ls_ []) := by
    intro  H locs ls_ hE hp hP hD hS hl
    unfold b_Y4_amends_16 at hE
    unfold q_Y4_amends_16 at hp
    refine lv_iconst (v := 1) hx hb dX4_amends_16 (by decide) ?_
    refine lv_goto (tgt := 21) hx hb dX4_amends_17 (by decide) ?_
    exact B_Y4_amends_21 1 _ _ _ hE hp hP hD hS (lv_sub hl [0] rfl)
  have B_M : ∀ (H : Heap) (locs : List Loc) (ls_ : Array Slot), f_Y4_amends S x0 = X → p_Y4_amends S x0 → va_P G vwCl (wsC K ad S) H → va_D A (wsC K ad S) → va_S A s.heap H locs → lv_has ls_ 1 [(0, .ref (ad x0))] → W p l e ({ frames := 0, cells := 0, slots := 0, locals := 0 } : Room) s m #[Value.ref (ad x0)] below meth c H locs 0 0 Q (F0 m 0 ls_ []) := by
    intro  H locs ls_ hE hp hP hD hS hl
    unfold f_Y4_amends at hE
    unfold p_Y4_amends at hp
    refine lv_aload_n hx hb dX4_amends_0 rfl (lv_at hl 0 rfl) ?_
    refine va_get (D := G) (ci := 3) (v := .int (giC S x0 2)) (C := RX4) (T := TX4) (N := 16) hx hb hts iX4 hown hK hP x0 (at_3 k_x0) rfl 2 (by decide) (hw (.fieldLink RX4 36 "MotionFloor$Motion" "kind" "I") (List.mem_of_getElem? (i := 0) rfl)) (fun _ h9 => h9) rfl dX4_amends_1 ?_
    refine lv_iconst (v := 2) hx hb dX4_amends_4 (by decide) ?_
    refine lv_icmp_eq (tgt := 16) hx hb dX4_amends_5 (by decide) (fun c1 => ?_) (fun c1 => ?_)
    · rw [if_pos c1] at hE hp
      exact B_Y4_amends_16  _ _ _ hE hp hP hD hS (lv_sub hl [0] rfl)
    · rw [if_neg c1] at hE hp
      refine lv_aload_n hx hb dX4_amends_8 rfl (lv_at hl 0 rfl) ?_
      refine va_get (D := G) (ci := 3) (v := .int (giC S x0 2)) (C := RX4) (T := TX4) (N := 16) hx hb hts iX4 hown hK hP x0 (at_3 k_x0) rfl 2 (by decide) (hw (.fieldLink RX4 36 "MotionFloor$Motion" "kind" "I") (List.mem_of_getElem? (i := 0) rfl)) (fun _ h9 => h9) rfl dX4_amends_9 ?_
      refine lv_iconst (v := 3) hx hb dX4_amends_12 (by decide) ?_
      refine lv_icmp_ne (tgt := 20) hx hb dX4_amends_13 (by decide) (fun c3 => ?_) (fun c3 => ?_)
      · rw [if_neg c3] at hE hp
        refine lv_iconst (v := 0) hx hb dX4_amends_20 (by decide) ?_
        exact B_Y4_amends_21 0 _ _ _ hE hp hP hD hS (lv_sub hl [0] rfl)
      · rw [if_pos c3] at hE hp
        exact B_Y4_amends_16  _ _ _ hE hp hP hD hS (lv_sub hl [0] rfl)
  exact B_M  _ _ _ hX hp hP hD hS hl
theorem dX5_highestRank_0 : decode cX5_highestRank 0 = .ok (.iconst 0, 1) := by decide +kernel
theorem dX5_highestRank_1 : decode cX5_highestRank 1 = .ok (.istore_n 1, 1) := by decide +kernel
theorem dX5_highestRank_2 : decode cX5_highestRank 2 = .ok (.iconst 0, 1) := by decide +kernel
theorem dX5_highestRank_3 : decode cX5_highestRank 3 = .ok (.istore_n 2, 1) := by decide +kernel
theorem dX5_highestRank_4 : decode cX5_highestRank 4 = .ok (.iload_n 2, 1) := by decide +kernel
theorem dX5_highestRank_5 : decode cX5_highestRank 5 = .ok (.aload_n 0, 1) := by decide +kernel
theorem dX5_highestRank_6 : decode cX5_highestRank 6 = .ok (.getfield 17, 3) := by decide +kernel
theorem dX5_highestRank_9 : decode cX5_highestRank 9 = .ok (.if_icmp .ge 28, 3) := by decide +kernel
theorem dX5_highestRank_12 : decode cX5_highestRank 12 = .ok (.aload_n 0, 1) := by decide +kernel
theorem dX5_highestRank_13 : decode cX5_highestRank 13 = .ok (.iload_n 2, 1) := by decide +kernel
theorem dX5_highestRank_14 : decode cX5_highestRank 14 = .ok (.invokevirtual 21, 3) := by decide +kernel
theorem dX5_highestRank_17 : decode cX5_highestRank 17 = .ok (.astore_n 3, 1) := by decide +kernel
theorem dX5_highestRank_18 : decode cX5_highestRank 18 = .ok (.aload_n 3, 1) := by decide +kernel
theorem dX5_highestRank_19 : decode cX5_highestRank 19 = .ok (.ifnull 12, 3) := by decide +kernel
theorem dX5_highestRank_22 : decode cX5_highestRank 22 = .ok (.iload_n 1, 1) := by decide +kernel
theorem dX5_highestRank_23 : decode cX5_highestRank 23 = .ok (.aload_n 3, 1) := by decide +kernel
theorem dX5_highestRank_24 : decode cX5_highestRank 24 = .ok (.getfield 29, 3) := by decide +kernel
theorem dX5_highestRank_27 : decode cX5_highestRank 27 = .ok (.invokestatic 32, 3) := by decide +kernel
theorem dX5_highestRank_30 : decode cX5_highestRank 30 = .ok (.istore_n 1, 1) := by decide +kernel
theorem dX5_highestRank_31 : decode cX5_highestRank 31 = .ok (.iinc 2 1, 3) := by decide +kernel
theorem dX5_highestRank_34 : decode cX5_highestRank 34 = .ok (.goto (-30), 3) := by decide +kernel
theorem dX5_highestRank_37 : decode cX5_highestRank 37 = .ok (.iload_n 1, 1) := by decide +kernel
theorem dX5_highestRank_38 : decode cX5_highestRank 38 = .ok (.ireturn, 1) := by decide +kernel
theorem dX8_isOutOfRank_26 : decode cX8_isOutOfRank 26 = .ok (.ifCond .eq 17, 3) := by decide +kernel
theorem dX8_isOutOfRank_43 : decode cX8_isOutOfRank 43 = .ok (.aload_n 2, 1) := by decide +kernel
theorem dX8_isOutOfRank_44 : decode cX8_isOutOfRank 44 = .ok (.ifnull 14, 3) := by decide +kernel
theorem dX8_isOutOfRank_47 : decode cX8_isOutOfRank 47 = .ok (.aload_n 0, 1) := by decide +kernel
theorem dX8_isOutOfRank_48 : decode cX8_isOutOfRank 48 = .ok (.invokevirtual 202, 3) := by decide +kernel
theorem dX8_isOutOfRank_58 : decode cX8_isOutOfRank 58 = .ok (.iconst 1, 1) := by decide +kernel
theorem dX8_isOutOfRank_59 : decode cX8_isOutOfRank 59 = .ok (.goto 4, 3) := by decide +kernel
theorem dX8_isOutOfRank_63 : decode cX8_isOutOfRank 63 = .ok (.ireturn, 1) := by decide +kernel
set_option maxRecDepth 100000 in
theorem zc169 : wZ (.code Lib.Math.max.name Lib.Math.max.code 2 (some .int)) := ⟨wT1 (List.mem_of_getElem? (i := 129) rfl), Or.inl rfl⟩
set_option maxRecDepth 100000 in
theorem zc170 : wZ (.initialized "java/lang/Math") := ⟨wT1 (List.mem_of_getElem? (i := 7) (by decide +kernel)), Or.inl rfl⟩
set_option maxRecDepth 100000 in
theorem zc171 : wZ (.static Lib.Math.max.name) := ⟨wT1 (List.mem_of_getElem? (i := 128) (by decide +kernel)), Or.inl rfl⟩
set_option maxRecDepth 100000 in
theorem zc172 : wZ (.methodLink RX5 32 Lib.Math.max.name) := ⟨wT2 (List.mem_of_getElem? (i := 155) (by decide +kernel)), Or.inl rfl⟩
set_option maxRecDepth 100000 in
theorem zc173 : wZ (.fieldLink RX5 29 "MotionFloor$Motion" "kind" "I") := ⟨wT3 (List.mem_of_getElem? (i := 18) (by decide +kernel)), Or.inl rfl⟩
set_option maxRecDepth 100000 in
theorem zc174 : wZ (.code yX5_highestRank cX5_highestRank 4 (some .int)) := ⟨wT2 (List.mem_of_getElem? (i := 154) rfl), Or.inl rfl⟩
def b_Y5_highestRank_31 (S : Cst) (x0 : Nat) (x1 : Int32) (x2 : Int32) (x3 : Option Nat) : (Int32) ⊕ (Int32 × Int32) := Sum.inr (x1, (x2 + 1))
def q_Y5_highestRank_31 (S : Cst) (x0 : Nat) (x1 : Int32) (x2 : Int32) (x3 : Option Nat) : Prop := True
def st_Y5_highestRank_4 (S : Cst) (x0 : Nat) (x1 : Int32) (x2 : Int32) : (Int32) ⊕ (Int32 × Int32) := if (giC S x0 1) ≤ x2 then Sum.inl (x1) else if (f_Y5_at S x0 x2) = none then (b_Y5_highestRank_31 S x0 x1 x2 (f_Y5_at S x0 x2)) else (b_Y5_highestRank_31 S x0 (if x1 < (giC S ((f_Y5_at S x0 x2).getD 0) 2) then (giC S ((f_Y5_at S x0 x2).getD 0) 2) else x1) x2 (f_Y5_at S x0 x2))
def ps_Y5_highestRank_4 (S : Cst) (x0 : Nat) (x1 : Int32) (x2 : Int32) : Prop := (if (giC S x0 1) ≤ x2 then True else (p_Y5_at S x0 x2) ∧ (if (f_Y5_at S x0 x2) = none then (q_Y5_highestRank_31 S x0 x1 x2 (f_Y5_at S x0 x2)) else (iR S (f_Y5_at S x0 x2) 3) ∧ (q_Y5_highestRank_31 S x0 (if x1 < (giC S ((f_Y5_at S x0 x2).getD 0) 2) then (giC S ((f_Y5_at S x0 x2).getD 0) 2) else x1) x2 (f_Y5_at S x0 x2))))
def lp_Y5_highestRank_4 (S : Cst) (x0 : Nat) : Nat → Int32 → Int32 → Int32
  | 0, _, _ => 0
  | n + 1, x1, x2 => match st_Y5_highestRank_4 S x0 x1 x2 with
    | Sum.inl r => r
    | Sum.inr q => lp_Y5_highestRank_4 S x0 n q.1 q.2
def lq_Y5_highestRank_4 (S : Cst) (x0 : Nat) : Nat → Int32 → Int32 → Prop
  | 0, _, _ => False
  | n + 1, x1, x2 => ps_Y5_highestRank_4 S x0 x1 x2 ∧ (match st_Y5_highestRank_4 S x0 x1 x2 with
    | Sum.inl _ => True
    | Sum.inr q => lq_Y5_highestRank_4 S x0 n q.1 q.2)
def f_Y5_highestRank (S : Cst) (x0 : Nat) : Int32 := (lp_Y5_highestRank_4 S x0 100000 0 0)
def p_Y5_highestRank (S : Cst) (x0 : Nat) : Prop := (lq_Y5_highestRank_4 S x0 100000 0 0)
def e_Y5_highestRank : List Cond := [.fieldLink RX5 17 "MotionFloor$Pile" "size" "I", .methodLink RX5 21 yX5_at, .instanceMethod yX5_at, .selects RX5 yX5_at yX5_at, .initialized RX5, .fieldLink RX5 29 "MotionFloor$Motion" "kind" "I", .methodLink RX5 32 Lib.Math.max.name, .static Lib.Math.max.name, .initialized "java/lang/Math", .code Lib.Math.max.name Lib.Math.max.code 2 (some .int)]
def v_Y5_highestRank : List Cond := .code yX5_highestRank cX5_highestRank 4 (some .int) :: (e_Y5_highestRank ++ (wsX50 ++ (wsX40 ++ (v_Y5_at ++ []))))
theorem te_Y5_highestRank : GoodIn lw_tbl e_Y5_highestRank := wGc zc3 (wGc zc143 (wGc zc128 (wGc zc127 (wGc zc34 (wGc zc173 (wGc zc172 (wGc zc171 (wGc zc170 (wGc zc169 (wG0))))))))))
theorem t_Y5_highestRank : GoodIn lw_tbl v_Y5_highestRank := wGc zc174 (wGa te_Y5_highestRank (wGa zcX5 (wGa zcX4 (wGa t_Y5_at (wG0)))))
set_option maxHeartbeats 4000000 in
set_option maxRecDepth 100000 in
theorem c_Y5_highestRank (l : Launch) (G : va_G) (K : Nat → ClassId) (ad : Nat → Nat) (S : Cst) (x0 : Nat)  (sz : Nat) : Met l yX5_highestRank v_Y5_highestRank ({ frames := 1, cells := 0, slots := 0, locals := 21 }) (va_Pc [.ref (ad x0)] (cSt G K ad sz S (iK S x0 4 ∧ p_Y5_highestRank S x0))) (va_Qi (fun (r : Int32) (u : Cst) => (r, u) = (f_Y5_highestRank S x0, S)) (cBt G K ad (va_A (wsC K ad S) sz)) (va_A (wsC K ad S) sz)) 0 0 (va_A (wsC K ad S) sz) := by
  refine Met.ofW (cc := cX5_highestRank) (maxL := 4) (ret := (some .int)) (by decide) rfl ?_
  intro p e s m args below meth c s₁ B hml hv
  obtain ⟨rfl, ⟨hsz, hP, hK, hD0, hTE⟩, hp⟩ := hv
  obtain ⟨k_x0, hp⟩ := hp
  have hx := B.exec
  have hb := B.bytes
  have hr := B.returns
  have hts := atoms_spec (ws := v_Y5_highestRank) B.pre
  have t_ := t_Y5_highestRank
  have mw : ∀ w ∈ e_Y5_highestRank, w ∈ v_Y5_highestRank := fun w h => List.mem_cons_of_mem _ (List.mem_append_left _ h)
  have hw := fun w (h : w ∈ e_Y5_highestRank) => hts w (mw w h)
  have iX5 : ∀ w ∈ wsX50, w ∈ v_Y5_highestRank := fun w h => List.mem_cons_of_mem _ (List.mem_append_right _ (List.mem_append_left _ h))
  have iX4 : ∀ w ∈ wsX40, w ∈ v_Y5_highestRank := fun w h => List.mem_cons_of_mem _ (List.mem_append_right _ (List.mem_append_right _ (List.mem_append_left _ h)))
  have j_Y5_at : ∀ w ∈ v_Y5_at, w ∈ v_Y5_highestRank := fun w h => List.mem_cons_of_mem _ (List.mem_append_right _ (List.mem_append_right _ (List.mem_append_right _ (List.mem_append_left _ h))))
  have hown : s.vm.findClass RX5 = some m.cls := findClass_of_methodNamed B.named
  have hlocks := B.notSynchronized
  subst hsz
  have hD := hD0.self (sz := s.heap.size)
  generalize hAe : va_A (wsC K ad S) s.heap.size = A at hD ⊢
  have hA : ∀ q : Nat, s.heap.size ≤ q → A q := fun q h => by rw [← hAe]; exact Or.inr h
  have hS : va_S A s.heap s.heap [] := va_S.rf
  have hl : lv_has (lg_sl ([.ref (ad x0)]) ++ List.replicate (4 - (lg_sl ([.ref (ad x0)])).length) Slot.unset).toArray 4 [(0, .ref (ad x0))] := by
    exact lv_entry ([.ref (ad x0)]) (n := 4) (Nat.le_of_ble_eq_true rfl)
  rw [lg_entry_eq]
  generalize (lg_sl ([.ref (ad x0)]) ++ List.replicate (4 - (lg_sl ([.ref (ad x0)])).length) Slot.unset).toArray = ls_ at hl ⊢
  refine wGen (fun Q hQ => ?_)
  obtain ⟨X, hX⟩ : ∃ X, f_Y5_highestRank S x0 = X := ⟨_, rfl⟩
  have L_4 : ∀ (n : Nat) (x1 : Int32) (x2 : Int32) (H : Heap) (locs : List Loc) (ls_ : Array Slot), lp_Y5_highestRank_4 S x0 n x1 x2 = X → lq_Y5_highestRank_4 S x0 n x1 x2 → va_P G vwCl (wsC K ad S) H → va_D A (wsC K ad S) → va_S A s.heap H locs → lv_has ls_ 4 [(0, .ref (ad x0)), (1, .int x1), (2, .int x2)] → W p l e ({ frames := 1, cells := 0, slots := 0, locals := 21 } : Room) s m #[Value.ref (ad x0)] below meth c H locs 0 0 Q (F0 m 4 ls_ []) := by
    intro n1
    induction n1 with
    | zero => intro x1 x2 H locs ls_ hE hp; exact False.elim hp
    | succ n1 ih1 =>
      intro x1 x2 H locs ls_ hO1 hp hP hD hS hl
      rw [lp_Y5_highestRank_4] at hO1
      rw [lq_Y5_highestRank_4] at hp
      obtain ⟨hp, hq1⟩ := hp
      generalize hE : st_Y5_highestRank_4 S x0 x1 x2 = Y1 at hO1 hq1
      unfold st_Y5_highestRank_4 at hE
      unfold ps_Y5_highestRank_4 at hp
      have B_Y5_highestRank_31 : ∀ (x1 : Int32) (x2 : Int32) (x3 : Option Nat) (H : Heap) (locs : List Loc) (ls_ : Array Slot), b_Y5_highestRank_31 S x0 x1 x2 x3 = Y1 → q_Y5_highestRank_31 S x0 x1 x2 x3 → va_P G vwCl (wsC K ad S) H → va_D A (wsC K ad S) → va_S A s.heap H locs → lv_has ls_ 4 [(0, .ref (ad x0)), (1, .int x1), (2, .int x2), (3, va_re ad x3)] → W p l e ({ frames := 1, cells := 0, slots := 0, locals := 21 } : Room) s m #[Value.ref (ad x0)] below meth c H locs 0 0 Q (F0 m 31 ls_ []) := by
        intro x1 x2 x3 H locs ls_ hE hp hP hD hS hl
        unfold b_Y5_highestRank_31 at hE
        unfold q_Y5_highestRank_31 at hp
        refine lv_iinc (i := 2) (v := (x2 + 1)) (lv' := [(2, .int (x2 + 1)), (0, .ref (ad x0)), (1, .int x1), (3, va_re ad x3)]) hx hb dX5_highestRank_31 hl (k := 2) rfl rfl (by decide) rfl (fun ls_ hl => ?_)
        refine lv_goto (tgt := 4) hx hb dX5_highestRank_34 (by decide) ?_
        subst hE
        dsimp only at hO1 hq1
        exact ih1 x1 (x2 + 1) _ _ _ hO1 hq1 hP hD hS (lv_sub hl [1, 2, 0] rfl)
      refine lv_iload_n hx hb dX5_highestRank_4 rfl (lv_at hl 2 rfl) ?_
      refine lv_aload_n hx hb dX5_highestRank_5 rfl (lv_at hl 0 rfl) ?_
      refine va_get (D := G) (ci := 4) (v := .int (giC S x0 1)) (C := RX5) (T := TX5) (N := 2) hx hb hts iX5 hown hK hP x0 (at_4 k_x0) rfl 1 (by decide) (hw (.fieldLink RX5 17 "MotionFloor$Pile" "size" "I") (List.mem_of_getElem? (i := 0) rfl)) (fun _ h9 => h9) rfl dX5_highestRank_6 ?_
      refine lv_icmp_ge (tgt := 37) hx hb dX5_highestRank_9 (by decide) (fun c1 => ?_) (fun c1 => ?_)
      · rw [if_pos c1] at hE hp
        subst hE
        have hE := hO1
        dsimp only at hE
        refine lv_iload_n hx hb dX5_highestRank_37 rfl (lv_at hl 1 rfl) ?_
        subst hQ
        exact W.iret (v := x1) hx hb hr (fun t ht hW => ⟨⟨x1, S, rfl, (pair_i (hE.trans hX.symm)), by rw [ht]; exact hP, hD⟩, hS.F ht⟩) hS.2.2 dX5_highestRank_38
      · rw [if_neg c1] at hE hp
        refine lv_aload_n hx hb dX5_highestRank_12 rfl (lv_at hl 0 rfl) ?_
        refine lv_iload_n hx hb dX5_highestRank_13 rfl (lv_at hl 2 rfl) ?_
        obtain ⟨hy2, hp⟩ := hp
        refine cGoq (va_runV (As := [.int x2]) (rest := []) ⟨hx, hb, hml, hown, hts⟩ (c_Y5_at l G K ad S x0 x2 _) (cwV 1 hts (wGV t_ (mw (.methodLink RX5 21 yX5_at) (List.mem_of_getElem? (i := 1) rfl)) (mw (.instanceMethod yX5_at) (List.mem_of_getElem? (i := 2) rfl)) (mw (.selects RX5 yX5_at yX5_at) (List.mem_of_getElem? (i := 3) rfl)) (mw (.initialized RX5) (List.mem_of_getElem? (i := 4) rfl)) j_Y5_at) rfl rfl rfl (by decide +kernel) ⟨Nat.le_of_ble_eq_true rfl, Nat.le_of_ble_eq_true rfl⟩) (cPV hK hTE hP hD 4 rfl (at_4 k_x0) ⟨k_x0, hy2⟩) rfl rfl hl.1 rfl (lv_room (Nat.le_of_ble_eq_true rfl)) dX5_highestRank_14 ⟨Nat.le_of_ble_eq_true rfl, Nat.le_of_ble_eq_true rfl⟩) hP hD hS hA (fun r4 u3 H locs hv hP hD hS => ?_)
        have h1 := congrArg Prod.fst hv
        have h2 := (congrArg Prod.snd hv).symm
        dsimp only at h1 h2
        subst h1
        subst h2
        refine cAstore_n (ad := ad) (r := (f_Y5_at S x0 x2)) (i := 3) (lv' := [(3, va_re ad (f_Y5_at S x0 x2)), (0, .ref (ad x0)), (1, .int x1), (2, .int x2)]) hx hb dX5_highestRank_17 rfl hl (by decide) rfl (fun ls_ hl => ?_)
        refine cAload_n (ad := ad) (r := (f_Y5_at S x0 x2)) hx hb dX5_highestRank_18 rfl (lv_at hl 0 rfl) ?_
        refine cIfnull (ad := ad) (r := (f_Y5_at S x0 x2)) (tgt := 31) hx hb dX5_highestRank_19 (by decide) (fun c5 => ?_) (fun c5 => ?_)
        · rw [if_pos c5] at hE hp
          exact B_Y5_highestRank_31 x1 x2 (f_Y5_at S x0 x2) _ _ _ hE hp hP hD hS (lv_sub hl [1, 2, 3, 0] rfl)
        · rw [if_neg c5] at hE hp
          refine lv_iload_n hx hb dX5_highestRank_22 rfl (lv_at hl 2 rfl) ?_
          refine cAload_n (ad := ad) (r := (f_Y5_at S x0 x2)) hx hb dX5_highestRank_23 rfl (lv_at hl 0 rfl) ?_
          obtain ⟨hy6, hp⟩ := hp
          refine cTop (r := (f_Y5_at S x0 x2)) hy6.1 ?_
          refine va_get (D := G) (ci := 3) (v := .int (giC S ((f_Y5_at S x0 x2).getD 0) 2)) (C := RX4) (T := TX4) (N := 16) hx hb hts iX4 hown hK hP ((f_Y5_at S x0 x2).getD 0) (at_3 hy6.2) rfl 2 (by decide) (hw (.fieldLink RX5 29 "MotionFloor$Motion" "kind" "I") (List.mem_of_getElem? (i := 5) rfl)) (fun _ h9 => h9) rfl dX5_highestRank_24 ?_
          refine va_mmax hx hb (by rw [hml]; exact hl.1.symm) hown (hw (.methodLink RX5 32 Lib.Math.max.name) (List.mem_of_getElem? (i := 6) rfl)) (hw (.static Lib.Math.max.name) (List.mem_of_getElem? (i := 7) rfl)) (hw (.initialized "java/lang/Math") (List.mem_of_getElem? (i := 8) rfl)) (hw (.code Lib.Math.max.name Lib.Math.max.code 2 (some .int)) (List.mem_of_getElem? (i := 9) rfl)) (Nat.le_of_ble_eq_true rfl) (Nat.le_of_ble_eq_true rfl) (Nat.le_of_ble_eq_true rfl) (Nat.le_of_ble_eq_true rfl) dX5_highestRank_27 ?_
          refine lv_istore_n (i := 1) (lv' := [(1, .int (if x1 < (giC S ((f_Y5_at S x0 x2).getD 0) 2) then (giC S ((f_Y5_at S x0 x2).getD 0) 2) else x1)), (3, va_re ad (f_Y5_at S x0 x2)), (0, .ref (ad x0)), (2, .int x2)]) hx hb dX5_highestRank_30 rfl hl (by decide) rfl (fun ls_ hl => ?_)
          exact B_Y5_highestRank_31 (if x1 < (giC S ((f_Y5_at S x0 x2).getD 0) 2) then (giC S ((f_Y5_at S x0 x2).getD 0) 2) else x1) x2 (f_Y5_at S x0 x2) _ _ _ hE hp hP hD hS (lv_sub hl [2, 0, 3, 1] rfl)
  have B_M : ∀ (H : Heap) (locs : List Loc) (ls_ : Array Slot), f_Y5_highestRank S x0 = X → p_Y5_highestRank S x0 → va_P G vwCl (wsC K ad S) H → va_D A (wsC K ad S) → va_S A s.heap H locs → lv_has ls_ 4 [(0, .ref (ad x0))] → W p l e ({ frames := 1, cells := 0, slots := 0, locals := 21 } : Room) s m #[Value.ref (ad x0)] below meth c H locs 0 0 Q (F0 m 0 ls_ []) := by
    intro  H locs ls_ hE hp hP hD hS hl
    unfold f_Y5_highestRank at hE
    unfold p_Y5_highestRank at hp
    refine lv_iconst (v := 0) hx hb dX5_highestRank_0 (by decide) ?_
    refine lv_istore_n (i := 1) (lv' := [(1, .int 0), (0, .ref (ad x0))]) hx hb dX5_highestRank_1 rfl hl (by decide) rfl (fun ls_ hl => ?_)
    refine lv_iconst (v := 0) hx hb dX5_highestRank_2 (by decide) ?_
    refine lv_istore_n (i := 2) (lv' := [(2, .int 0), (1, .int 0), (0, .ref (ad x0))]) hx hb dX5_highestRank_3 rfl hl (by decide) rfl (fun ls_ hl => ?_)
    exact L_4 100000 0 0 _ _ _ hE hp hP hD hS (lv_sub hl [2, 1, 0] rfl)
  exact B_M  _ _ _ hX hp hP hD hS hl
