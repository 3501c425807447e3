theorem dX4_fact_1 : decode cX4_fact 1 = .ok (.tableswitch 116 0 9 #[55, 60, 65, 70, 78, 83, 88, 93, 98, 111], 55) := by decide +kernel
theorem gdX4_fact_0 : ckS (List.drop 0 cX4_fact.data.toList) 0 [(0, .iload_n 1, 1), (56, .aload_n 0, 1), (57, .getfield 36, 3), (60, .ireturn, 1), (61, .aload_n 0, 1), (62, .getfield 39, 3), (65, .ireturn, 1), (66, .aload_n 0, 1), (67, .getfield 42, 3), (70, .ireturn, 1), (71, .aload_n 0, 1), (72, .getfield 12, 3), (75, .getfield 26, 3), (78, .ireturn, 1), (79, .aload_n 0, 1), (80, .getfield 55, 3), (83, .ireturn, 1), (84, .aload_n 0, 1), (85, .getfield 58, 3), (88, .ireturn, 1), (89, .aload_n 0, 1), (90, .getfield 45, 3), (93, .ireturn, 1), (94, .aload_n 0, 1), (95, .getfield 48, 3), (98, .ireturn, 1), (99, .aload_n 0, 1), (100, .getfield 51, 3), (103, .ifCond .eq 7, 3), (106, .iconst 1, 1), (107, .goto 4, 3), (110, .iconst 0, 1), (111, .ireturn, 1), (112, .aload_n 0, 1), (113, .getfield 67, 3), (116, .ireturn, 1), (117, .iconst (-1), 1), (118, .ireturn, 1)] = true := by decide +kernel
theorem dX4_fact_0 : decode cX4_fact 0 = .ok (.iload_n 1, 1) := ckS_g gdX4_fact_0 0 rfl
theorem dX4_fact_56 : decode cX4_fact 56 = .ok (.aload_n 0, 1) := ckS_g gdX4_fact_0 1 rfl
theorem dX4_fact_57 : decode cX4_fact 57 = .ok (.getfield 36, 3) := ckS_g gdX4_fact_0 2 rfl
theorem dX4_fact_60 : decode cX4_fact 60 = .ok (.ireturn, 1) := ckS_g gdX4_fact_0 3 rfl
theorem dX4_fact_61 : decode cX4_fact 61 = .ok (.aload_n 0, 1) := ckS_g gdX4_fact_0 4 rfl
theorem dX4_fact_62 : decode cX4_fact 62 = .ok (.getfield 39, 3) := ckS_g gdX4_fact_0 5 rfl
theorem dX4_fact_65 : decode cX4_fact 65 = .ok (.ireturn, 1) := ckS_g gdX4_fact_0 6 rfl
theorem dX4_fact_66 : decode cX4_fact 66 = .ok (.aload_n 0, 1) := ckS_g gdX4_fact_0 7 rfl
theorem dX4_fact_67 : decode cX4_fact 67 = .ok (.getfield 42, 3) := ckS_g gdX4_fact_0 8 rfl
theorem dX4_fact_70 : decode cX4_fact 70 = .ok (.ireturn, 1) := ckS_g gdX4_fact_0 9 rfl
theorem dX4_fact_71 : decode cX4_fact 71 = .ok (.aload_n 0, 1) := ckS_g gdX4_fact_0 10 rfl
theorem dX4_fact_72 : decode cX4_fact 72 = .ok (.getfield 12, 3) := ckS_g gdX4_fact_0 11 rfl
theorem dX4_fact_75 : decode cX4_fact 75 = .ok (.getfield 26, 3) := ckS_g gdX4_fact_0 12 rfl
theorem dX4_fact_78 : decode cX4_fact 78 = .ok (.ireturn, 1) := ckS_g gdX4_fact_0 13 rfl
theorem dX4_fact_79 : decode cX4_fact 79 = .ok (.aload_n 0, 1) := ckS_g gdX4_fact_0 14 rfl
theorem dX4_fact_80 : decode cX4_fact 80 = .ok (.getfield 55, 3) := ckS_g gdX4_fact_0 15 rfl
theorem dX4_fact_83 : decode cX4_fact 83 = .ok (.ireturn, 1) := ckS_g gdX4_fact_0 16 rfl
theorem dX4_fact_84 : decode cX4_fact 84 = .ok (.aload_n 0, 1) := ckS_g gdX4_fact_0 17 rfl
theorem dX4_fact_85 : decode cX4_fact 85 = .ok (.getfield 58, 3) := ckS_g gdX4_fact_0 18 rfl
theorem dX4_fact_88 : decode cX4_fact 88 = .ok (.ireturn, 1) := ckS_g gdX4_fact_0 19 rfl
theorem dX4_fact_89 : decode cX4_fact 89 = .ok (.aload_n 0, 1) := ckS_g gdX4_fact_0 20 rfl
theorem dX4_fact_90 : decode cX4_fact 90 = .ok (.getfield 45, 3) := ckS_g gdX4_fact_0 21 rfl
theorem dX4_fact_93 : decode cX4_fact 93 = .ok (.ireturn, 1) := ckS_g gdX4_fact_0 22 rfl
theorem dX4_fact_94 : decode cX4_fact 94 = .ok (.aload_n 0, 1) := ckS_g gdX4_fact_0 23 rfl
theorem dX4_fact_95 : decode cX4_fact 95 = .ok (.getfield 48, 3) := ckS_g gdX4_fact_0 24 rfl
theorem dX4_fact_98 : decode cX4_fact 98 = .ok (.ireturn, 1) := ckS_g gdX4_fact_0 25 rfl
theorem dX4_fact_99 : decode cX4_fact 99 = .ok (.aload_n 0, 1) := ckS_g gdX4_fact_0 26 rfl
theorem dX4_fact_100 : decode cX4_fact 100 = .ok (.getfield 51, 3) := ckS_g gdX4_fact_0 27 rfl
theorem dX4_fact_103 : decode cX4_fact 103 = .ok (.ifCond .eq 7, 3) := ckS_g gdX4_fact_0 28 rfl
theorem dX4_fact_106 : decode cX4_fact 106 = .ok (.iconst 1, 1) := ckS_g gdX4_fact_0 29 rfl
theorem dX4_fact_107 : decode cX4_fact 107 = .ok (.goto 4, 3) := ckS_g gdX4_fact_0 30 rfl
theorem dX4_fact_110 : decode cX4_fact 110 = .ok (.iconst 0, 1) := ckS_g gdX4_fact_0 31 rfl
theorem dX4_fact_111 : decode cX4_fact 111 = .ok (.ireturn, 1) := ckS_g gdX4_fact_0 32 rfl
theorem dX4_fact_112 : decode cX4_fact 112 = .ok (.aload_n 0, 1) := ckS_g gdX4_fact_0 33 rfl
theorem dX4_fact_113 : decode cX4_fact 113 = .ok (.getfield 67, 3) := ckS_g gdX4_fact_0 34 rfl
theorem dX4_fact_116 : decode cX4_fact 116 = .ok (.ireturn, 1) := ckS_g gdX4_fact_0 35 rfl
theorem dX4_fact_117 : decode cX4_fact 117 = .ok (.iconst (-1), 1) := ckS_g gdX4_fact_0 36 rfl
theorem dX4_fact_118 : decode cX4_fact 118 = .ok (.ireturn, 1) := ckS_g gdX4_fact_0 37 rfl
set_option maxRecDepth 100000 in
theorem zc285 : wZ (.code yX4_fact cX4_fact 2 (some .int)) := ⟨wT4 (List.mem_of_getElem? (i := 129) rfl), Or.inl rfl⟩
def b_Y4_fact_111 (S : Cst) (x0 : Nat) (x1 : Int32) (y0 : Int32) : Int32 := y0
def q_Y4_fact_111 (S : Cst) (x0 : Nat) (x1 : Int32) (y0 : Int32) : Prop := True
def f_Y4_fact (S : Cst) (x0 : Nat) (x1 : Int32) : Int32 := if x1 = 0 then (giC S x0 2) else if x1 = 1 then (giC S x0 3) else if x1 = 2 then (giC S x0 4) else if x1 = 3 then (giC S ((grC S x0 12).getD 0) 1) else if x1 = 4 then (giC S x0 8) else if x1 = 5 then (giC S x0 9) else if x1 = 6 then (giC S x0 5) else if x1 = 7 then (giC S x0 6) else if x1 = 8 then if (giC S x0 7) = 0 then (b_Y4_fact_111 S x0 x1 0) else (b_Y4_fact_111 S x0 x1 1) else if x1 = 9 then (giC S x0 14) else ((-1) : Int32)
def p_Y4_fact (S : Cst) (x0 : Nat) (x1 : Int32) : Prop := (if x1 = 0 then True else (if x1 = 1 then True else (if x1 = 2 then True else (if x1 = 3 then (iR S (grC S x0 12) 6) ∧ True else (if x1 = 4 then True else (if x1 = 5 then True else (if x1 = 6 then True else (if x1 = 7 then True else (if x1 = 8 then (if (giC S x0 7) = 0 then (q_Y4_fact_111 S x0 x1 0) else (q_Y4_fact_111 S x0 x1 1)) else (if x1 = 9 then True else True))))))))))
def e_Y4_fact : List Cond := [.fieldLink RX4 36 "MotionFloor$Motion" "kind" "I", .fieldLink RX4 39 "MotionFloor$Motion" "mover" "I", .fieldLink RX4 42 "MotionFloor$Motion" "seconder" "I", .fieldLink RX4 12 "MotionFloor$Motion" "text" "LMotionFloor$Text;", .fieldLink RX4 26 "MotionFloor$Text" "size" "I", .fieldLink RX4 55 "MotionFloor$Motion" "from" "I", .fieldLink RX4 58 "MotionFloor$Motion" "to" "I", .fieldLink RX4 45 "MotionFloor$Motion" "floors" "I", .fieldLink RX4 48 "MotionFloor$Motion" "speeches" "I", .fieldLink RX4 51 "MotionFloor$Motion" "closed" "Z", .fieldLink RX4 67 "MotionFloor$Motion" "voters" "I"]
def v_Y4_fact : List Cond := .code yX4_fact cX4_fact 2 (some .int) :: (e_Y4_fact ++ (wsX40 ++ (wsX90 ++ [])))
theorem te_Y4_fact : GoodIn lw_tbl e_Y4_fact := wGc zc166 (wGc zc257 (wGc zc256 (wGc zc262 (wGc zc261 (wGc zc252 (wGc zc251 (wGc zc255 (wGc zc254 (wGc zc253 (wGc zc248 (wG0)))))))))))
theorem t_Y4_fact : GoodIn lw_tbl v_Y4_fact := wGc zc285 (wGa te_Y4_fact (wGa zcX4 (wGa zcX9 (wG0))))
set_option maxHeartbeats 4000000 in
set_option maxRecDepth 100000 in
theorem c_Y4_fact (l : Launch) (G : va_G) (K : Nat → ClassId) (ad : Nat → Nat) (S : Cst) (x0 : Nat) (a1 : Int32) (sz : Nat) : Met l yX4_fact v_Y4_fact ({ frames := 0, cells := 0, slots := 0, locals := 0 }) (va_Pc [.ref (ad x0), .int a1] (cSt G K ad sz S (iK S x0 3 ∧ p_Y4_fact S x0 a1))) (va_Qi (fun (r : Int32) (u : Cst) => (r, u) = (f_Y4_fact S x0 a1, S)) (cBt G K ad (va_A (wsC K ad S) sz)) (va_A (wsC K ad S) sz)) 0 0 (va_A (wsC K ad S) sz) := by
  refine Met.ofW (cc := cX4_fact) (maxL := 2) (ret := (some .int)) (by decide) rfl ?_
  intro p e s m args below meth c s₁ B hml hv
  obtain ⟨rfl, ⟨hsz, hP, hK, hD0, hTE⟩, hp⟩ := hv
  obtain ⟨k_x0, hp⟩ := hp
  have hx := B.exec
  have hb := B.bytes
  have hr := B.returns
  have hts := atoms_spec (ws := v_Y4_fact) B.pre
  have t_ := t_Y4_fact
  have mw : ∀ w ∈ e_Y4_fact, w ∈ v_Y4_fact := fun w h => List.mem_cons_of_mem _ (List.mem_append_left _ h)
  have hw := fun w (h : w ∈ e_Y4_fact) => hts w (mw w h)
  have iX4 : ∀ w ∈ wsX40, w ∈ v_Y4_fact := fun w h => List.mem_cons_of_mem _ (List.mem_append_right _ (List.mem_append_left _ h))
  have iX9 : ∀ w ∈ wsX90, w ∈ v_Y4_fact := fun w h => List.mem_cons_of_mem _ (List.mem_append_right _ (List.mem_append_right _ (List.mem_append_left _ h)))
  have hown : s.vm.findClass RX4 = some m.cls := findClass_of_methodNamed B.named
  have hlocks := B.notSynchronized
  subst hsz
  have hD := hD0.self (sz := s.heap.size)
  generalize hAe : va_A (wsC K ad S) s.heap.size = A at hD ⊢
  have hA : ∀ q : Nat, s.heap.size ≤ q → A q := fun q h => by rw [← hAe]; exact Or.inr h
  have hS : va_S A s.heap s.heap [] := va_S.rf
  have hl : lv_has (lg_sl ([.ref (ad x0), .int a1]) ++ List.replicate (2 - (lg_sl ([.ref (ad x0), .int a1])).length) Slot.unset).toArray 2 [(0, .ref (ad x0)), (1, .int a1)] := by
    exact lv_entry ([.ref (ad x0), .int a1]) (n := 2) (Nat.le_of_ble_eq_true rfl)
  rw [lg_entry_eq]
  generalize (lg_sl ([.ref (ad x0), .int a1]) ++ List.replicate (2 - (lg_sl ([.ref (ad x0), .int a1])).length) Slot.unset).toArray = ls_ at hl ⊢
  refine wGen (fun Q hQ => ?_)
  obtain ⟨X, hX⟩ : ∃ X, f_Y4_fact S x0 a1 = X := ⟨_, rfl⟩
  have B_Y4_fact_111 : ∀ (x1 : Int32) (y0 : Int32) (H : Heap) (locs : List Loc) (ls_ : Array Slot), b_Y4_fact_111 S x0 x1 y0 = X → q_Y4_fact_111 S x0 x1 y0 → va_P G vwCl (wsC K ad S) H → va_D A (wsC K ad S) → va_S A s.heap H locs → lv_has ls_ 2 [(0, .ref (ad x0)), (1, .int x1)] → W p l e ({ frames := 0, cells := 0, slots := 0, locals := 0 } : Room) s m #[Value.ref (ad x0), Value.int a1] below meth c H locs 0 0 Q (F0 m 111 ls_ [.int y0]) := by
    intro x1 y0 H locs ls_ hE hp hP hD hS hl
    unfold b_Y4_fact_111 at hE
    unfold q_Y4_fact_111 at hp
    subst hQ
    exact W.iret (v := y0) hx hb hr (fun t ht hW => ⟨⟨y0, S, rfl, (pair_i (hE.trans hX.symm)), by rw [ht]; exact hP, hD⟩, hS.F ht⟩) hS.2.2 dX4_fact_111
  have B_M : ∀ (x1 : Int32) (H : Heap) (locs : List Loc) (ls_ : Array Slot), f_Y4_fact S x0 x1 = X → p_Y4_fact S x0 x1 → va_P G vwCl (wsC K ad S) H → va_D A (wsC K ad S) → va_S A s.heap H locs → lv_has ls_ 2 [(0, .ref (ad x0)), (1, .int x1)] → W p l e ({ frames := 0, cells := 0, slots := 0, locals := 0 } : Room) s m #[Value.ref (ad x0), Value.int a1] below meth c H locs 0 0 Q (F0 m 0 ls_ []) := by
    intro x1 H locs ls_ hE hp hP hD hS hl
    unfold f_Y4_fact at hE
    unfold p_Y4_fact at hp
    refine lv_iload_n hx hb dX4_fact_0 rfl (lv_at hl 1 rfl) ?_
    by_cases s0 : x1 = 0
    · rw [if_pos s0] at hE hp
      refine lv_tableIn (off := 55) (tgt := 56) hx hb dX4_fact_1 (by rw [s0]; decide) (by rw [s0]; decide) (by rw [s0]; decide) (by decide) ?_
      refine lv_aload_n hx hb dX4_fact_56 rfl (lv_at hl 0 rfl) ?_
      refine va_get (D := G) (ci := 3) (v := .int (giC S x0 2)) (C := RX4) (T := TX4) (N := 16) hx hb hts iX4 hown hK hP x0 (at_3 k_x0) rfl 2 (by decide) (hw (.fieldLink RX4 36 "MotionFloor$Motion" "kind" "I") (List.mem_of_getElem? (i := 0) rfl)) (fun _ h9 => h9) rfl dX4_fact_57 ?_
      subst hQ
      exact W.iret (v := (giC S x0 2)) hx hb hr (fun t ht hW => ⟨⟨(giC S x0 2), S, rfl, (pair_i (hE.trans hX.symm)), by rw [ht]; exact hP, hD⟩, hS.F ht⟩) hS.2.2 dX4_fact_60
    rw [if_neg s0] at hE hp
    have s0 := wNe (b := 0) rfl (by decide) s0
    by_cases s1 : x1 = 1
    · rw [if_pos s1] at hE hp
      refine lv_tableIn (off := 60) (tgt := 61) hx hb dX4_fact_1 (by rw [s1]; decide) (by rw [s1]; decide) (by rw [s1]; decide) (by decide) ?_
      refine lv_aload_n hx hb dX4_fact_61 rfl (lv_at hl 0 rfl) ?_
      refine va_get (D := G) (ci := 3) (v := .int (giC S x0 3)) (C := RX4) (T := TX4) (N := 16) hx hb hts iX4 hown hK hP x0 (at_3 k_x0) rfl 3 (by decide) (hw (.fieldLink RX4 39 "MotionFloor$Motion" "mover" "I") (List.mem_of_getElem? (i := 1) rfl)) (fun _ h9 => h9) rfl dX4_fact_62 ?_
      subst hQ
      exact W.iret (v := (giC S x0 3)) hx hb hr (fun t ht hW => ⟨⟨(giC S x0 3), S, rfl, (pair_i (hE.trans hX.symm)), by rw [ht]; exact hP, hD⟩, hS.F ht⟩) hS.2.2 dX4_fact_65
    rw [if_neg s1] at hE hp
    have s1 := wNe (b := 1) rfl (by decide) s1
    by_cases s2 : x1 = 2
    · rw [if_pos s2] at hE hp
      refine lv_tableIn (off := 65) (tgt := 66) hx hb dX4_fact_1 (by rw [s2]; decide) (by rw [s2]; decide) (by rw [s2]; decide) (by decide) ?_
      refine lv_aload_n hx hb dX4_fact_66 rfl (lv_at hl 0 rfl) ?_
      refine va_get (D := G) (ci := 3) (v := .int (giC S x0 4)) (C := RX4) (T := TX4) (N := 16) hx hb hts iX4 hown hK hP x0 (at_3 k_x0) rfl 4 (by decide) (hw (.fieldLink RX4 42 "MotionFloor$Motion" "seconder" "I") (List.mem_of_getElem? (i := 2) rfl)) (fun _ h9 => h9) rfl dX4_fact_67 ?_
      subst hQ
      exact W.iret (v := (giC S x0 4)) hx hb hr (fun t ht hW => ⟨⟨(giC S x0 4), S, rfl, (pair_i (hE.trans hX.symm)), by rw [ht]; exact hP, hD⟩, hS.F ht⟩) hS.2.2 dX4_fact_70
    rw [if_neg s2] at hE hp
    have s2 := wNe (b := 2) rfl (by decide) s2
    by_cases s3 : x1 = 3
    · rw [if_pos s3] at hE hp
      refine lv_tableIn (off := 70) (tgt := 71) hx hb dX4_fact_1 (by rw [s3]; decide) (by rw [s3]; decide) (by rw [s3]; decide) (by decide) ?_
      refine lv_aload_n hx hb dX4_fact_71 rfl (lv_at hl 0 rfl) ?_
      refine va_get (D := G) (ci := 3) (v := va_re ad (grC S x0 12)) (C := RX4) (T := TX4) (N := 16) hx hb hts iX4 hown hK hP x0 (at_3 k_x0) rfl 12 (by decide) (hw (.fieldLink RX4 12 "MotionFloor$Motion" "text" "LMotionFloor$Text;") (List.mem_of_getElem? (i := 3) rfl)) (fun _ h9 => h9) rfl dX4_fact_72 ?_
      obtain ⟨hy1, hp⟩ := hp
      refine cTop (r := (grC S x0 12)) hy1.1 ?_
      refine va_get (D := G) (ci := 6) (v := .int (giC S ((grC S x0 12).getD 0) 1)) (C := RX9) (T := TX9) (N := 2) hx hb hts iX9 hown hK hP ((grC S x0 12).getD 0) (at_6 hy1.2) rfl 1 (by decide) (hw (.fieldLink RX4 26 "MotionFloor$Text" "size" "I") (List.mem_of_getElem? (i := 4) rfl)) (fun _ h9 => h9) rfl dX4_fact_75 ?_
      subst hQ
      exact W.iret (v := (giC S ((grC S x0 12).getD 0) 1)) hx hb hr (fun t ht hW => ⟨⟨(giC S ((grC S x0 12).getD 0) 1), S, rfl, (pair_i (hE.trans hX.symm)), by rw [ht]; exact hP, hD⟩, hS.F ht⟩) hS.2.2 dX4_fact_78
    rw [if_neg s3] at hE hp
    have s3 := wNe (b := 3) rfl (by decide) s3
    by_cases s4 : x1 = 4
    · rw [if_pos s4] at hE hp
      refine lv_tableIn (off := 78) (tgt := 79) hx hb dX4_fact_1 (by rw [s4]; decide) (by rw [s4]; decide) (by rw [s4]; decide) (by decide) ?_
      refine lv_aload_n hx hb dX4_fact_79 rfl (lv_at hl 0 rfl) ?_
      refine va_get (D := G) (ci := 3) (v := .int (giC S x0 8)) (C := RX4) (T := TX4) (N := 16) hx hb hts iX4 hown hK hP x0 (at_3 k_x0) rfl 8 (by decide) (hw (.fieldLink RX4 55 "MotionFloor$Motion" "from" "I") (List.mem_of_getElem? (i := 5) rfl)) (fun _ h9 => h9) rfl dX4_fact_80 ?_
      subst hQ
      exact W.iret (v := (giC S x0 8)) hx hb hr (fun t ht hW => ⟨⟨(giC S x0 8), S, rfl, (pair_i (hE.trans hX.symm)), by rw [ht]; exact hP, hD⟩, hS.F ht⟩) hS.2.2 dX4_fact_83
    rw [if_neg s4] at hE hp
    have s4 := wNe (b := 4) rfl (by decide) s4
    by_cases s5 : x1 = 5
    · rw [if_pos s5] at hE hp
      refine lv_tableIn (off := 83) (tgt := 84) hx hb dX4_fact_1 (by rw [s5]; decide) (by rw [s5]; decide) (by rw [s5]; decide) (by decide) ?_
      refine lv_aload_n hx hb dX4_fact_84 rfl (lv_at hl 0 rfl) ?_
      refine va_get (D := G) (ci := 3) (v := .int (giC S x0 9)) (C := RX4) (T := TX4) (N := 16) hx hb hts iX4 hown hK hP x0 (at_3 k_x0) rfl 9 (by decide) (hw (.fieldLink RX4 58 "MotionFloor$Motion" "to" "I") (List.mem_of_getElem? (i := 6) rfl)) (fun _ h9 => h9) rfl dX4_fact_85 ?_
      subst hQ
      exact W.iret (v := (giC S x0 9)) hx hb hr (fun t ht hW => ⟨⟨(giC S x0 9), S, rfl, (pair_i (hE.trans hX.symm)), by rw [ht]; exact hP, hD⟩, hS.F ht⟩) hS.2.2 dX4_fact_88
    rw [if_neg s5] at hE hp
    have s5 := wNe (b := 5) rfl (by decide) s5
    by_cases s6 : x1 = 6
    · rw [if_pos s6] at hE hp
      refine lv_tableIn (off := 88) (tgt := 89) hx hb dX4_fact_1 (by rw [s6]; decide) (by rw [s6]; decide) (by rw [s6]; decide) (by decide) ?_
      refine lv_aload_n hx hb dX4_fact_89 rfl (lv_at hl 0 rfl) ?_
      refine va_get (D := G) (ci := 3) (v := .int (giC S x0 5)) (C := RX4) (T := TX4) (N := 16) hx hb hts iX4 hown hK hP x0 (at_3 k_x0) rfl 5 (by decide) (hw (.fieldLink RX4 45 "MotionFloor$Motion" "floors" "I") (List.mem_of_getElem? (i := 7) rfl)) (fun _ h9 => h9) rfl dX4_fact_90 ?_
      subst hQ
      exact W.iret (v := (giC S x0 5)) hx hb hr (fun t ht hW => ⟨⟨(giC S x0 5), S, rfl, (pair_i (hE.trans hX.symm)), by rw [ht]; exact hP, hD⟩, hS.F ht⟩) hS.2.2 dX4_fact_93
    rw [if_neg s6] at hE hp
    have s6 := wNe (b := 6) rfl (by decide) s6
    by_cases s7 : x1 = 7
    · rw [if_pos s7] at hE hp
      refine lv_tableIn (off := 93) (tgt := 94) hx hb dX4_fact_1 (by rw [s7]; decide) (by rw [s7]; decide) (by rw [s7]; decide) (by decide) ?_
      refine lv_aload_n hx hb dX4_fact_94 rfl (lv_at hl 0 rfl) ?_
      refine va_get (D := G) (ci := 3) (v := .int (giC S x0 6)) (C := RX4) (T := TX4) (N := 16) hx hb hts iX4 hown hK hP x0 (at_3 k_x0) rfl 6 (by decide) (hw (.fieldLink RX4 48 "MotionFloor$Motion" "speeches" "I") (List.mem_of_getElem? (i := 8) rfl)) (fun _ h9 => h9) rfl dX4_fact_95 ?_
      subst hQ
      exact W.iret (v := (giC S x0 6)) hx hb hr (fun t ht hW => ⟨⟨(giC S x0 6), S, rfl, (pair_i (hE.trans hX.symm)), by rw [ht]; exact hP, hD⟩, hS.F ht⟩) hS.2.2 dX4_fact_98
    rw [if_neg s7] at hE hp
    have s7 := wNe (b := 7) rfl (by decide) s7
    by_cases s8 : x1 = 8
    · rw [if_pos s8] at hE hp
      refine lv_tableIn (off := 98) (tgt := 99) hx hb dX4_fact_1 (by rw [s8]; decide) (by rw [s8]; decide) (by rw [s8]; decide) (by decide) ?_
      refine lv_aload_n hx hb dX4_fact_99 rfl (lv_at hl 0 rfl) ?_
      refine va_get (D := G) (ci := 3) (v := .int (giC S x0 7)) (C := RX4) (T := TX4) (N := 16) hx hb hts iX4 hown hK hP x0 (at_3 k_x0) rfl 7 (by decide) (hw (.fieldLink RX4 51 "MotionFloor$Motion" "closed" "Z") (List.mem_of_getElem? (i := 9) rfl)) (fun _ h9 => h9) rfl dX4_fact_100 ?_
      refine lv_if_eq (tgt := 110) hx hb dX4_fact_103 (by decide) (fun c2 => ?_) (fun c2 => ?_)
      · rw [if_pos c2] at hE hp
        refine lv_iconst (v := 0) hx hb dX4_fact_110 (by decide) ?_
        exact B_Y4_fact_111 x1 0 _ _ _ hE hp hP hD hS (lv_sub hl [0, 1] rfl)
      · rw [if_neg c2] at hE hp
        refine lv_iconst (v := 1) hx hb dX4_fact_106 (by decide) ?_
        refine lv_goto (tgt := 111) hx hb dX4_fact_107 (by decide) ?_
        exact B_Y4_fact_111 x1 1 _ _ _ hE hp hP hD hS (lv_sub hl [0, 1] rfl)
    rw [if_neg s8] at hE hp
    have s8 := wNe (b := 8) rfl (by decide) s8
    by_cases s9 : x1 = 9
    · rw [if_pos s9] at hE hp
      refine lv_tableIn (off := 111) (tgt := 112) hx hb dX4_fact_1 (by rw [s9]; decide) (by rw [s9]; decide) (by rw [s9]; decide) (by decide) ?_
      refine lv_aload_n hx hb dX4_fact_112 rfl (lv_at hl 0 rfl) ?_
      refine va_get (D := G) (ci := 3) (v := .int (giC S x0 14)) (C := RX4) (T := TX4) (N := 16) hx hb hts iX4 hown hK hP x0 (at_3 k_x0) rfl 14 (by decide) (hw (.fieldLink RX4 67 "MotionFloor$Motion" "voters" "I") (List.mem_of_getElem? (i := 10) rfl)) (fun _ h9 => h9) rfl dX4_fact_113 ?_
      subst hQ
      exact W.iret (v := (giC S x0 14)) hx hb hr (fun t ht hW => ⟨⟨(giC S x0 14), S, rfl, (pair_i (hE.trans hX.symm)), by rw [ht]; exact hP, hD⟩, hS.F ht⟩) hS.2.2 dX4_fact_116
    rw [if_neg s9] at hE hp
    have s9 := wNe (b := 9) rfl (by decide) s9
    refine lv_tableOut (tgt := 117) hx hb dX4_fact_1 (by omega) (by decide) ?_
    refine lv_iconst (v := (-1)) hx hb dX4_fact_117 (by decide) ?_
    subst hQ
    exact W.iret (v := ((-1) : Int32)) hx hb hr (fun t ht hW => ⟨⟨((-1) : Int32), S, rfl, (pair_i (hE.trans hX.symm)), by rw [ht]; exact hP, hD⟩, hS.F ht⟩) hS.2.2 dX4_fact_118
  exact B_M a1 _ _ _ hX hp hP hD hS hl
theorem gdX5_highestRank_0 : ckS (List.drop 0 cX5_highestRank.data.toList) 0 [(0, .iconst 0, 1), (1, .istore_n 1, 1), (2, .iconst 0, 1), (3, .istore_n 2, 1), (4, .iload_n 2, 1), (5, .aload_n 0, 1), (6, .getfield 17, 3), (9, .if_icmp .ge 28, 3), (12, .aload_n 0, 1), (13, .iload_n 2, 1), (14, .invokevirtual 21, 3), (17, .astore_n 3, 1), (18, .aload_n 3, 1), (19, .ifnull 12, 3), (22, .iload_n 1, 1), (23, .aload_n 3, 1), (24, .getfield 29, 3), (27, .invokestatic 32, 3), (30, .istore_n 1, 1), (31, .iinc 2 1, 3), (34, .goto (-30), 3), (37, .iload_n 1, 1), (38, .ireturn, 1)] = true := by decide +kernel
theorem dX5_highestRank_0 : decode cX5_highestRank 0 = .ok (.iconst 0, 1) := ckS_g gdX5_highestRank_0 0 rfl
theorem dX5_highestRank_1 : decode cX5_highestRank 1 = .ok (.istore_n 1, 1) := ckS_g gdX5_highestRank_0 1 rfl
theorem dX5_highestRank_2 : decode cX5_highestRank 2 = .ok (.iconst 0, 1) := ckS_g gdX5_highestRank_0 2 rfl
theorem dX5_highestRank_3 : decode cX5_highestRank 3 = .ok (.istore_n 2, 1) := ckS_g gdX5_highestRank_0 3 rfl
theorem dX5_highestRank_4 : decode cX5_highestRank 4 = .ok (.iload_n 2, 1) := ckS_g gdX5_highestRank_0 4 rfl
theorem dX5_highestRank_5 : decode cX5_highestRank 5 = .ok (.aload_n 0, 1) := ckS_g gdX5_highestRank_0 5 rfl
theorem dX5_highestRank_6 : decode cX5_highestRank 6 = .ok (.getfield 17, 3) := ckS_g gdX5_highestRank_0 6 rfl
theorem dX5_highestRank_9 : decode cX5_highestRank 9 = .ok (.if_icmp .ge 28, 3) := ckS_g gdX5_highestRank_0 7 rfl
theorem dX5_highestRank_12 : decode cX5_highestRank 12 = .ok (.aload_n 0, 1) := ckS_g gdX5_highestRank_0 8 rfl
theorem dX5_highestRank_13 : decode cX5_highestRank 13 = .ok (.iload_n 2, 1) := ckS_g gdX5_highestRank_0 9 rfl
theorem dX5_highestRank_14 : decode cX5_highestRank 14 = .ok (.invokevirtual 21, 3) := ckS_g gdX5_highestRank_0 10 rfl
theorem dX5_highestRank_17 : decode cX5_highestRank 17 = .ok (.astore_n 3, 1) := ckS_g gdX5_highestRank_0 11 rfl
theorem dX5_highestRank_18 : decode cX5_highestRank 18 = .ok (.aload_n 3, 1) := ckS_g gdX5_highestRank_0 12 rfl
theorem dX5_highestRank_19 : decode cX5_highestRank 19 = .ok (.ifnull 12, 3) := ckS_g gdX5_highestRank_0 13 rfl
theorem dX5_highestRank_22 : decode cX5_highestRank 22 = .ok (.iload_n 1, 1) := ckS_g gdX5_highestRank_0 14 rfl
theorem dX5_highestRank_23 : decode cX5_highestRank 23 = .ok (.aload_n 3, 1) := ckS_g gdX5_highestRank_0 15 rfl
theorem dX5_highestRank_24 : decode cX5_highestRank 24 = .ok (.getfield 29, 3) := ckS_g gdX5_highestRank_0 16 rfl
theorem dX5_highestRank_27 : decode cX5_highestRank 27 = .ok (.invokestatic 32, 3) := ckS_g gdX5_highestRank_0 17 rfl
theorem dX5_highestRank_30 : decode cX5_highestRank 30 = .ok (.istore_n 1, 1) := ckS_g gdX5_highestRank_0 18 rfl
theorem dX5_highestRank_31 : decode cX5_highestRank 31 = .ok (.iinc 2 1, 3) := ckS_g gdX5_highestRank_0 19 rfl
theorem dX5_highestRank_34 : decode cX5_highestRank 34 = .ok (.goto (-30), 3) := ckS_g gdX5_highestRank_0 20 rfl
theorem dX5_highestRank_37 : decode cX5_highestRank 37 = .ok (.iload_n 1, 1) := ckS_g gdX5_highestRank_0 21 rfl
theorem dX5_highestRank_38 : decode cX5_highestRank 38 = .ok (.ireturn, 1) := ckS_g gdX5_highestRank_0 22 rfl
set_option maxRecDepth 100000 in
theorem zc286 : wZ (.methodLink RX5 32 Lib.Math.max.name) := ⟨wT2 (List.mem_of_getElem? (i := 155) (by decide +kernel)), Or.inl rfl⟩
set_option maxRecDepth 100000 in
theorem zc287 : wZ (.fieldLink RX5 29 "MotionFloor$Motion" "kind" "I") := ⟨wT3 (List.mem_of_getElem? (i := 18) (by decide +kernel)), Or.inl rfl⟩
set_option maxRecDepth 100000 in
theorem zc288 : wZ (.code yX5_highestRank cX5_highestRank 4 (some .int)) := ⟨wT2 (List.mem_of_getElem? (i := 154) rfl), Or.inl rfl⟩
def b_Y5_highestRank_31 (S : Cst) (x0 : Nat) (x1 : Int32) (x2 : Int32) (x3 : Option Nat) : (Int32) ⊕ (Int32 × Int32) := Sum.inr (x1, (x2 + 1))
def q_Y5_highestRank_31 (S : Cst) (x0 : Nat) (x1 : Int32) (x2 : Int32) (x3 : Option Nat) : Prop := True
def st_Y5_highestRank_4 (S : Cst) (x0 : Nat) (x1 : Int32) (x2 : Int32) : (Int32) ⊕ (Int32 × Int32) := if (giC S x0 1) ≤ x2 then Sum.inl (x1) else if (f_Y5_at S x0 x2) = none then (b_Y5_highestRank_31 S x0 x1 x2 (f_Y5_at S x0 x2)) else (b_Y5_highestRank_31 S x0 (if x1 < (giC S ((f_Y5_at S x0 x2).getD 0) 2) then (giC S ((f_Y5_at S x0 x2).getD 0) 2) else x1) x2 (f_Y5_at S x0 x2))
def ps_Y5_highestRank_4 (S : Cst) (x0 : Nat) (x1 : Int32) (x2 : Int32) : Prop := (if (giC S x0 1) ≤ x2 then True else (p_Y5_at S x0 x2) ∧ (if (f_Y5_at S x0 x2) = none then (q_Y5_highestRank_31 S x0 x1 x2 (f_Y5_at S x0 x2)) else (iR S (f_Y5_at S x0 x2) 3) ∧ (q_Y5_highestRank_31 S x0 (if x1 < (giC S ((f_Y5_at S x0 x2).getD 0) 2) then (giC S ((f_Y5_at S x0 x2).getD 0) 2) else x1) x2 (f_Y5_at S x0 x2))))
def lp_Y5_highestRank_4 (S : Cst) (x0 : Nat) : Nat → Int32 → Int32 → Int32
  | 0, _, _ => 0
  | n + 1, x1, x2 => match st_Y5_highestRank_4 S x0 x1 x2 with
    | Sum.inl r => r
    | Sum.inr q => lp_Y5_highestRank_4 S x0 n q.1 q.2
def lq_Y5_highestRank_4 (S : Cst) (x0 : Nat) : Nat → Int32 → Int32 → Prop
  | 0, _, _ => False
  | n + 1, x1, x2 => ps_Y5_highestRank_4 S x0 x1 x2 ∧ (match st_Y5_highestRank_4 S x0 x1 x2 with
    | Sum.inl _ => True
    | Sum.inr q => lq_Y5_highestRank_4 S x0 n q.1 q.2)
def f_Y5_highestRank (S : Cst) (x0 : Nat) : Int32 := (lp_Y5_highestRank_4 S x0 100000 0 0)
def p_Y5_highestRank (S : Cst) (x0 : Nat) : Prop := (lq_Y5_highestRank_4 S x0 100000 0 0)
def e_Y5_highestRank : List Cond := [.fieldLink RX5 17 "MotionFloor$Pile" "size" "I", .methodLink RX5 21 yX5_at, .instanceMethod yX5_at, .selects RX5 yX5_at yX5_at, .initialized RX5, .fieldLink RX5 29 "MotionFloor$Motion" "kind" "I", .methodLink RX5 32 Lib.Math.max.name, .static Lib.Math.max.name, .initialized "java/lang/Math", .code Lib.Math.max.name Lib.Math.max.code 2 (some .int)]
def v_Y5_highestRank : List Cond := .code yX5_highestRank cX5_highestRank 4 (some .int) :: (e_Y5_highestRank ++ (wsX50 ++ (wsX40 ++ (v_Y5_at ++ []))))
theorem te_Y5_highestRank : GoodIn lw_tbl e_Y5_highestRank := wGc zc3 (wGc zc155 (wGc zc123 (wGc zc122 (wGc zc34 (wGc zc287 (wGc zc286 (wGc zc269 (wGc zc272 (wGc zc268 (wG0))))))))))
theorem t_Y5_highestRank : GoodIn lw_tbl v_Y5_highestRank := wGc zc288 (wGa te_Y5_highestRank (wGa zcX5 (wGa zcX4 (wGa t_Y5_at (wG0)))))
set_option maxHeartbeats 4000000 in
set_option maxRecDepth 100000 in
theorem c_Y5_highestRank (l : Launch) (G : va_G) (K : Nat → ClassId) (ad : Nat → Nat) (S : Cst) (x0 : Nat)  (sz : Nat) : Met l yX5_highestRank v_Y5_highestRank ({ frames := 1, cells := 0, slots := 0, locals := 21 }) (va_Pc [.ref (ad x0)] (cSt G K ad sz S (iK S x0 4 ∧ p_Y5_highestRank S x0))) (va_Qi (fun (r : Int32) (u : Cst) => (r, u) = (f_Y5_highestRank S x0, S)) (cBt G K ad (va_A (wsC K ad S) sz)) (va_A (wsC K ad S) sz)) 0 0 (va_A (wsC K ad S) sz) := by
  refine Met.ofW (cc := cX5_highestRank) (maxL := 4) (ret := (some .int)) (by decide) rfl ?_
  intro p e s m args below meth c s₁ B hml hv
  obtain ⟨rfl, ⟨hsz, hP, hK, hD0, hTE⟩, hp⟩ := hv
  obtain ⟨k_x0, hp⟩ := hp
  have hx := B.exec
  have hb := B.bytes
  have hr := B.returns
  have hts := atoms_spec (ws := v_Y5_highestRank) B.pre
  have t_ := t_Y5_highestRank
  have mw : ∀ w ∈ e_Y5_highestRank, w ∈ v_Y5_highestRank := fun w h => List.mem_cons_of_mem _ (List.mem_append_left _ h)
  have hw := fun w (h : w ∈ e_Y5_highestRank) => hts w (mw w h)
  have iX5 : ∀ w ∈ wsX50, w ∈ v_Y5_highestRank := fun w h => List.mem_cons_of_mem _ (List.mem_append_right _ (List.mem_append_left _ h))
  have iX4 : ∀ w ∈ wsX40, w ∈ v_Y5_highestRank := fun w h => List.mem_cons_of_mem _ (List.mem_append_right _ (List.mem_append_right _ (List.mem_append_left _ h)))
  have j_Y5_at : ∀ w ∈ v_Y5_at, w ∈ v_Y5_highestRank := fun w h => List.mem_cons_of_mem _ (List.mem_append_right _ (List.mem_append_right _ (List.mem_append_right _ (List.mem_append_left _ h))))
  have hown : s.vm.findClass RX5 = some m.cls := findClass_of_methodNamed B.named
  have hlocks := B.notSynchronized
  subst hsz
  have hD := hD0.self (sz := s.heap.size)
  generalize hAe : va_A (wsC K ad S) s.heap.size = A at hD ⊢
  have hA : ∀ q : Nat, s.heap.size ≤ q → A q := fun q h => by rw [← hAe]; exact Or.inr h
  have hS : va_S A s.heap s.heap [] := va_S.rf
  have hl : lv_has (lg_sl ([.ref (ad x0)]) ++ List.replicate (4 - (lg_sl ([.ref (ad x0)])).length) Slot.unset).toArray 4 [(0, .ref (ad x0))] := by
    exact lv_entry ([.ref (ad x0)]) (n := 4) (Nat.le_of_ble_eq_true rfl)
  rw [lg_entry_eq]
  generalize (lg_sl ([.ref (ad x0)]) ++ List.replicate (4 - (lg_sl ([.ref (ad x0)])).length) Slot.unset).toArray = ls_ at hl ⊢
  refine wGen (fun Q hQ => ?_)
  obtain ⟨X, hX⟩ : ∃ X, f_Y5_highestRank S x0 = X := ⟨_, rfl⟩
  have L_4 : ∀ (n : Nat) (x1 : Int32) (x2 : Int32) (H : Heap) (locs : List Loc) (ls_ : Array Slot), lp_Y5_highestRank_4 S x0 n x1 x2 = X → lq_Y5_highestRank_4 S x0 n x1 x2 → va_P G vwCl (wsC K ad S) H → va_D A (wsC K ad S) → va_S A s.heap H locs → lv_has ls_ 4 [(0, .ref (ad x0)), (1, .int x1), (2, .int x2)] → W p l e ({ frames := 1, cells := 0, slots := 0, locals := 21 } : Room) s m #[Value.ref (ad x0)] below meth c H locs 0 0 Q (F0 m 4 ls_ []) := by
    intro n1
    induction n1 with
    | zero => intro x1 x2 H locs ls_ hE hp; exact False.elim hp
    | succ n1 ih1 =>
      intro x1 x2 H locs ls_ hO1 hp hP hD hS hl
      rw [lp_Y5_highestRank_4] at hO1
      rw [lq_Y5_highestRank_4] at hp
      obtain ⟨hp, hq1⟩ := hp
      generalize hE : st_Y5_highestRank_4 S x0 x1 x2 = Y1 at hO1 hq1
      unfold st_Y5_highestRank_4 at hE
      unfold ps_Y5_highestRank_4 at hp
      have B_Y5_highestRank_31 : ∀ (x1 : Int32) (x2 : Int32) (x3 : Option Nat) (H : Heap) (locs : List Loc) (ls_ : Array Slot), b_Y5_highestRank_31 S x0 x1 x2 x3 = Y1 → q_Y5_highestRank_31 S x0 x1 x2 x3 → va_P G vwCl (wsC K ad S) H → va_D A (wsC K ad S) → va_S A s.heap H locs → lv_has ls_ 4 [(0, .ref (ad x0)), (1, .int x1), (2, .int x2), (3, va_re ad x3)] → W p l e ({ frames := 1, cells := 0, slots := 0, locals := 21 } : Room) s m #[Value.ref (ad x0)] below meth c H locs 0 0 Q (F0 m 31 ls_ []) := by
        intro x1 x2 x3 H locs ls_ hE hp hP hD hS hl
        unfold b_Y5_highestRank_31 at hE
        unfold q_Y5_highestRank_31 at hp
        refine lv_iinc (i := 2) (v := (x2 + 1)) (lv' := [(2, .int (x2 + 1)), (0, .ref (ad x0)), (1, .int x1), (3, va_re ad x3)]) hx hb dX5_highestRank_31 hl (k := 2) rfl rfl (by decide) rfl (fun ls_ hl => ?_)
        refine lv_goto (tgt := 4) hx hb dX5_highestRank_34 (by decide) ?_
        subst hE
        dsimp only at hO1 hq1
        exact ih1 x1 (x2 + 1) _ _ _ hO1 hq1 hP hD hS (lv_sub hl [1, 2, 0] rfl)
      refine lv_iload_n hx hb dX5_highestRank_4 rfl (lv_at hl 2 rfl) ?_
      refine lv_aload_n hx hb dX5_highestRank_5 rfl (lv_at hl 0 rfl) ?_
      refine va_get (D := G) (ci := 4) (v := .int (giC S x0 1)) (C := RX5) (T := TX5) (N := 2) hx hb hts iX5 hown hK hP x0 (at_4 k_x0) rfl 1 (by decide) (hw (.fieldLink RX5 17 "MotionFloor$Pile" "size" "I") (List.mem_of_getElem? (i := 0) rfl)) (fun _ h9 => h9) rfl dX5_highestRank_6 ?_
      refine lv_icmp_ge (tgt := 37) hx hb dX5_highestRank_9 (by decide) (fun c1 => ?_) (fun c1 => ?_)
      · rw [if_pos c1] at hE hp
        subst hE
        have hE := hO1
        dsimp only at hE
        refine lv_iload_n hx hb dX5_highestRank_37 rfl (lv_at hl 1 rfl) ?_
        subst hQ
        exact W.iret (v := x1) hx hb hr (fun t ht hW => ⟨⟨x1, S, rfl, (pair_i (hE.trans hX.symm)), by rw [ht]; exact hP, hD⟩, hS.F ht⟩) hS.2.2 dX5_highestRank_38
      · rw [if_neg c1] at hE hp
        refine lv_aload_n hx hb dX5_highestRank_12 rfl (lv_at hl 0 rfl) ?_
        refine lv_iload_n hx hb dX5_highestRank_13 rfl (lv_at hl 2 rfl) ?_
        obtain ⟨hy2, hp⟩ := hp
        refine cGoq (va_runV (As := [.int x2]) (rest := []) ⟨hx, hb, hml, hown, hts⟩ (c_Y5_at l G K ad S x0 x2 _) (cwV 1 hts (wGV t_ (mw (.methodLink RX5 21 yX5_at) (List.mem_of_getElem? (i := 1) rfl)) (mw (.instanceMethod yX5_at) (List.mem_of_getElem? (i := 2) rfl)) (mw (.selects RX5 yX5_at yX5_at) (List.mem_of_getElem? (i := 3) rfl)) (mw (.initialized RX5) (List.mem_of_getElem? (i := 4) rfl)) j_Y5_at) rfl rfl rfl (by decide +kernel) ⟨Nat.le_of_ble_eq_true rfl, Nat.le_of_ble_eq_true rfl⟩) (cPV hK hTE hP hD 4 rfl (at_4 k_x0) ⟨k_x0, hy2⟩) rfl rfl hl.1 rfl (lv_room (Nat.le_of_ble_eq_true rfl)) dX5_highestRank_14 ⟨Nat.le_of_ble_eq_true rfl, Nat.le_of_ble_eq_true rfl⟩) hP hD hS hA (fun r4 u3 H locs hv hP hD hS => ?_)
        have h1 := congrArg Prod.fst hv
        have h2 := (congrArg Prod.snd hv).symm
        dsimp only at h1 h2
        subst h1
        subst h2
        refine cAstore_n (ad := ad) (r := (f_Y5_at S x0 x2)) (i := 3) (lv' := [(3, va_re ad (f_Y5_at S x0 x2)), (0, .ref (ad x0)), (1, .int x1), (2, .int x2)]) hx hb dX5_highestRank_17 rfl hl (by decide) rfl (fun ls_ hl => ?_)
        refine cAload_n (ad := ad) (r := (f_Y5_at S x0 x2)) hx hb dX5_highestRank_18 rfl (lv_at hl 0 rfl) ?_
        refine cIfnull (ad := ad) (r := (f_Y5_at S x0 x2)) (tgt := 31) hx hb dX5_highestRank_19 (by decide) (fun c5 => ?_) (fun c5 => ?_)
        · rw [if_pos c5] at hE hp
          exact B_Y5_highestRank_31 x1 x2 (f_Y5_at S x0 x2) _ _ _ hE hp hP hD hS (lv_sub hl [1, 2, 3, 0] rfl)
        · rw [if_neg c5] at hE hp
          refine lv_iload_n hx hb dX5_highestRank_22 rfl (lv_at hl 2 rfl) ?_
          refine cAload_n (ad := ad) (r := (f_Y5_at S x0 x2)) hx hb dX5_highestRank_23 rfl (lv_at hl 0 rfl) ?_
          obtain ⟨hy6, hp⟩ := hp
          refine cTop (r := (f_Y5_at S x0 x2)) hy6.1 ?_
          refine va_get (D := G) (ci := 3) (v := .int (giC S ((f_Y5_at S x0 x2).getD 0) 2)) (C := RX4) (T := TX4) (N := 16) hx hb hts iX4 hown hK hP ((f_Y5_at S x0 x2).getD 0) (at_3 hy6.2) rfl 2 (by decide) (hw (.fieldLink RX5 29 "MotionFloor$Motion" "kind" "I") (List.mem_of_getElem? (i := 5) rfl)) (fun _ h9 => h9) rfl dX5_highestRank_24 ?_
          refine va_mmax hx hb (by rw [hml]; exact hl.1.symm) hown (hw (.methodLink RX5 32 Lib.Math.max.name) (List.mem_of_getElem? (i := 6) rfl)) (hw (.static Lib.Math.max.name) (List.mem_of_getElem? (i := 7) rfl)) (hw (.initialized "java/lang/Math") (List.mem_of_getElem? (i := 8) rfl)) (hw (.code Lib.Math.max.name Lib.Math.max.code 2 (some .int)) (List.mem_of_getElem? (i := 9) rfl)) (Nat.le_of_ble_eq_true rfl) (Nat.le_of_ble_eq_true rfl) (Nat.le_of_ble_eq_true rfl) (Nat.le_of_ble_eq_true rfl) dX5_highestRank_27 ?_
          refine lv_istore_n (i := 1) (lv' := [(1, .int (if x1 < (giC S ((f_Y5_at S x0 x2).getD 0) 2) then (giC S ((f_Y5_at S x0 x2).getD 0) 2) else x1)), (3, va_re ad (f_Y5_at S x0 x2)), (0, .ref (ad x0)), (2, .int x2)]) hx hb dX5_highestRank_30 rfl hl (by decide) rfl (fun ls_ hl => ?_)
          exact B_Y5_highestRank_31 (if x1 < (giC S ((f_Y5_at S x0 x2).getD 0) 2) then (giC S ((f_Y5_at S x0 x2).getD 0) 2) else x1) x2 (f_Y5_at S x0 x2) _ _ _ hE hp hP hD hS (lv_sub hl [2, 0, 3, 1] rfl)
  have B_M : ∀ (H : Heap) (locs : List Loc) (ls_ : Array Slot), f_Y5_highestRank S x0 = X → p_Y5_highestRank S x0 → va_P G vwCl (wsC K ad S) H → va_D A (wsC K ad S) → va_S A s.heap H locs → lv_has ls_ 4 [(0, .ref (ad x0))] → W p l e ({ frames := 1, cells := 0, slots := 0, locals := 21 } : Room) s m #[Value.ref (ad x0)] below meth c H locs 0 0 Q (F0 m 0 ls_ []) := by
    intro  H locs ls_ hE hp hP hD hS hl
    unfold f_Y5_highestRank at hE
    unfold p_Y5_highestRank at hp
    refine lv_iconst (v := 0) hx hb dX5_highestRank_0 (by decide) ?_
    refine lv_istore_n (i := 1) (lv' := [(1, .int 0), (0, .ref (ad x0))]) hx hb dX5_highestRank_1 rfl hl (by decide) rfl (fun ls_ hl => ?_)
    refine lv_iconst (v := 0) hx hb dX5_highestRank_2 (by decide) ?_
    refine lv_istore_n (i := 2) (lv' := [(2, .int 0), (1, .int 0), (0, .ref (ad x0))]) hx hb dX5_highestRank_3 rfl hl (by decide) rfl (fun ls_ hl => ?_)
    exact L_4 100000 0 0 _ _ _ hE hp hP hD hS (lv_sub hl [2, 1, 0] rfl)
  exact B_M  _ _ _ hX hp hP hD hS hl
theorem gdX5_needsPlace_0 : ckS (List.drop 0 cX5_needsPlace.data.toList) 0 [(0, .iconst 0, 1), (1, .istore_n 1, 1), (2, .iload_n 1, 1), (3, .aload_n 0, 1), (4, .getfield 17, 3), (7, .if_icmp .ge 28, 3), (10, .aload_n 0, 1), (11, .iload_n 1, 1), (12, .invokevirtual 21, 3), (15, .astore_n 2, 1), (16, .aload_n 2, 1), (17, .ifnull 12, 3), (20, .aload_n 2, 1), (21, .invokevirtual 38, 3), (24, .ifCond .eq 5, 3), (27, .iconst 1, 1), (28, .ireturn, 1), (29, .iinc 1 1, 3), (32, .goto (-30), 3), (35, .iconst 0, 1), (36, .ireturn, 1)] = true := by decide +kernel
theorem dX5_needsPlace_0 : decode cX5_needsPlace 0 = .ok (.iconst 0, 1) := ckS_g gdX5_needsPlace_0 0 rfl
theorem dX5_needsPlace_1 : decode cX5_needsPlace 1 = .ok (.istore_n 1, 1) := ckS_g gdX5_needsPlace_0 1 rfl
theorem dX5_needsPlace_2 : decode cX5_needsPlace 2 = .ok (.iload_n 1, 1) := ckS_g gdX5_needsPlace_0 2 rfl
theorem dX5_needsPlace_3 : decode cX5_needsPlace 3 = .ok (.aload_n 0, 1) := ckS_g gdX5_needsPlace_0 3 rfl
theorem dX5_needsPlace_4 : decode cX5_needsPlace 4 = .ok (.getfield 17, 3) := ckS_g gdX5_needsPlace_0 4 rfl
theorem dX5_needsPlace_7 : decode cX5_needsPlace 7 = .ok (.if_icmp .ge 28, 3) := ckS_g gdX5_needsPlace_0 5 rfl
theorem dX5_needsPlace_10 : decode cX5_needsPlace 10 = .ok (.aload_n 0, 1) := ckS_g gdX5_needsPlace_0 6 rfl
theorem dX5_needsPlace_11 : decode cX5_needsPlace 11 = .ok (.iload_n 1, 1) := ckS_g gdX5_needsPlace_0 7 rfl
theorem dX5_needsPlace_12 : decode cX5_needsPlace 12 = .ok (.invokevirtual 21, 3) := ckS_g gdX5_needsPlace_0 8 rfl
theorem dX5_needsPlace_15 : decode cX5_needsPlace 15 = .ok (.astore_n 2, 1) := ckS_g gdX5_needsPlace_0 9 rfl
theorem dX5_needsPlace_16 : decode cX5_needsPlace 16 = .ok (.aload_n 2, 1) := ckS_g gdX5_needsPlace_0 10 rfl
theorem dX5_needsPlace_17 : decode cX5_needsPlace 17 = .ok (.ifnull 12, 3) := ckS_g gdX5_needsPlace_0 11 rfl
theorem dX5_needsPlace_20 : decode cX5_needsPlace 20 = .ok (.aload_n 2, 1) := ckS_g gdX5_needsPlace_0 12 rfl
theorem dX5_needsPlace_21 : decode cX5_needsPlace 21 = .ok (.invokevirtual 38, 3) := ckS_g gdX5_needsPlace_0 13 rfl
theorem dX5_needsPlace_24 : decode cX5_needsPlace 24 = .ok (.ifCond .eq 5, 3) := ckS_g gdX5_needsPlace_0 14 rfl
theorem dX5_needsPlace_27 : decode cX5_needsPlace 27 = .ok (.iconst 1, 1) := ckS_g gdX5_needsPlace_0 15 rfl
theorem dX5_needsPlace_28 : decode cX5_needsPlace 28 = .ok (.ireturn, 1) := ckS_g gdX5_needsPlace_0 16 rfl
theorem dX5_needsPlace_29 : decode cX5_needsPlace 29 = .ok (.iinc 1 1, 3) := ckS_g gdX5_needsPlace_0 17 rfl
theorem dX5_needsPlace_32 : decode cX5_needsPlace 32 = .ok (.goto (-30), 3) := ckS_g gdX5_needsPlace_0 18 rfl
theorem dX5_needsPlace_35 : decode cX5_needsPlace 35 = .ok (.iconst 0, 1) := ckS_g gdX5_needsPlace_0 19 rfl
theorem dX5_needsPlace_36 : decode cX5_needsPlace 36 = .ok (.ireturn, 1) := ckS_g gdX5_needsPlace_0 20 rfl
set_option maxRecDepth 100000 in
theorem zc289 : wZ (.selects RX4 yX4_needsPlace yX4_needsPlace) := ⟨wT2 (List.mem_of_getElem? (i := 137) (by decide +kernel)), Or.inl rfl⟩
set_option maxRecDepth 100000 in
theorem zc290 : wZ (.instanceMethod yX4_needsPlace) := ⟨wT2 (List.mem_of_getElem? (i := 136) (by decide +kernel)), Or.inl rfl⟩
set_option maxRecDepth 100000 in
theorem zc291 : wZ (.methodLink RX5 38 yX4_needsPlace) := ⟨wT2 (List.mem_of_getElem? (i := 135) (by decide +kernel)), Or.inl rfl⟩
set_option maxRecDepth 100000 in
theorem zc292 : wZ (.code yX5_needsPlace cX5_needsPlace 3 (some .boolean)) := ⟨wT2 (List.mem_of_getElem? (i := 134) rfl), Or.inl rfl⟩
def b_Y5_needsPlace_29 (S : Cst) (x0 : Nat) (x1 : Int32) (x2 : Option Nat) : (Int32) ⊕ (Int32) := Sum.inr ((x1 + 1))
def q_Y5_needsPlace_29 (S : Cst) (x0 : Nat) (x1 : Int32) (x2 : Option Nat) : Prop := True
def st_Y5_needsPlace_2 (S : Cst) (x0 : Nat) (x1 : Int32) : (Int32) ⊕ (Int32) := if (giC S x0 1) ≤ x1 then Sum.inl ((0 : Int32)) else if (f_Y5_at S x0 x1) = none then (b_Y5_needsPlace_29 S x0 x1 (f_Y5_at S x0 x1)) else if (f_Y4_needsPlace S ((f_Y5_at S x0 x1).getD 0)) = 0 then (b_Y5_needsPlace_29 S x0 x1 (f_Y5_at S x0 x1)) else Sum.inl ((1 : Int32))
def ps_Y5_needsPlace_2 (S : Cst) (x0 : Nat) (x1 : Int32) : Prop := (if (giC S x0 1) ≤ x1 then True else (p_Y5_at S x0 x1) ∧ (if (f_Y5_at S x0 x1) = none then (q_Y5_needsPlace_29 S x0 x1 (f_Y5_at S x0 x1)) else (iR S (f_Y5_at S x0 x1) 3) ∧ (p_Y4_needsPlace S ((f_Y5_at S x0 x1).getD 0)) ∧ (if (f_Y4_needsPlace S ((f_Y5_at S x0 x1).getD 0)) = 0 then (q_Y5_needsPlace_29 S x0 x1 (f_Y5_at S x0 x1)) else True)))
def lp_Y5_needsPlace_2 (S : Cst) (x0 : Nat) : Nat → Int32 → Int32
  | 0, _ => 0
  | n + 1, x1 => match st_Y5_needsPlace_2 S x0 x1 with
    | Sum.inl r => r
    | Sum.inr q => lp_Y5_needsPlace_2 S x0 n q
def lq_Y5_needsPlace_2 (S : Cst) (x0 : Nat) : Nat → Int32 → Prop
  | 0, _ => False
  | n + 1, x1 => ps_Y5_needsPlace_2 S x0 x1 ∧ (match st_Y5_needsPlace_2 S x0 x1 with
    | Sum.inl _ => True
    | Sum.inr q => lq_Y5_needsPlace_2 S x0 n q)
def f_Y5_needsPlace (S : Cst) (x0 : Nat) : Int32 := (lp_Y5_needsPlace_2 S x0 100000 0)
def p_Y5_needsPlace (S : Cst) (x0 : Nat) : Prop := (lq_Y5_needsPlace_2 S x0 100000 0)
def e_Y5_needsPlace : List Cond := [.fieldLink RX5 17 "MotionFloor$Pile" "size" "I", .methodLink RX5 21 yX5_at, .instanceMethod yX5_at, .selects RX5 yX5_at yX5_at, .initialized RX5, .methodLink RX5 38 yX4_needsPlace, .instanceMethod yX4_needsPlace, .selects RX4 yX4_needsPlace yX4_needsPlace, .initialized RX4]
def v_Y5_needsPlace : List Cond := .code yX5_needsPlace cX5_needsPlace 3 (some .boolean) :: (e_Y5_needsPlace ++ (wsX50 ++ (v_Y5_at ++ (v_Y4_needsPlace ++ []))))
theorem te_Y5_needsPlace : GoodIn lw_tbl e_Y5_needsPlace := wGc zc3 (wGc zc155 (wGc zc123 (wGc zc122 (wGc zc34 (wGc zc291 (wGc zc290 (wGc zc289 (wGc zc170 (wG0)))))))))
theorem t_Y5_needsPlace : GoodIn lw_tbl v_Y5_needsPlace := wGc zc292 (wGa te_Y5_needsPlace (wGa zcX5 (wGa t_Y5_at (wGa t_Y4_needsPlace (wG0)))))
set_option maxHeartbeats 4000000 in
set_option maxRecDepth 100000 in
theorem c_Y5_needsPlace (l : Launch) (G : va_G) (K : Nat → ClassId) (ad : Nat → Nat) (S : Cst) (x0 : Nat)  (sz : Nat) : Met l yX5_needsPlace v_Y5_needsPlace ({ frames := 1, cells := 0, slots := 0, locals := 21 }) (va_Pc [.ref (ad x0)] (cSt G K ad sz S (iK S x0 4 ∧ p_Y5_needsPlace S x0))) (va_Qi (fun (r : Int32) (u : Cst) => (r, u) = (f_Y5_needsPlace S x0, S)) (cBt G K ad (va_A (wsC K ad S) sz)) (va_A (wsC K ad S) sz)) 0 0 (va_A (wsC K ad S) sz) := by
  refine Met.ofW (cc := cX5_needsPlace) (maxL := 3) (ret := (some .boolean)) (by decide) rfl ?_
  intro p e s m args below meth c s₁ B hml hv
  obtain ⟨rfl, ⟨hsz, hP, hK, hD0, hTE⟩, hp⟩ := hv
  obtain ⟨k_x0, hp⟩ := hp
  have hx := B.exec
  have hb := B.bytes
  have hr := B.returns
  have hts := atoms_spec (ws := v_Y5_needsPlace) B.pre
  have t_ := t_Y5_needsPlace
  have mw : ∀ w ∈ e_Y5_needsPlace, w ∈ v_Y5_needsPlace := fun w h => List.mem_cons_of_mem _ (List.mem_append_left _ h)
  have hw := fun w (h : w ∈ e_Y5_needsPlace) => hts w (mw w h)
  have iX5 : ∀ w ∈ wsX50, w ∈ v_Y5_needsPlace := fun w h => List.mem_cons_of_mem _ (List.mem_append_right _ (List.mem_append_left _ h))
  have j_Y5_at : ∀ w ∈ v_Y5_at, w ∈ v_Y5_needsPlace := fun w h => List.mem_cons_of_mem _ (List.mem_append_right _ (List.mem_append_right _ (List.mem_append_left _ h)))
  have j_Y4_needsPlace : ∀ w ∈ v_Y4_needsPlace, w ∈ v_Y5_needsPlace := fun w h => List.mem_cons_of_mem _ (List.mem_append_right _ (List.mem_append_right _ (List.mem_append_right _ (List.mem_append_left _ h))))
  have hown : s.vm.findClass RX5 = some m.cls := findClass_of_methodNamed B.named
  have hlocks := B.notSynchronized
  subst hsz
  have hD := hD0.self (sz := s.heap.size)
  generalize hAe : va_A (wsC K ad S) s.heap.size = A at hD ⊢
  have hA : ∀ q : Nat, s.heap.size ≤ q → A q := fun q h => by rw [← hAe]; exact Or.inr h
  have hS : va_S A s.heap s.heap [] := va_S.rf
  have hl : lv_has (lg_sl ([.ref (ad x0)]) ++ List.replicate (3 - (lg_sl ([.ref (ad x0)])).length) Slot.unset).toArray 3 [(0, .ref (ad x0))] := by
    exact lv_entry ([.ref (ad x0)]) (n := 3) (Nat.le_of_ble_eq_true rfl)
  rw [lg_entry_eq]
  generalize (lg_sl ([.ref (ad x0)]) ++ List.replicate (3 - (lg_sl ([.ref (ad x0)])).length) Slot.unset).toArray = ls_ at hl ⊢
  refine wGen (fun Q hQ => ?_)
  obtain ⟨X, hX⟩ : ∃ X, f_Y5_needsPlace S x0 = X := ⟨_, rfl⟩
  have L_2 : ∀ (n : Nat) (x1 : Int32) (H : Heap) (locs : List Loc) (ls_ : Array Slot), lp_Y5_needsPlace_2 S x0 n x1 = X → lq_Y5_needsPlace_2 S x0 n x1 → va_P G vwCl (wsC K ad S) H → va_D A (wsC K ad S) → va_S A s.heap H locs → lv_has ls_ 3 [(0, .ref (ad x0)), (1, .int x1)] → W p l e ({ frames := 1, cells := 0, slots := 0, locals := 21 } : Room) s m #[Value.ref (ad x0)] below meth c H locs 0 0 Q (F0 m 2 ls_ []) := by
    intro n1
    induction n1 with
    | zero => intro x1 H locs ls_ hE hp; exact False.elim hp
    | succ n1 ih1 =>
      intro x1 H locs ls_ hO1 hp hP hD hS hl
      rw [lp_Y5_needsPlace_2] at hO1
      rw [lq_Y5_needsPlace_2] at hp
      obtain ⟨hp, hq1⟩ := hp
      generalize hE : st_Y5_needsPlace_2 S x0 x1 = Y1 at hO1 hq1
      unfold st_Y5_needsPlace_2 at hE
      unfold ps_Y5_needsPlace_2 at hp
      have B_Y5_needsPlace_29 : ∀ (x1 : Int32) (x2 : Option Nat) (H : Heap) (locs : List Loc) (ls_ : Array Slot), b_Y5_needsPlace_29 S x0 x1 x2 = Y1 → q_Y5_needsPlace_29 S x0 x1 x2 → va_P G vwCl (wsC K ad S) H → va_D A (wsC K ad S) → va_S A s.heap H locs → lv_has ls_ 3 [(0, .ref (ad x0)), (1, .int x1), (2, va_re ad x2)] → W p l e ({ frames := 1, cells := 0, slots := 0, locals := 21 } : Room) s m #[Value.ref (ad x0)] below meth c H locs 0 0 Q (F0 m 29 ls_ []) := by
        intro x1 x2 H locs ls_ hE hp hP hD hS hl
        unfold b_Y5_needsPlace_29 at hE
        unfold q_Y5_needsPlace_29 at hp
        refine lv_iinc (i := 1) (v := (x1 + 1)) (lv' := [(1, .int (x1 + 1)), (0, .ref (ad x0)), (2, va_re ad x2)]) hx hb dX5_needsPlace_29 hl (k := 1) rfl rfl (by decide) rfl (fun ls_ hl => ?_)
        refine lv_goto (tgt := 2) hx hb dX5_needsPlace_32 (by decide) ?_
        subst hE
        dsimp only at hO1 hq1
        exact ih1 (x1 + 1) _ _ _ hO1 hq1 hP hD hS (lv_sub hl [1, 0] rfl)
      refine lv_iload_n hx hb dX5_needsPlace_2 rfl (lv_at hl 1 rfl) ?_
      refine lv_aload_n hx hb dX5_needsPlace_3 rfl (lv_at hl 0 rfl) ?_
      refine va_get (D := G) (ci := 4) (v := .int (giC S x0 1)) (C := RX5) (T := TX5) (N := 2) hx hb hts iX5 hown hK hP x0 (at_4 k_x0) rfl 1 (by decide) (hw (.fieldLink RX5 17 "MotionFloor$Pile" "size" "I") (List.mem_of_getElem? (i := 0) rfl)) (fun _ h9 => h9) rfl dX5_needsPlace_4 ?_
      refine lv_icmp_ge (tgt := 35) hx hb dX5_needsPlace_7 (by decide) (fun c1 => ?_) (fun c1 => ?_)
      · rw [if_pos c1] at hE hp
        subst hE
        have hE := hO1
        dsimp only at hE
        refine lv_iconst (v := 0) hx hb dX5_needsPlace_35 (by decide) ?_
        subst hQ
        exact W.zret (v := (0 : Int32)) (ty := .boolean) hx hb hr rfl (fun t ht hW => ⟨⟨(0 : Int32), S, rfl, (pair_i (hE.trans hX.symm)), by rw [ht]; exact hP, hD⟩, hS.F ht⟩) hS.2.2 dX5_needsPlace_36
      · rw [if_neg c1] at hE hp
        refine lv_aload_n hx hb dX5_needsPlace_10 rfl (lv_at hl 0 rfl) ?_
        refine lv_iload_n hx hb dX5_needsPlace_11 rfl (lv_at hl 1 rfl) ?_
        obtain ⟨hy2, hp⟩ := hp
        refine cGoq (va_runV (As := [.int x1]) (rest := []) ⟨hx, hb, hml, hown, hts⟩ (c_Y5_at l G K ad S x0 x1 _) (cwV 1 hts (wGV t_ (mw (.methodLink RX5 21 yX5_at) (List.mem_of_getElem? (i := 1) rfl)) (mw (.instanceMethod yX5_at) (List.mem_of_getElem? (i := 2) rfl)) (mw (.selects RX5 yX5_at yX5_at) (List.mem_of_getElem? (i := 3) rfl)) (mw (.initialized RX5) (List.mem_of_getElem? (i := 4) rfl)) j_Y5_at) rfl rfl rfl (by decide +kernel) ⟨Nat.le_of_ble_eq_true rfl, Nat.le_of_ble_eq_true rfl⟩) (cPV hK hTE hP hD 4 rfl (at_4 k_x0) ⟨k_x0, hy2⟩) rfl rfl hl.1 rfl (lv_room (Nat.le_of_ble_eq_true rfl)) dX5_needsPlace_12 ⟨Nat.le_of_ble_eq_true rfl, Nat.le_of_ble_eq_true rfl⟩) hP hD hS hA (fun r4 u3 H locs hv hP hD hS => ?_)
        have h1 := congrArg Prod.fst hv
        have h2 := (congrArg Prod.snd hv).symm
        dsimp only at h1 h2
        subst h1
        subst h2
        refine cAstore_n (ad := ad) (r := (f_Y5_at S x0 x1)) (i := 2) (lv' := [(2, va_re ad (f_Y5_at S x0 x1)), (0, .ref (ad x0)), (1, .int x1)]) hx hb dX5_needsPlace_15 rfl hl (by decide) rfl (fun ls_ hl => ?_)
        refine cAload_n (ad := ad) (r := (f_Y5_at S x0 x1)) hx hb dX5_needsPlace_16 rfl (lv_at hl 0 rfl) ?_
        refine cIfnull (ad := ad) (r := (f_Y5_at S x0 x1)) (tgt := 29) hx hb dX5_needsPlace_17 (by decide) (fun c5 => ?_) (fun c5 => ?_)
        · rw [if_pos c5] at hE hp
          exact B_Y5_needsPlace_29 x1 (f_Y5_at S x0 x1) _ _ _ hE hp hP hD hS (lv_sub hl [1, 2, 0] rfl)
        · rw [if_neg c5] at hE hp
          refine cAload_n (ad := ad) (r := (f_Y5_at S x0 x1)) hx hb dX5_needsPlace_20 rfl (lv_at hl 0 rfl) ?_
          obtain ⟨hy6, hp⟩ := hp
          refine cTop (r := (f_Y5_at S x0 x1)) hy6.1 ?_
          obtain ⟨hy7, hp⟩ := hp
          refine cGoi (va_runV (As := []) (rest := []) ⟨hx, hb, hml, hown, hts⟩ (c_Y4_needsPlace l G K ad S ((f_Y5_at S x0 x1).getD 0) _) (cwV 0 hts (wGV t_ (mw (.methodLink RX5 38 yX4_needsPlace) (List.mem_of_getElem? (i := 5) rfl)) (mw (.instanceMethod yX4_needsPlace) (List.mem_of_getElem? (i := 6) rfl)) (mw (.selects RX4 yX4_needsPlace yX4_needsPlace) (List.mem_of_getElem? (i := 7) rfl)) (mw (.initialized RX4) (List.mem_of_getElem? (i := 8) rfl)) j_Y4_needsPlace) rfl rfl rfl (by decide +kernel) ⟨Nat.le_of_ble_eq_true rfl, Nat.le_of_ble_eq_true rfl⟩) (cPV hK hTE hP hD 3 rfl (at_3 hy6.2) ⟨hy6.2, hy7⟩) rfl rfl hl.1 rfl (lv_room (Nat.le_of_ble_eq_true rfl)) dX5_needsPlace_21 ⟨Nat.le_of_ble_eq_true rfl, Nat.le_of_ble_eq_true rfl⟩) hP hD hS hA (fun r9 u8 H locs hv hP hD hS => ?_)
          have h1 := congrArg Prod.fst hv
          have h2 := (congrArg Prod.snd hv).symm
          dsimp only at h1 h2
          subst h1
          subst h2
          refine lv_if_eq (tgt := 29) hx hb dX5_needsPlace_24 (by decide) (fun c10 => ?_) (fun c10 => ?_)
          · rw [if_pos c10] at hE hp
            exact B_Y5_needsPlace_29 x1 (f_Y5_at S x0 x1) _ _ _ hE hp hP hD hS (lv_sub hl [1, 2, 0] rfl)
          · rw [if_neg c10] at hE hp
            subst hE
            have hE := hO1
            dsimp only at hE
            refine lv_iconst (v := 1) hx hb dX5_needsPlace_27 (by decide) ?_
            subst hQ
            exact W.zret (v := (1 : Int32)) (ty := .boolean) hx hb hr rfl (fun t ht hW => ⟨⟨(1 : Int32), S, rfl, (pair_i (hE.trans hX.symm)), by rw [ht]; exact hP, hD⟩, hS.F ht⟩) hS.2.2 dX5_needsPlace_28
  have B_M : ∀ (H : Heap) (locs : List Loc) (ls_ : Array Slot), f_Y5_needsPlace S x0 = X → p_Y5_needsPlace S x0 → va_P G vwCl (wsC K ad S) H → va_D A (wsC K ad S) → va_S A s.heap H locs → lv_has ls_ 3 [(0, .ref (ad x0))] → W p l e ({ frames := 1, cells := 0, slots := 0, locals := 21 } : Room) s m #[Value.ref (ad x0)] below meth c H locs 0 0 Q (F0 m 0 ls_ []) := by
    intro  H locs ls_ hE hp hP hD hS hl
    unfold f_Y5_needsPlace at hE
    unfold p_Y5_needsPlace at hp
    refine lv_iconst (v := 0) hx hb dX5_needsPlace_0 (by decide) ?_
    refine lv_istore_n (i := 1) (lv' := [(1, .int 0), (0, .ref (ad x0))]) hx hb dX5_needsPlace_1 rfl hl (by decide) rfl (fun ls_ hl => ?_)
    exact L_2 100000 0 _ _ _ hE hp hP hD hS (lv_sub hl [1, 0] rfl)
  exact B_M  _ _ _ hX hp hP hD hS hl
theorem gdX6_wordAt_0 : ckS (List.drop 0 cX6_wordAt.data.toList) 0 [(0, .aload_n 0, 1), (1, .getfield 18, 3), (4, .iconst 0, 1), (5, .invokevirtual 22, 3), (8, .astore_n 2, 1), (9, .aload_n 2, 1), (10, .ifnonnull 7, 3), (13, .iconst (-1), 1), (14, .goto 11, 3), (17, .aload_n 2, 1), (18, .getfield 31, 3), (21, .iload_n 1, 1), (22, .invokevirtual 35, 3), (25, .ireturn, 1)] = true := by decide +kernel
theorem dX6_wordAt_0 : decode cX6_wordAt 0 = .ok (.aload_n 0, 1) := ckS_g gdX6_wordAt_0 0 rfl
theorem dX6_wordAt_1 : decode cX6_wordAt 1 = .ok (.getfield 18, 3) := ckS_g gdX6_wordAt_0 1 rfl
theorem dX6_wordAt_4 : decode cX6_wordAt 4 = .ok (.iconst 0, 1) := ckS_g gdX6_wordAt_0 2 rfl
theorem dX6_wordAt_5 : decode cX6_wordAt 5 = .ok (.invokevirtual 22, 3) := ckS_g gdX6_wordAt_0 3 rfl
theorem dX6_wordAt_8 : decode cX6_wordAt 8 = .ok (.astore_n 2, 1) := ckS_g gdX6_wordAt_0 4 rfl
theorem dX6_wordAt_9 : decode cX6_wordAt 9 = .ok (.aload_n 2, 1) := ckS_g gdX6_wordAt_0 5 rfl
theorem dX6_wordAt_10 : decode cX6_wordAt 10 = .ok (.ifnonnull 7, 3) := ckS_g gdX6_wordAt_0 6 rfl
theorem dX6_wordAt_13 : decode cX6_wordAt 13 = .ok (.iconst (-1), 1) := ckS_g gdX6_wordAt_0 7 rfl
theorem dX6_wordAt_14 : decode cX6_wordAt 14 = .ok (.goto 11, 3) := ckS_g gdX6_wordAt_0 8 rfl
theorem dX6_wordAt_17 : decode cX6_wordAt 17 = .ok (.aload_n 2, 1) := ckS_g gdX6_wordAt_0 9 rfl
theorem dX6_wordAt_18 : decode cX6_wordAt 18 = .ok (.getfield 31, 3) := ckS_g gdX6_wordAt_0 10 rfl
theorem dX6_wordAt_21 : decode cX6_wordAt 21 = .ok (.iload_n 1, 1) := ckS_g gdX6_wordAt_0 11 rfl
theorem dX6_wordAt_22 : decode cX6_wordAt 22 = .ok (.invokevirtual 35, 3) := ckS_g gdX6_wordAt_0 12 rfl
theorem dX6_wordAt_25 : decode cX6_wordAt 25 = .ok (.ireturn, 1) := ckS_g gdX6_wordAt_0 13 rfl
set_option maxRecDepth 100000 in
theorem zc293 : wZ (.methodLink RX6 35 yX9_wordAt) := ⟨wT4 (List.mem_of_getElem? (i := 169) (by decide +kernel)), Or.inl rfl⟩
set_option maxRecDepth 100000 in
theorem zc294 : wZ (.fieldLink RX6 31 "MotionFloor$Motion" "text" "LMotionFloor$Text;") := ⟨wT3 (List.mem_of_getElem? (i := 54) (by decide +kernel)), Or.inl rfl⟩
set_option maxRecDepth 100000 in
theorem zc295 : wZ (.code yX6_wordAt cX6_wordAt 3 (some .int)) := ⟨wT4 (List.mem_of_getElem? (i := 168) rfl), Or.inl rfl⟩
def b_Y6_wordAt_25 (S : Cst) (x0 : Nat) (x1 : Int32) (x2 : Option Nat) (y0 : Int32) : Int32 := y0
def q_Y6_wordAt_25 (S : Cst) (x0 : Nat) (x1 : Int32) (x2 : Option Nat) (y0 : Int32) : Prop := True
def f_Y6_wordAt (S : Cst) (x0 : Nat) (x1 : Int32) : Int32 := if (f_Y5_at S ((grC S x0 1).getD 0) (0 : Int32)) = none then (b_Y6_wordAt_25 S x0 x1 (f_Y5_at S ((grC S x0 1).getD 0) (0 : Int32)) (-1)) else (b_Y6_wordAt_25 S x0 x1 (f_Y5_at S ((grC S x0 1).getD 0) (0 : Int32)) (f_Y9_wordAt S ((grC S ((f_Y5_at S ((grC S x0 1).getD 0) (0 : Int32)).getD 0) 12).getD 0) x1))
def p_Y6_wordAt (S : Cst) (x0 : Nat) (x1 : Int32) : Prop := (iR S (grC S x0 1) 4) ∧ (p_Y5_at S ((grC S x0 1).getD 0) (0 : Int32)) ∧ (if (f_Y5_at S ((grC S x0 1).getD 0) (0 : Int32)) = none then (q_Y6_wordAt_25 S x0 x1 (f_Y5_at S ((grC S x0 1).getD 0) (0 : Int32)) (-1)) else (iR S (f_Y5_at S ((grC S x0 1).getD 0) (0 : Int32)) 3) ∧ (iR S (grC S ((f_Y5_at S ((grC S x0 1).getD 0) (0 : Int32)).getD 0) 12) 6) ∧ (p_Y9_wordAt S ((grC S ((f_Y5_at S ((grC S x0 1).getD 0) (0 : Int32)).getD 0) 12).getD 0) x1) ∧ (q_Y6_wordAt_25 S x0 x1 (f_Y5_at S ((grC S x0 1).getD 0) (0 : Int32)) (f_Y9_wordAt S ((grC S ((f_Y5_at S ((grC S x0 1).getD 0) (0 : Int32)).getD 0) 12).getD 0) x1)))
def e_Y6_wordAt : List Cond := [.fieldLink RX6 18 "MotionFloor$Place" "pile" "LMotionFloor$Pile;", .methodLink RX6 22 yX5_at, .instanceMethod yX5_at, .selects RX5 yX5_at yX5_at, .initialized RX5, .fieldLink RX6 31 "MotionFloor$Motion" "text" "LMotionFloor$Text;", .methodLink RX6 35 yX9_wordAt, .instanceMethod yX9_wordAt, .selects RX9 yX9_wordAt yX9_wordAt, .initialized RX9]
def v_Y6_wordAt : List Cond := .code yX6_wordAt cX6_wordAt 3 (some .int) :: (e_Y6_wordAt ++ (wsX60 ++ (wsX40 ++ (v_Y5_at ++ (v_Y9_wordAt ++ [])))))
theorem te_Y6_wordAt : GoodIn lw_tbl e_Y6_wordAt := wGc zc125 (wGc zc124 (wGc zc123 (wGc zc122 (wGc zc34 (wGc zc294 (wGc zc293 (wGc zc132 (wGc zc131 (wGc zc130 (wG0))))))))))
theorem t_Y6_wordAt : GoodIn lw_tbl v_Y6_wordAt := wGc zc295 (wGa te_Y6_wordAt (wGa zcX6 (wGa zcX4 (wGa t_Y5_at (wGa t_Y9_wordAt (wG0))))))
set_option maxHeartbeats 4000000 in
set_option maxRecDepth 100000 in
theorem c_Y6_wordAt (l : Launch) (G : va_G) (K : Nat → ClassId) (ad : Nat → Nat) (S : Cst) (x0 : Nat) (a1 : Int32) (sz : Nat) : Met l yX6_wordAt v_Y6_wordAt ({ frames := 1, cells := 0, slots := 0, locals := 21 }) (va_Pc [.ref (ad x0), .int a1] (cSt G K ad sz S (iK S x0 5 ∧ p_Y6_wordAt S x0 a1))) (va_Qi (fun (r : Int32) (u : Cst) => (r, u) = (f_Y6_wordAt S x0 a1, S)) (cBt G K ad (va_A (wsC K ad S) sz)) (va_A (wsC K ad S) sz)) 0 0 (va_A (wsC K ad S) sz) := by
  refine Met.ofW (cc := cX6_wordAt) (maxL := 3) (ret := (some .int)) (by decide) rfl ?_
  intro p e s m args below meth c s₁ B hml hv
  obtain ⟨rfl, ⟨hsz, hP, hK, hD0, hTE⟩, hp⟩ := hv
  obtain ⟨k_x0, hp⟩ := hp
  have hx := B.exec
  have hb := B.bytes
  have hr := B.returns
  have hts := atoms_spec (ws := v_Y6_wordAt) B.pre
  have t_ := t_Y6_wordAt
  have mw : ∀ w ∈ e_Y6_wordAt, w ∈ v_Y6_wordAt := fun w h => List.mem_cons_of_mem _ (List.mem_append_left _ h)
  have hw := fun w (h : w ∈ e_Y6_wordAt) => hts w (mw w h)
  have iX6 : ∀ w ∈ wsX60, w ∈ v_Y6_wordAt := fun w h => List.mem_cons_of_mem _ (List.mem_append_right _ (List.mem_append_left _ h))
  have iX4 : ∀ w ∈ wsX40, w ∈ v_Y6_wordAt := fun w h => List.mem_cons_of_mem _ (List.mem_append_right _ (List.mem_append_right _ (List.mem_append_left _ h)))
  have j_Y5_at : ∀ w ∈ v_Y5_at, w ∈ v_Y6_wordAt := fun w h => List.mem_cons_of_mem _ (List.mem_append_right _ (List.mem_append_right _ (List.mem_append_right _ (List.mem_append_left _ h))))
  have j_Y9_wordAt : ∀ w ∈ v_Y9_wordAt, w ∈ v_Y6_wordAt := fun w h => List.mem_cons_of_mem _ (List.mem_append_right _ (List.mem_append_right _ (List.mem_append_right _ (List.mem_append_right _ (List.mem_append_left _ h)))))
  have hown : s.vm.findClass RX6 = some m.cls := findClass_of_methodNamed B.named
  have hlocks := B.notSynchronized
  subst hsz
  have hD := hD0.self (sz := s.heap.size)
  generalize hAe : va_A (wsC K ad S) s.heap.size = A at hD ⊢
  have hA : ∀ q : Nat, s.heap.size ≤ q → A q := fun q h => by rw [← hAe]; exact Or.inr h
  have hS : va_S A s.heap s.heap [] := va_S.rf
  have hl : lv_has (lg_sl ([.ref (ad x0), .int a1]) ++ List.replicate (3 - (lg_sl ([.ref (ad x0), .int a1])).length) Slot.unset).toArray 3 [(0, .ref (ad x0)), (1, .int a1)] := by
    exact lv_entry ([.ref (ad x0), .int a1]) (n := 3) (Nat.le_of_ble_eq_true rfl)
  rw [lg_entry_eq]
  generalize (lg_sl ([.ref (ad x0), .int a1]) ++ List.replicate (3 - (lg_sl ([.ref (ad x0), .int a1])).length) Slot.unset).toArray = ls_ at hl ⊢
  refine wGen (fun Q hQ => ?_)
  obtain ⟨X, hX⟩ : ∃ X, f_Y6_wordAt S x0 a1 = X := ⟨_, rfl⟩
  have B_Y6_wordAt_25 : ∀ (x1 : Int32) (x2 : Option Nat) (y0 : Int32) (H : Heap) (locs : List Loc) (ls_ : Array Slot), b_Y6_wordAt_25 S x0 x1 x2 y0 = X → q_Y6_wordAt_25 S x0 x1 x2 y0 → va_P G vwCl (wsC K ad S) H → va_D A (wsC K ad S) → va_S A s.heap H locs → lv_has ls_ 3 [(0, .ref (ad x0)), (1, .int x1), (2, va_re ad x2)] → W p l e ({ frames := 1, cells := 0, slots := 0, locals := 21 } : Room) s m #[Value.ref (ad x0), Value.int a1] below meth c H locs 0 0 Q (F0 m 25 ls_ [.int y0]) := by
    intro x1 x2 y0 H locs ls_ hE hp hP hD hS hl
    unfold b_Y6_wordAt_25 at hE
    unfold q_Y6_wordAt_25 at hp
    subst hQ
    exact W.iret (v := y0) hx hb hr (fun t ht hW => ⟨⟨y0, S, rfl, (pair_i (hE.trans hX.symm)), by rw [ht]; exact hP, hD⟩, hS.F ht⟩) hS.2.2 dX6_wordAt_25
  have B_M : ∀ (x1 : Int32) (H : Heap) (locs : List Loc) (ls_ : Array Slot), f_Y6_wordAt S x0 x1 = X → p_Y6_wordAt S x0 x1 → va_P G vwCl (wsC K ad S) H → va_D A (wsC K ad S) → va_S A s.heap H locs → lv_has ls_ 3 [(0, .ref (ad x0)), (1, .int x1)] → W p l e ({ frames := 1, cells := 0, slots := 0, locals := 21 } : Room) s m #[Value.ref (ad x0), Value.int a1] below meth c H locs 0 0 Q (F0 m 0 ls_ []) := by
    intro x1 H locs ls_ hE hp hP hD hS hl
    unfold f_Y6_wordAt at hE
    unfold p_Y6_wordAt at hp
    refine lv_aload_n hx hb dX6_wordAt_0 rfl (lv_at hl 0 rfl) ?_
    refine va_get (D := G) (ci := 5) (v := va_re ad (grC S x0 1)) (C := RX6) (T := TX6) (N := 2) hx hb hts iX6 hown hK hP x0 (at_5 k_x0) rfl 1 (by decide) (hw (.fieldLink RX6 18 "MotionFloor$Place" "pile" "LMotionFloor$Pile;") (List.mem_of_getElem? (i := 0) rfl)) (fun _ h9 => h9) rfl dX6_wordAt_1 ?_
    refine lv_iconst (v := 0) hx hb dX6_wordAt_4 (by decide) ?_
    obtain ⟨hy1, hp⟩ := hp
    refine cTop2 (r := (grC S x0 1)) hy1.1 ?_
    obtain ⟨hy2, hp⟩ := hp
    refine cGoq (va_runV (As := [.int 0]) (rest := []) ⟨hx, hb, hml, hown, hts⟩ (c_Y5_at l G K ad S ((grC S x0 1).getD 0) (0 : Int32) _) (cwV 1 hts (wGV t_ (mw (.methodLink RX6 22 yX5_at) (List.mem_of_getElem? (i := 1) rfl)) (mw (.instanceMethod yX5_at) (List.mem_of_getElem? (i := 2) rfl)) (mw (.selects RX5 yX5_at yX5_at) (List.mem_of_getElem? (i := 3) rfl)) (mw (.initialized RX5) (List.mem_of_getElem? (i := 4) rfl)) j_Y5_at) rfl rfl rfl (by decide +kernel) ⟨Nat.le_of_ble_eq_true rfl, Nat.le_of_ble_eq_true rfl⟩) (cPV hK hTE hP hD 4 rfl (at_4 hy1.2) ⟨hy1.2, hy2⟩) rfl rfl hl.1 rfl (lv_room (Nat.le_of_ble_eq_true rfl)) dX6_wordAt_5 ⟨Nat.le_of_ble_eq_true rfl, Nat.le_of_ble_eq_true rfl⟩) hP hD hS hA (fun r4 u3 H locs hv hP hD hS => ?_)
    have h1 := congrArg Prod.fst hv
    have h2 := (congrArg Prod.snd hv).symm
    dsimp only at h1 h2
    subst h1
    subst h2
    refine cAstore_n (ad := ad) (r := (f_Y5_at S ((grC S x0 1).getD 0) (0 : Int32))) (i := 2) (lv' := [(2, va_re ad (f_Y5_at S ((grC S x0 1).getD 0) (0 : Int32))), (0, .ref (ad x0)), (1, .int x1)]) hx hb dX6_wordAt_8 rfl hl (by decide) rfl (fun ls_ hl => ?_)
    refine cAload_n (ad := ad) (r := (f_Y5_at S ((grC S x0 1).getD 0) (0 : Int32))) hx hb dX6_wordAt_9 rfl (lv_at hl 0 rfl) ?_
    refine cIfnonnull (ad := ad) (r := (f_Y5_at S ((grC S x0 1).getD 0) (0 : Int32))) (tgt := 17) hx hb dX6_wordAt_10 (by decide) (fun c5 => ?_) (fun c5 => ?_)
    · rw [if_pos c5] at hE hp
      refine lv_iconst (v := (-1)) hx hb dX6_wordAt_13 (by decide) ?_
      refine lv_goto (tgt := 25) hx hb dX6_wordAt_14 (by decide) ?_
      exact B_Y6_wordAt_25 x1 (f_Y5_at S ((grC S x0 1).getD 0) (0 : Int32)) (-1) _ _ _ hE hp hP hD hS (lv_sub hl [1, 2, 0] rfl)
    · rw [if_neg c5] at hE hp
      refine cAload_n (ad := ad) (r := (f_Y5_at S ((grC S x0 1).getD 0) (0 : Int32))) hx hb dX6_wordAt_17 rfl (lv_at hl 0 rfl) ?_
      obtain ⟨hy6, hp⟩ := hp
      refine cTop (r := (f_Y5_at S ((grC S x0 1).getD 0) (0 : Int32))) hy6.1 ?_
      refine va_get (D := G) (ci := 3) (v := va_re ad (grC S ((f_Y5_at S ((grC S x0 1).getD 0) (0 : Int32)).getD 0) 12)) (C := RX4) (T := TX4) (N := 16) hx hb hts iX4 hown hK hP ((f_Y5_at S ((grC S x0 1).getD 0) (0 : Int32)).getD 0) (at_3 hy6.2) rfl 12 (by decide) (hw (.fieldLink RX6 31 "MotionFloor$Motion" "text" "LMotionFloor$Text;") (List.mem_of_getElem? (i := 5) rfl)) (fun _ h9 => h9) rfl dX6_wordAt_18 ?_
      refine lv_iload_n hx hb dX6_wordAt_21 rfl (lv_at hl 2 rfl) ?_
      obtain ⟨hy7, hp⟩ := hp
      refine cTop2 (r := (grC S ((f_Y5_at S ((grC S x0 1).getD 0) (0 : Int32)).getD 0) 12)) hy7.1 ?_
      obtain ⟨hy8, hp⟩ := hp
      refine cGoi (va_runV (As := [.int x1]) (rest := []) ⟨hx, hb, hml, hown, hts⟩ (c_Y9_wordAt l G K ad S ((grC S ((f_Y5_at S ((grC S x0 1).getD 0) (0 : Int32)).getD 0) 12).getD 0) x1 _) (cwV 1 hts (wGV t_ (mw (.methodLink RX6 35 yX9_wordAt) (List.mem_of_getElem? (i := 6) rfl)) (mw (.instanceMethod yX9_wordAt) (List.mem_of_getElem? (i := 7) rfl)) (mw (.selects RX9 yX9_wordAt yX9_wordAt) (List.mem_of_getElem? (i := 8) rfl)) (mw (.initialized RX9) (List.mem_of_getElem? (i := 9) rfl)) j_Y9_wordAt) rfl rfl rfl (by decide +kernel) ⟨Nat.le_of_ble_eq_true rfl, Nat.le_of_ble_eq_true rfl⟩) (cPV hK hTE hP hD 6 rfl (at_6 hy7.2) ⟨hy7.2, hy8⟩) rfl rfl hl.1 rfl (lv_room (Nat.le_of_ble_eq_true rfl)) dX6_wordAt_22 ⟨Nat.le_of_ble_eq_true rfl, Nat.le_of_ble_eq_true rfl⟩) hP hD hS hA (fun r10 u9 H locs hv hP hD hS => ?_)
      have h1 := congrArg Prod.fst hv
      have h2 := (congrArg Prod.snd hv).symm
      dsimp only at h1 h2
      subst h1
      subst h2
      exact B_Y6_wordAt_25 x1 (f_Y5_at S ((grC S x0 1).getD 0) (0 : Int32)) (f_Y9_wordAt S ((grC S ((f_Y5_at S ((grC S x0 1).getD 0) (0 : Int32)).getD 0) 12).getD 0) x1) _ _ _ hE hp hP hD hS (lv_sub hl [1, 2, 0] rfl)
  exact B_M a1 _ _ _ hX hp hP hD hS hl
theorem gdX6_hold_0 : ckS (List.drop 0 cX6_hold.data.toList) 0 [(0, .aload_n 0, 1), (1, .iload_n 1, 1), (2, .putfield 9, 3), (5, .aload_n 0, 1), (6, .getfield 18, 3), (9, .aload_n 2, 1), (10, .invokevirtual 41, 3), (13, .return_, 1)] = true := by decide +kernel
theorem dX6_hold_0 : decode cX6_hold 0 = .ok (.aload_n 0, 1) := ckS_g gdX6_hold_0 0 rfl
theorem dX6_hold_1 : decode cX6_hold 1 = .ok (.iload_n 1, 1) := ckS_g gdX6_hold_0 1 rfl
theorem dX6_hold_2 : decode cX6_hold 2 = .ok (.putfield 9, 3) := ckS_g gdX6_hold_0 2 rfl
theorem dX6_hold_5 : decode cX6_hold 5 = .ok (.aload_n 0, 1) := ckS_g gdX6_hold_0 3 rfl
theorem dX6_hold_6 : decode cX6_hold 6 = .ok (.getfield 18, 3) := ckS_g gdX6_hold_0 4 rfl
theorem dX6_hold_9 : decode cX6_hold 9 = .ok (.aload_n 2, 1) := ckS_g gdX6_hold_0 5 rfl
theorem dX6_hold_10 : decode cX6_hold 10 = .ok (.invokevirtual 41, 3) := ckS_g gdX6_hold_0 6 rfl
theorem dX6_hold_13 : decode cX6_hold 13 = .ok (.return_, 1) := ckS_g gdX6_hold_0 7 rfl
set_option maxRecDepth 100000 in
theorem zc296 : wZ (.methodLink RX6 41 yX5_put) := ⟨wT3 (List.mem_of_getElem? (i := 111) (by decide +kernel)), Or.inl rfl⟩
set_option maxRecDepth 100000 in
theorem zc297 : wZ (.code yX6_hold cX6_hold 3 none) := ⟨wT3 (List.mem_of_getElem? (i := 110) rfl), Or.inl rfl⟩
def b_Y6_hold_13a (S : Cst) (x0 : Nat) (x1 : Int32) (x2 : Option Nat) : Int32 × Cst := (0, S)
def q_Y6_hold_13a (S : Cst) (x0 : Nat) (x1 : Int32) (x2 : Option Nat) : Prop := True
def f_Y6_hold (S : Cst) (x0 : Nat) (x1 : Int32) (x2 : Option Nat) : Int32 × Cst := (b_Y6_hold_13a ((f_Y5_put (siC S x0 0 x1) ((grC (siC S x0 0 x1) x0 1).getD 0) x2).2) x0 x1 x2)
def p_Y6_hold (S : Cst) (x0 : Nat) (x1 : Int32) (x2 : Option Nat) : Prop := (iR (siC S x0 0 x1) (grC (siC S x0 0 x1) x0 1) 4) ∧ (p_Y5_put (siC S x0 0 x1) ((grC (siC S x0 0 x1) x0 1).getD 0) x2) ∧ (q_Y6_hold_13a ((f_Y5_put (siC S x0 0 x1) ((grC (siC S x0 0 x1) x0 1).getD 0) x2).2) x0 x1 x2)
def e_Y6_hold : List Cond := [.fieldLink RX6 9 "MotionFloor$Place" "sort" "I", .fieldLink RX6 18 "MotionFloor$Place" "pile" "LMotionFloor$Pile;", .methodLink RX6 41 yX5_put, .instanceMethod yX5_put, .selects RX5 yX5_put yX5_put, .initialized RX5]
def v_Y6_hold : List Cond := .code yX6_hold cX6_hold 3 none :: (e_Y6_hold ++ (wsX60 ++ (v_Y5_put ++ [])))
theorem te_Y6_hold : GoodIn lw_tbl e_Y6_hold := wGc zc110 (wGc zc125 (wGc zc296 (wGc zc159 (wGc zc158 (wGc zc34 (wG0))))))
theorem t_Y6_hold : GoodIn lw_tbl v_Y6_hold := wGc zc297 (wGa te_Y6_hold (wGa zcX6 (wGa t_Y5_put (wG0))))
set_option maxHeartbeats 4000000 in
set_option maxRecDepth 100000 in
theorem c_Y6_hold (l : Launch) (G : va_G) (K : Nat → ClassId) (ad : Nat → Nat) (S0 : Cst) (x0 : Nat) (a1 : Int32) (a2 : Option Nat) (sz : Nat) : Met l yX6_hold v_Y6_hold ({ frames := 1, cells := 0, slots := 0, locals := 21 }) (va_Pc [.ref (ad x0), .int a1, va_re ad a2] (cSt G K ad sz S0 (iK S0 x0 5 ∧ p_Y6_hold S0 x0 a1 a2))) (va_Qv (fun u : Cst => (0, u) = f_Y6_hold S0 x0 a1 a2 ∧ eK S0 u) (cBt G K ad (va_A (wsC K ad S0) sz)) (va_A (wsC K ad S0) sz)) 0 0 (va_A (wsC K ad S0) sz) := by
  refine Met.ofW (cc := cX6_hold) (maxL := 3) (ret := none) (by decide) rfl ?_
  intro p e s m args below meth c s₁ B hml hv
  obtain ⟨rfl, ⟨hsz, hP, hK, hD0, hTE⟩, hp⟩ := hv
  obtain ⟨k_x0, hp⟩ := hp
  have hx := B.exec
  have hb := B.bytes
  have hr := B.returns
  have hts := atoms_spec (ws := v_Y6_hold) B.pre
  have t_ := t_Y6_hold
  have mw : ∀ w ∈ e_Y6_hold, w ∈ v_Y6_hold := fun w h => List.mem_cons_of_mem _ (List.mem_append_left _ h)
  have hw := fun w (h : w ∈ e_Y6_hold) => hts w (mw w h)
  have iX6 : ∀ w ∈ wsX60, w ∈ v_Y6_hold := fun w h => List.mem_cons_of_mem _ (List.mem_append_right _ (List.mem_append_left _ h))
  have j_Y5_put : ∀ w ∈ v_Y5_put, w ∈ v_Y6_hold := fun w h => List.mem_cons_of_mem _ (List.mem_append_right _ (List.mem_append_right _ (List.mem_append_left _ h)))
  have hown : s.vm.findClass RX6 = some m.cls := findClass_of_methodNamed B.named
  have hlocks := B.notSynchronized
  subst hsz
  have hD := hD0.self (sz := s.heap.size)
  generalize hAe : va_A (wsC K ad S0) s.heap.size = A at hD ⊢
  have hA : ∀ q : Nat, s.heap.size ≤ q → A q := fun q h => by rw [← hAe]; exact Or.inr h
  have hS : va_S A s.heap s.heap [] := va_S.rf
  have hl : lv_has (lg_sl ([.ref (ad x0), .int a1, va_re ad a2]) ++ List.replicate (3 - (lg_sl ([.ref (ad x0), .int a1, va_re ad a2])).length) Slot.unset).toArray 3 [(0, .ref (ad x0)), (1, .int a1), (2, va_re ad a2)] := by
    cases a2 <;> exact lv_entry _ (n := 3) (Nat.le_of_ble_eq_true rfl)
  rw [lg_entry_eq]
  generalize (lg_sl ([.ref (ad x0), .int a1, va_re ad a2]) ++ List.replicate (3 - (lg_sl ([.ref (ad x0), .int a1, va_re ad a2])).length) Slot.unset).toArray = ls_ at hl ⊢
  refine wGen (fun Q hQ => ?_)
  obtain ⟨X, hX⟩ : ∃ X, f_Y6_hold S0 x0 a1 a2 = X := ⟨_, rfl⟩
  have B_Y6_hold_13a : ∀ (S : Cst) (x1 : Int32) (x2 : Option Nat) (H : Heap) (locs : List Loc) (ls_ : Array Slot), b_Y6_hold_13a S x0 x1 x2 = X → q_Y6_hold_13a S x0 x1 x2 → eK S0 S → va_P G vwCl (wsC K ad S) H → va_D A (wsC K ad S) → va_S A s.heap H locs → lv_has ls_ 3 [(0, .ref (ad x0)), (1, .int x1), (2, va_re ad x2)] → W p l e ({ frames := 1, cells := 0, slots := 0, locals := 21 } : Room) s m #[Value.ref (ad x0), Value.int a1, va_re ad a2] below meth c H locs 0 0 Q (F0 m 13 ls_ []) := by
    intro S x1 x2 H locs ls_ hE hp hZ hP hD hS hl
    unfold b_Y6_hold_13a at hE
    unfold q_Y6_hold_13a at hp
    subst hQ
    exact W.vret hx hb hr (fun t ht hW => ⟨⟨S, rfl, ⟨hE.trans hX.symm, hZ⟩, by rw [ht]; exact hP, hD⟩, hS.F ht⟩) hS.2.2 dX6_hold_13
  have B_M : ∀ (S : Cst) (x1 : Int32) (x2 : Option Nat) (H : Heap) (locs : List Loc) (ls_ : Array Slot), f_Y6_hold S x0 x1 x2 = X → p_Y6_hold S x0 x1 x2 → eK S0 S → va_P G vwCl (wsC K ad S) H → va_D A (wsC K ad S) → va_S A s.heap H locs → lv_has ls_ 3 [(0, .ref (ad x0)), (1, .int x1), (2, va_re ad x2)] → W p l e ({ frames := 1, cells := 0, slots := 0, locals := 21 } : Room) s m #[Value.ref (ad x0), Value.int a1, va_re ad a2] below meth c H locs 0 0 Q (F0 m 0 ls_ []) := by
    intro S x1 x2 H locs ls_ hE hp hZ hP hD hS hl
    unfold f_Y6_hold at hE
    unfold p_Y6_hold at hp
    refine lv_aload_n hx hb dX6_hold_0 rfl (lv_at hl 0 rfl) ?_
    refine lv_iload_n hx hb dX6_hold_1 rfl (lv_at hl 1 rfl) ?_
    refine va_put (D := G) (ci := 5) (v := .int x1) (ty := .int) (C := RX6) (T := TX6) (N := 2) hx hb hts iX6 tyX6 tyX6_ok nmX6 hown hK hP hD hS x0 (at_5 (k_x0.e hZ)) rfl 0 (by decide) (hw (.fieldLink RX6 9 "MotionFloor$Place" "sort" "I") (List.mem_of_getElem? (i := 0) rfl)) (fun _ h9 => h9) rfl (by decide +kernel) rfl rfl (Nat.le_of_ble_eq_true rfl) dX6_hold_2 (fun H locs hP hD hS => ?_)
    rw [st_5_0 (k_x0.e hZ)] at hP hD
    have hZ := hZ.tr (eK.si S x0 0 x1)
    refine lv_aload_n hx hb dX6_hold_5 rfl (lv_at hl 0 rfl) ?_
    refine va_get (D := G) (ci := 5) (v := va_re ad (grC (siC S x0 0 x1) x0 1)) (C := RX6) (T := TX6) (N := 2) hx hb hts iX6 hown hK hP x0 (at_5 (k_x0.e hZ)) rfl 1 (by decide) (hw (.fieldLink RX6 18 "MotionFloor$Place" "pile" "LMotionFloor$Pile;") (List.mem_of_getElem? (i := 1) rfl)) (fun _ h9 => h9) rfl dX6_hold_6 ?_
    refine cAload_n (ad := ad) (r := x2) hx hb dX6_hold_9 rfl (lv_at hl 2 rfl) ?_
    obtain ⟨hy1, hp⟩ := hp
    refine cTop2 (r := (grC (siC S x0 0 x1) x0 1)) hy1.1 ?_
    obtain ⟨hy2, hp⟩ := hp
    refine cGov (va_runV (As := [va_re ad x2]) (rest := []) ⟨hx, hb, hml, hown, hts⟩ (c_Y5_put l G K ad (siC S x0 0 x1) ((grC (siC S x0 0 x1) x0 1).getD 0) x2 _) (cwV 1 hts (wGV t_ (mw (.methodLink RX6 41 yX5_put) (List.mem_of_getElem? (i := 2) rfl)) (mw (.instanceMethod yX5_put) (List.mem_of_getElem? (i := 3) rfl)) (mw (.selects RX5 yX5_put yX5_put) (List.mem_of_getElem? (i := 4) rfl)) (mw (.initialized RX5) (List.mem_of_getElem? (i := 5) rfl)) j_Y5_put) rfl rfl rfl (by decide +kernel) ⟨Nat.le_of_ble_eq_true rfl, Nat.le_of_ble_eq_true rfl⟩) (cPV hK hTE hP hD 4 rfl (at_4 hy1.2) ⟨hy1.2, hy2⟩) rfl rfl hl.1 rfl (lv_room (Nat.le_of_ble_eq_true rfl)) dX6_hold_10 ⟨Nat.le_of_ble_eq_true rfl, Nat.le_of_ble_eq_true rfl⟩) hP hD hS hA (fun u3 H locs hv hP hD hS => ?_)
    obtain ⟨hv, hz⟩ := hv
    have hZ := hZ.tr hz
    rw [← hv] at hE hp
    dsimp only at hE hp
    exact B_Y6_hold_13a u3 x1 x2 _ _ _ hE hp hZ hP hD hS (lv_sub hl [0, 1, 2] rfl)
  exact B_M S0 a1 a2 _ _ _ hX hp (eK.rf S0) hP hD hS hl
theorem dX6_fact_15 : decode cX6_fact 15 = .ok (.tableswitch 124 0 5 #[37, 42, 65, 81, 94, 107], 37) := by decide +kernel
theorem gdX6_fact_0 : ckS (List.drop 0 cX6_fact.data.toList) 0 [(0, .aload_n 0, 1), (1, .getfield 18, 3), (4, .iconst 0, 1), (5, .invokevirtual 22, 3), (8, .astore_n 2, 1), (9, .aload_n 0, 1), (10, .invokevirtual 49, 3), (13, .astore_n 3, 1), (14, .iload_n 1, 1), (52, .aload_n 0, 1), (53, .getfield 9, 3), (56, .ireturn, 1), (57, .aload_n 0, 1), (58, .getfield 9, 3), (61, .iconst 3, 1), (62, .if_icmp .ne 13, 3), (65, .aload_n 0, 1), (66, .getfield 18, 3), (69, .getfield 53, 3), (72, .goto 7, 3), (75, .aload_n 0, 1), (76, .invokevirtual 56, 3), (79, .ireturn, 1), (80, .aload_n 2, 1), (81, .ifnonnull 7, 3), (84, .iconst 0, 1), (85, .goto 10, 3), (88, .aload_n 2, 1), (89, .getfield 31, 3), (92, .getfield 59, 3), (95, .ireturn, 1), (96, .aload_n 3, 1), (97, .ifnonnull 7, 3), (100, .iconst 0, 1), (101, .goto 7, 3), (104, .aload_n 3, 1), (105, .getfield 60, 3), (108, .ireturn, 1), (109, .aload_n 3, 1), (110, .ifnonnull 7, 3)] = true := by decide +kernel
theorem dX6_fact_0 : decode cX6_fact 0 = .ok (.aload_n 0, 1) := ckS_g gdX6_fact_0 0 rfl
theorem dX6_fact_1 : decode cX6_fact 1 = .ok (.getfield 18, 3) := ckS_g gdX6_fact_0 1 rfl
theorem dX6_fact_4 : decode cX6_fact 4 = .ok (.iconst 0, 1) := ckS_g gdX6_fact_0 2 rfl
theorem dX6_fact_5 : decode cX6_fact 5 = .ok (.invokevirtual 22, 3) := ckS_g gdX6_fact_0 3 rfl
theorem dX6_fact_8 : decode cX6_fact 8 = .ok (.astore_n 2, 1) := ckS_g gdX6_fact_0 4 rfl
theorem dX6_fact_9 : decode cX6_fact 9 = .ok (.aload_n 0, 1) := ckS_g gdX6_fact_0 5 rfl
theorem dX6_fact_10 : decode cX6_fact 10 = .ok (.invokevirtual 49, 3) := ckS_g gdX6_fact_0 6 rfl
theorem dX6_fact_13 : decode cX6_fact 13 = .ok (.astore_n 3, 1) := ckS_g gdX6_fact_0 7 rfl
theorem dX6_fact_14 : decode cX6_fact 14 = .ok (.iload_n 1, 1) := ckS_g gdX6_fact_0 8 rfl
theorem dX6_fact_52 : decode cX6_fact 52 = .ok (.aload_n 0, 1) := ckS_g gdX6_fact_0 9 rfl
theorem dX6_fact_53 : decode cX6_fact 53 = .ok (.getfield 9, 3) := ckS_g gdX6_fact_0 10 rfl
theorem dX6_fact_56 : decode cX6_fact 56 = .ok (.ireturn, 1) := ckS_g gdX6_fact_0 11 rfl
theorem dX6_fact_57 : decode cX6_fact 57 = .ok (.aload_n 0, 1) := ckS_g gdX6_fact_0 12 rfl
theorem dX6_fact_58 : decode cX6_fact 58 = .ok (.getfield 9, 3) := ckS_g gdX6_fact_0 13 rfl
theorem dX6_fact_61 : decode cX6_fact 61 = .ok (.iconst 3, 1) := ckS_g gdX6_fact_0 14 rfl
theorem dX6_fact_62 : decode cX6_fact 62 = .ok (.if_icmp .ne 13, 3) := ckS_g gdX6_fact_0 15 rfl
theorem dX6_fact_65 : decode cX6_fact 65 = .ok (.aload_n 0, 1) := ckS_g gdX6_fact_0 16 rfl
theorem dX6_fact_66 : decode cX6_fact 66 = .ok (.getfield 18, 3) := ckS_g gdX6_fact_0 17 rfl
theorem dX6_fact_69 : decode cX6_fact 69 = .ok (.getfield 53, 3) := ckS_g gdX6_fact_0 18 rfl
theorem dX6_fact_72 : decode cX6_fact 72 = .ok (.goto 7, 3) := ckS_g gdX6_fact_0 19 rfl
theorem dX6_fact_75 : decode cX6_fact 75 = .ok (.aload_n 0, 1) := ckS_g gdX6_fact_0 20 rfl
theorem dX6_fact_76 : decode cX6_fact 76 = .ok (.invokevirtual 56, 3) := ckS_g gdX6_fact_0 21 rfl
theorem dX6_fact_79 : decode cX6_fact 79 = .ok (.ireturn, 1) := ckS_g gdX6_fact_0 22 rfl
theorem dX6_fact_80 : decode cX6_fact 80 = .ok (.aload_n 2, 1) := ckS_g gdX6_fact_0 23 rfl
theorem dX6_fact_81 : decode cX6_fact 81 = .ok (.ifnonnull 7, 3) := ckS_g gdX6_fact_0 24 rfl
theorem dX6_fact_84 : decode cX6_fact 84 = .ok (.iconst 0, 1) := ckS_g gdX6_fact_0 25 rfl
theorem dX6_fact_85 : decode cX6_fact 85 = .ok (.goto 10, 3) := ckS_g gdX6_fact_0 26 rfl
theorem dX6_fact_88 : decode cX6_fact 88 = .ok (.aload_n 2, 1) := ckS_g gdX6_fact_0 27 rfl
theorem dX6_fact_89 : decode cX6_fact 89 = .ok (.getfield 31, 3) := ckS_g gdX6_fact_0 28 rfl
theorem dX6_fact_92 : decode cX6_fact 92 = .ok (.getfield 59, 3) := ckS_g gdX6_fact_0 29 rfl
theorem dX6_fact_95 : decode cX6_fact 95 = .ok (.ireturn, 1) := ckS_g gdX6_fact_0 30 rfl
theorem dX6_fact_96 : decode cX6_fact 96 = .ok (.aload_n 3, 1) := ckS_g gdX6_fact_0 31 rfl
theorem dX6_fact_97 : decode cX6_fact 97 = .ok (.ifnonnull 7, 3) := ckS_g gdX6_fact_0 32 rfl
theorem dX6_fact_100 : decode cX6_fact 100 = .ok (.iconst 0, 1) := ckS_g gdX6_fact_0 33 rfl
theorem dX6_fact_101 : decode cX6_fact 101 = .ok (.goto 7, 3) := ckS_g gdX6_fact_0 34 rfl
theorem dX6_fact_104 : decode cX6_fact 104 = .ok (.aload_n 3, 1) := ckS_g gdX6_fact_0 35 rfl
theorem dX6_fact_105 : decode cX6_fact 105 = .ok (.getfield 60, 3) := ckS_g gdX6_fact_0 36 rfl
theorem dX6_fact_108 : decode cX6_fact 108 = .ok (.ireturn, 1) := ckS_g gdX6_fact_0 37 rfl
theorem dX6_fact_109 : decode cX6_fact 109 = .ok (.aload_n 3, 1) := ckS_g gdX6_fact_0 38 rfl
theorem dX6_fact_110 : decode cX6_fact 110 = .ok (.ifnonnull 7, 3) := ckS_g gdX6_fact_0 39 rfl
theorem gdX6_fact_113 : ckS (List.drop 113 cX6_fact.data.toList) 113 [(113, .iconst 0, 1), (114, .goto 7, 3), (117, .aload_n 3, 1), (118, .getfield 63, 3), (121, .ireturn, 1), (122, .aload_n 3, 1), (123, .ifnull 14, 3), (126, .aload_n 3, 1), (127, .getfield 66, 3), (130, .ifCond .eq 7, 3), (133, .iconst 1, 1), (134, .goto 4, 3), (137, .iconst 0, 1), (138, .ireturn, 1), (139, .iconst (-1), 1), (140, .ireturn, 1)] = true := by decide +kernel
theorem dX6_fact_113 : decode cX6_fact 113 = .ok (.iconst 0, 1) := ckS_g gdX6_fact_113 0 rfl
theorem dX6_fact_114 : decode cX6_fact 114 = .ok (.goto 7, 3) := ckS_g gdX6_fact_113 1 rfl
theorem dX6_fact_117 : decode cX6_fact 117 = .ok (.aload_n 3, 1) := ckS_g gdX6_fact_113 2 rfl
theorem dX6_fact_118 : decode cX6_fact 118 = .ok (.getfield 63, 3) := ckS_g gdX6_fact_113 3 rfl
theorem dX6_fact_121 : decode cX6_fact 121 = .ok (.ireturn, 1) := ckS_g gdX6_fact_113 4 rfl
theorem dX6_fact_122 : decode cX6_fact 122 = .ok (.aload_n 3, 1) := ckS_g gdX6_fact_113 5 rfl
theorem dX6_fact_123 : decode cX6_fact 123 = .ok (.ifnull 14, 3) := ckS_g gdX6_fact_113 6 rfl
theorem dX6_fact_126 : decode cX6_fact 126 = .ok (.aload_n 3, 1) := ckS_g gdX6_fact_113 7 rfl
theorem dX6_fact_127 : decode cX6_fact 127 = .ok (.getfield 66, 3) := ckS_g gdX6_fact_113 8 rfl
theorem dX6_fact_130 : decode cX6_fact 130 = .ok (.ifCond .eq 7, 3) := ckS_g gdX6_fact_113 9 rfl
theorem dX6_fact_133 : decode cX6_fact 133 = .ok (.iconst 1, 1) := ckS_g gdX6_fact_113 10 rfl
theorem dX6_fact_134 : decode cX6_fact 134 = .ok (.goto 4, 3) := ckS_g gdX6_fact_113 11 rfl
theorem dX6_fact_137 : decode cX6_fact 137 = .ok (.iconst 0, 1) := ckS_g gdX6_fact_113 12 rfl
theorem dX6_fact_138 : decode cX6_fact 138 = .ok (.ireturn, 1) := ckS_g gdX6_fact_113 13 rfl
theorem dX6_fact_139 : decode cX6_fact 139 = .ok (.iconst (-1), 1) := ckS_g gdX6_fact_113 14 rfl
theorem dX6_fact_140 : decode cX6_fact 140 = .ok (.ireturn, 1) := ckS_g gdX6_fact_113 15 rfl
set_option maxRecDepth 100000 in
theorem zc298 : wZ (.fieldLink RX6 66 "MotionFloor$Motion" "outOfOrder" "Z") := ⟨wT3 (List.mem_of_getElem? (i := 51) (by decide +kernel)), Or.inl rfl⟩
set_option maxRecDepth 100000 in
theorem zc299 : wZ (.fieldLink RX6 63 "MotionFloor$Motion" "to" "I") := ⟨wT3 (List.mem_of_getElem? (i := 44) (by decide +kernel)), Or.inl rfl⟩
set_option maxRecDepth 100000 in
theorem zc300 : wZ (.fieldLink RX6 60 "MotionFloor$Motion" "from" "I") := ⟨wT3 (List.mem_of_getElem? (i := 39) (by decide +kernel)), Or.inl rfl⟩
set_option maxRecDepth 100000 in
theorem zc301 : wZ (.fieldLink RX6 59 "MotionFloor$Text" "size" "I") := ⟨wT1 (List.mem_of_getElem? (i := 158) (by decide +kernel)), Or.inl rfl⟩
set_option maxRecDepth 100000 in
theorem zc302 : wZ (.fieldLink RX6 53 "MotionFloor$Pile" "size" "I") := ⟨wT1 (List.mem_of_getElem? (i := 92) (by decide +kernel)), Or.inl rfl⟩
set_option maxRecDepth 100000 in
theorem zc303 : wZ (.methodLink RX6 56 yX6_kind) := ⟨wT4 (List.mem_of_getElem? (i := 160) (by decide +kernel)), Or.inl rfl⟩
set_option maxRecDepth 100000 in
theorem zc304 : wZ (.methodLink RX6 49 yX6_motion) := ⟨wT4 (List.mem_of_getElem? (i := 159) (by decide +kernel)), Or.inl rfl⟩
set_option maxRecDepth 100000 in
theorem zc305 : wZ (.code yX6_fact cX6_fact 4 (some .int)) := ⟨wT4 (List.mem_of_getElem? (i := 158) rfl), Or.inl rfl⟩
def b_Y6_fact_79 (S : Cst) (x0 : Nat) (x1 : Int32) (x2 : Option Nat) (x3 : Option Nat) (y0 : Int32) : Int32 := y0
def q_Y6_fact_79 (S : Cst) (x0 : Nat) (x1 : Int32) (x2 : Option Nat) (x3 : Option Nat) (y0 : Int32) : Prop := True
def b_Y6_fact_95 (S : Cst) (x0 : Nat) (x1 : Int32) (x2 : Option Nat) (x3 : Option Nat) (y0 : Int32) : Int32 := y0
def q_Y6_fact_95 (S : Cst) (x0 : Nat) (x1 : Int32) (x2 : Option Nat) (x3 : Option Nat) (y0 : Int32) : Prop := True
def b_Y6_fact_108 (S : Cst) (x0 : Nat) (x1 : Int32) (x2 : Option Nat) (x3 : Option Nat) (y0 : Int32) : Int32 := y0
def q_Y6_fact_108 (S : Cst) (x0 : Nat) (x1 : Int32) (x2 : Option Nat) (x3 : Option Nat) (y0 : Int32) : Prop := True
def b_Y6_fact_121 (S : Cst) (x0 : Nat) (x1 : Int32) (x2 : Option Nat) (x3 : Option Nat) (y0 : Int32) : Int32 := y0
def q_Y6_fact_121 (S : Cst) (x0 : Nat) (x1 : Int32) (x2 : Option Nat) (x3 : Option Nat) (y0 : Int32) : Prop := True
def b_Y6_fact_138 (S : Cst) (x0 : Nat) (x1 : Int32) (x2 : Option Nat) (x3 : Option Nat) (y0 : Int32) : Int32 := y0
def q_Y6_fact_138 (S : Cst) (x0 : Nat) (x1 : Int32) (x2 : Option Nat) (x3 : Option Nat) (y0 : Int32) : Prop := True
def b_Y6_fact_137 (S : Cst) (x0 : Nat) (x1 : Int32) (x2 : Option Nat) (x3 : Option Nat) : Int32 := (b_Y6_fact_138 S x0 x1 x2 x3 0)
def q_Y6_fact_137 (S : Cst) (x0 : Nat) (x1 : Int32) (x2 : Option Nat) (x3 : Option Nat) : Prop := (q_Y6_fact_138 S x0 x1 x2 x3 0)
def f_Y6_fact (S : Cst) (x0 : Nat) (x1 : Int32) : Int32 := if x1 = 0 then (giC S x0 0) else if x1 = 1 then if (giC S x0 0) = 3 then (b_Y6_fact_79 S x0 x1 (f_Y5_at S ((grC S x0 1).getD 0) (0 : Int32)) (f_Y6_motion S x0) (giC S ((grC S x0 1).getD 0) 1)) else (b_Y6_fact_79 S x0 x1 (f_Y5_at S ((grC S x0 1).getD 0) (0 : Int32)) (f_Y6_motion S x0) (f_Y6_kind S x0)) else if x1 = 2 then if (f_Y5_at S ((grC S x0 1).getD 0) (0 : Int32)) = none then (b_Y6_fact_95 S x0 x1 (f_Y5_at S ((grC S x0 1).getD 0) (0 : Int32)) (f_Y6_motion S x0) 0) else (b_Y6_fact_95 S x0 x1 (f_Y5_at S ((grC S x0 1).getD 0) (0 : Int32)) (f_Y6_motion S x0) (giC S ((grC S ((f_Y5_at S ((grC S x0 1).getD 0) (0 : Int32)).getD 0) 12).getD 0) 1)) else if x1 = 3 then if (f_Y6_motion S x0) = none then (b_Y6_fact_108 S x0 x1 (f_Y5_at S ((grC S x0 1).getD 0) (0 : Int32)) (f_Y6_motion S x0) 0) else (b_Y6_fact_108 S x0 x1 (f_Y5_at S ((grC S x0 1).getD 0) (0 : Int32)) (f_Y6_motion S x0) (giC S ((f_Y6_motion S x0).getD 0) 8)) else if x1 = 4 then if (f_Y6_motion S x0) = none then (b_Y6_fact_121 S x0 x1 (f_Y5_at S ((grC S x0 1).getD 0) (0 : Int32)) (f_Y6_motion S x0) 0) else (b_Y6_fact_121 S x0 x1 (f_Y5_at S ((grC S x0 1).getD 0) (0 : Int32)) (f_Y6_motion S x0) (giC S ((f_Y6_motion S x0).getD 0) 9)) else if x1 = 5 then if (f_Y6_motion S x0) = none then (b_Y6_fact_137 S x0 x1 (f_Y5_at S ((grC S x0 1).getD 0) (0 : Int32)) (f_Y6_motion S x0)) else if (giC S ((f_Y6_motion S x0).getD 0) 11) = 0 then (b_Y6_fact_137 S x0 x1 (f_Y5_at S ((grC S x0 1).getD 0) (0 : Int32)) (f_Y6_motion S x0)) else (b_Y6_fact_138 S x0 x1 (f_Y5_at S ((grC S x0 1).getD 0) (0 : Int32)) (f_Y6_motion S x0) 1) else ((-1) : Int32)
def p_Y6_fact (S : Cst) (x0 : Nat) (x1 : Int32) : Prop := (iR S (grC S x0 1) 4) ∧ (p_Y5_at S ((grC S x0 1).getD 0) (0 : Int32)) ∧ (p_Y6_motion S x0) ∧ (if x1 = 0 then True else (if x1 = 1 then (if (giC S x0 0) = 3 then (iR S (grC S x0 1) 4) ∧ (q_Y6_fact_79 S x0 x1 (f_Y5_at S ((grC S x0 1).getD 0) (0 : Int32)) (f_Y6_motion S x0) (giC S ((grC S x0 1).getD 0) 1)) else (p_Y6_kind S x0) ∧ (q_Y6_fact_79 S x0 x1 (f_Y5_at S ((grC S x0 1).getD 0) (0 : Int32)) (f_Y6_motion S x0) (f_Y6_kind S x0))) else (if x1 = 2 then (if (f_Y5_at S ((grC S x0 1).getD 0) (0 : Int32)) = none then (q_Y6_fact_95 S x0 x1 (f_Y5_at S ((grC S x0 1).getD 0) (0 : Int32)) (f_Y6_motion S x0) 0) else (iR S (f_Y5_at S ((grC S x0 1).getD 0) (0 : Int32)) 3) ∧ (iR S (grC S ((f_Y5_at S ((grC S x0 1).getD 0) (0 : Int32)).getD 0) 12) 6) ∧ (q_Y6_fact_95 S x0 x1 (f_Y5_at S ((grC S x0 1).getD 0) (0 : Int32)) (f_Y6_motion S x0) (giC S ((grC S ((f_Y5_at S ((grC S x0 1).getD 0) (0 : Int32)).getD 0) 12).getD 0) 1))) else (if x1 = 3 then (if (f_Y6_motion S x0) = none then (q_Y6_fact_108 S x0 x1 (f_Y5_at S ((grC S x0 1).getD 0) (0 : Int32)) (f_Y6_motion S x0) 0) else (iR S (f_Y6_motion S x0) 3) ∧ (q_Y6_fact_108 S x0 x1 (f_Y5_at S ((grC S x0 1).getD 0) (0 : Int32)) (f_Y6_motion S x0) (giC S ((f_Y6_motion S x0).getD 0) 8))) else (if x1 = 4 then (if (f_Y6_motion S x0) = none then (q_Y6_fact_121 S x0 x1 (f_Y5_at S ((grC S x0 1).getD 0) (0 : Int32)) (f_Y6_motion S x0) 0) else (iR S (f_Y6_motion S x0) 3) ∧ (q_Y6_fact_121 S x0 x1 (f_Y5_at S ((grC S x0 1).getD 0) (0 : Int32)) (f_Y6_motion S x0) (giC S ((f_Y6_motion S x0).getD 0) 9))) else (if x1 = 5 then (if (f_Y6_motion S x0) = none then (q_Y6_fact_137 S x0 x1 (f_Y5_at S ((grC S x0 1).getD 0) (0 : Int32)) (f_Y6_motion S x0)) else (iR S (f_Y6_motion S x0) 3) ∧ (if (giC S ((f_Y6_motion S x0).getD 0) 11) = 0 then (q_Y6_fact_137 S x0 x1 (f_Y5_at S ((grC S x0 1).getD 0) (0 : Int32)) (f_Y6_motion S x0)) else (q_Y6_fact_138 S x0 x1 (f_Y5_at S ((grC S x0 1).getD 0) (0 : Int32)) (f_Y6_motion S x0) 1))) else True))))))
def e_Y6_fact : List Cond := [.fieldLink RX6 18 "MotionFloor$Place" "pile" "LMotionFloor$Pile;", .methodLink RX6 22 yX5_at, .instanceMethod yX5_at, .selects RX5 yX5_at yX5_at, .initialized RX5, .methodLink RX6 49 yX6_motion, .instanceMethod yX6_motion, .selects RX6 yX6_motion yX6_motion, .initialized RX6, .fieldLink RX6 9 "MotionFloor$Place" "sort" "I", .methodLink RX6 56 yX6_kind, .instanceMethod yX6_kind, .selects RX6 yX6_kind yX6_kind, .fieldLink RX6 53 "MotionFloor$Pile" "size" "I", .fieldLink RX6 31 "MotionFloor$Motion" "text" "LMotionFloor$Text;", .fieldLink RX6 59 "MotionFloor$Text" "size" "I", .fieldLink RX6 60 "MotionFloor$Motion" "from" "I", .fieldLink RX6 63 "MotionFloor$Motion" "to" "I", .fieldLink RX6 66 "MotionFloor$Motion" "outOfOrder" "Z"]
def v_Y6_fact : List Cond := .code yX6_fact cX6_fact 4 (some .int) :: (e_Y6_fact ++ (wsX60 ++ (wsX50 ++ (wsX40 ++ (wsX90 ++ (v_Y5_at ++ (v_Y6_motion ++ (v_Y6_kind ++ []))))))))
theorem te_Y6_fact : GoodIn lw_tbl e_Y6_fact := wGc zc125 (wGc zc124 (wGc zc123 (wGc zc122 (wGc zc34 (wGc zc304 (wGc zc128 (wGc zc127 (wGc zc112 (wGc zc110 (wGc zc303 (wGc zc189 (wGc zc188 (wGc zc302 (wGc zc294 (wGc zc301 (wGc zc300 (wGc zc299 (wGc zc298 (wG0)))))))))))))))))))
theorem t_Y6_fact : GoodIn lw_tbl v_Y6_fact := wGc zc305 (wGa te_Y6_fact (wGa zcX6 (wGa zcX5 (wGa zcX4 (wGa zcX9 (wGa t_Y5_at (wGa t_Y6_motion (wGa t_Y6_kind (wG0)))))))))
set_option maxHeartbeats 4000000 in
set_option maxRecDepth 100000 in
theorem c_Y6_fact (l : Launch) (G : va_G) (K : Nat → ClassId) (ad : Nat → Nat) (S : Cst) (x0 : Nat) (a1 : Int32) (sz : Nat) : Met l yX6_fact v_Y6_fact ({ frames := 2, cells := 0, slots := 0, locals := 42 }) (va_Pc [.ref (ad x0), .int a1] (cSt G K ad sz S (iK S x0 5 ∧ p_Y6_fact S x0 a1))) (va_Qi (fun (r : Int32) (u : Cst) => (r, u) = (f_Y6_fact S x0 a1, S)) (cBt G K ad (va_A (wsC K ad S) sz)) (va_A (wsC K ad S) sz)) 0 0 (va_A (wsC K ad S) sz) := by
  refine Met.ofW (cc := cX6_fact) (maxL := 4) (ret := (some .int)) (by decide) rfl ?_
  intro p e s m args below meth c s₁ B hml hv
  obtain ⟨rfl, ⟨hsz, hP, hK, hD0, hTE⟩, hp⟩ := hv
  obtain ⟨k_x0, hp⟩ := hp
  have hx := B.exec
  have hb := B.bytes
  have hr := B.returns
  have hts := atoms_spec (ws := v_Y6_fact) B.pre
  have t_ := t_Y6_fact
  have mw : ∀ w ∈ e_Y6_fact, w ∈ v_Y6_fact := fun w h => List.mem_cons_of_mem _ (List.mem_append_left _ h)
  have hw := fun w (h : w ∈ e_Y6_fact) => hts w (mw w h)
  have iX6 : ∀ w ∈ wsX60, w ∈ v_Y6_fact := fun w h => List.mem_cons_of_mem _ (List.mem_append_right _ (List.mem_append_left _ h))
  have iX5 : ∀ w ∈ wsX50, w ∈ v_Y6_fact := fun w h => List.mem_cons_of_mem _ (List.mem_append_right _ (List.mem_append_right _ (List.mem_append_left _ h)))
  have iX4 : ∀ w ∈ wsX40, w ∈ v_Y6_fact := fun w h => List.mem_cons_of_mem _ (List.mem_append_right _ (List.mem_append_right _ (List.mem_append_right _ (List.mem_append_left _ h))))
  have iX9 : ∀ w ∈ wsX90, w ∈ v_Y6_fact := fun w h => List.mem_cons_of_mem _ (List.mem_append_right _ (List.mem_append_right _ (List.mem_append_right _ (List.mem_append_right _ (List.mem_append_left _ h)))))
  have j_Y5_at : ∀ w ∈ v_Y5_at, w ∈ v_Y6_fact := fun w h => List.mem_cons_of_mem _ (List.mem_append_right _ (List.mem_append_right _ (List.mem_append_right _ (List.mem_append_right _ (List.mem_append_right _ (List.mem_append_left _ h))))))
  have j_Y6_motion : ∀ w ∈ v_Y6_motion, w ∈ v_Y6_fact := fun w h => List.mem_cons_of_mem _ (List.mem_append_right _ (List.mem_append_right _ (List.mem_append_right _ (List.mem_append_right _ (List.mem_append_right _ (List.mem_append_right _ (List.mem_append_left _ h)))))))
  have j_Y6_kind : ∀ w ∈ v_Y6_kind, w ∈ v_Y6_fact := fun w h => List.mem_cons_of_mem _ (List.mem_append_right _ (List.mem_append_right _ (List.mem_append_right _ (List.mem_append_right _ (List.mem_append_right _ (List.mem_append_right _ (List.mem_append_right _ (List.mem_append_left _ h))))))))
  have hown : s.vm.findClass RX6 = some m.cls := findClass_of_methodNamed B.named
  have hlocks := B.notSynchronized
  subst hsz
  have hD := hD0.self (sz := s.heap.size)
  generalize hAe : va_A (wsC K ad S) s.heap.size = A at hD ⊢
  have hA : ∀ q : Nat, s.heap.size ≤ q → A q := fun q h => by rw [← hAe]; exact Or.inr h
  have hS : va_S A s.heap s.heap [] := va_S.rf
  have hl : lv_has (lg_sl ([.ref (ad x0), .int a1]) ++ List.replicate (4 - (lg_sl ([.ref (ad x0), .int a1])).length) Slot.unset).toArray 4 [(0, .ref (ad x0)), (1, .int a1)] := by
    exact lv_entry ([.ref (ad x0), .int a1]) (n := 4) (Nat.le_of_ble_eq_true rfl)
  rw [lg_entry_eq]
  generalize (lg_sl ([.ref (ad x0), .int a1]) ++ List.replicate (4 - (lg_sl ([.ref (ad x0), .int a1])).length) Slot.unset).toArray = ls_ at hl ⊢
  refine wGen (fun Q hQ => ?_)
  obtain ⟨X, hX⟩ : ∃ X, f_Y6_fact S x0 a1 = X := ⟨_, rfl⟩
  have B_Y6_fact_79 : ∀ (x1 : Int32) (x2 : Option Nat) (x3 : Option Nat) (y0 : Int32) (H : Heap) (locs : List Loc) (ls_ : Array Slot), b_Y6_fact_79 S x0 x1 x2 x3 y0 = X → q_Y6_fact_79 S x0 x1 x2 x3 y0 → va_P G vwCl (wsC K ad S) H → va_D A (wsC K ad S) → va_S A s.heap H locs → lv_has ls_ 4 [(0, .ref (ad x0)), (1, .int x1), (2, va_re ad x2), (3, va_re ad x3)] → W p l e ({ frames := 2, cells := 0, slots := 0, locals := 42 } : Room) s m #[Value.ref (ad x0), Value.int a1] below meth c H locs 0 0 Q (F0 m 79 ls_ [.int y0]) := by
    intro x1 x2 x3 y0 H locs ls_ hE hp hP hD hS hl
    unfold b_Y6_fact_79 at hE
    unfold q_Y6_fact_79 at hp
    subst hQ
    exact W.iret (v := y0) hx hb hr (fun t ht hW => ⟨⟨y0, S, rfl, (pair_i (hE.trans hX.symm)), by rw [ht]; exact hP, hD⟩, hS.F ht⟩) hS.2.2 dX6_fact_79
  have B_Y6_fact_95 : ∀ (x1 : Int32) (x2 : Option Nat) (x3 : Option Nat) (y0 : Int32) (H : Heap) (locs : List Loc) (ls_ : Array Slot), b_Y6_fact_95 S x0 x1 x2 x3 y0 = X → q_Y6_fact_95 S x0 x1 x2 x3 y0 → va_P G vwCl (wsC K ad S) H → va_D A (wsC K ad S) → va_S A s.heap H locs → lv_has ls_ 4 [(0, .ref (ad x0)), (1, .int x1), (2, va_re ad x2), (3, va_re ad x3)] → W p l e ({ frames := 2, cells := 0, slots := 0, locals := 42 } : Room) s m #[Value.ref (ad x0), Value.int a1] below meth c H locs 0 0 Q (F0 m 95 ls_ [.int y0]) := by
    intro x1 x2 x3 y0 H locs ls_ hE hp hP hD hS hl
    unfold b_Y6_fact_95 at hE
    unfold q_Y6_fact_95 at hp
    subst hQ
    exact W.iret (v := y0) hx hb hr (fun t ht hW => ⟨⟨y0, S, rfl, (pair_i (hE.trans hX.symm)), by rw [ht]; exact hP, hD⟩, hS.F ht⟩) hS.2.2 dX6_fact_95
  have B_Y6_fact_108 : ∀ (x1 : Int32) (x2 : Option Nat) (x3 : Option Nat) (y0 : Int32) (H : Heap) (locs : List Loc) (ls_ : Array Slot), b_Y6_fact_108 S x0 x1 x2 x3 y0 = X → q_Y6_fact_108 S x0 x1 x2 x3 y0 → va_P G vwCl (wsC K ad S) H → va_D A (wsC K ad S) → va_S A s.heap H locs → lv_has ls_ 4 [(0, .ref (ad x0)), (1, .int x1), (2, va_re ad x2), (3, va_re ad x3)] → W p l e ({ frames := 2, cells := 0, slots := 0, locals := 42 } : Room) s m #[Value.ref (ad x0), Value.int a1] below meth c H locs 0 0 Q (F0 m 108 ls_ [.int y0]) := by
    intro x1 x2 x3 y0 H locs ls_ hE hp hP hD hS hl
    unfold b_Y6_fact_108 at hE
    unfold q_Y6_fact_108 at hp
    subst hQ
    exact W.iret (v := y0) hx hb hr (fun t ht hW => ⟨⟨y0, S, rfl, (pair_i (hE.trans hX.symm)), by rw [ht]; exact hP, hD⟩, hS.F ht⟩) hS.2.2 dX6_fact_108
  have B_Y6_fact_121 : ∀ (x1 : Int32) (x2 : Option Nat) (x3 : Option Nat) (y0 : Int32) (H : Heap) (locs : List Loc) (ls_ : Array Slot), b_Y6_fact_121 S x0 x1 x2 x3 y0 = X → q_Y6_fact_121 S x0 x1 x2 x3 y0 → va_P G vwCl (wsC K ad S) H → va_D A (wsC K ad S) → va_S A s.heap H locs → lv_has ls_ 4 [(0, .ref (ad x0)), (1, .int x1), (2, va_re ad x2), (3, va_re ad x3)] → W p l e ({ frames := 2, cells := 0, slots := 0, locals := 42 } : Room) s m #[Value.ref (ad x0), Value.int a1] below meth c H locs 0 0 Q (F0 m 121 ls_ [.int y0]) := by
    intro x1 x2 x3 y0 H locs ls_ hE hp hP hD hS hl
    unfold b_Y6_fact_121 at hE
    unfold q_Y6_fact_121 at hp
    subst hQ
    exact W.iret (v := y0) hx hb hr (fun t ht hW => ⟨⟨y0, S, rfl, (pair_i (hE.trans hX.symm)), by rw [ht]; exact hP, hD⟩, hS.F ht⟩) hS.2.2 dX6_fact_121
  have B_Y6_fact_138 : ∀ (x1 : Int32) (x2 : Option Nat) (x3 : Option Nat) (y0 : Int32) (H : Heap) (locs : List Loc) (ls_ : Array Slot), b_Y6_fact_138 S x0 x1 x2 x3 y0 = X → q_Y6_fact_138 S x0 x1 x2 x3 y0 → va_P G vwCl (wsC K ad S) H → va_D A (wsC K ad S) → va_S A s.heap H locs → lv_has ls_ 4 [(0, .ref (ad x0)), (1, .int x1), (2, va_re ad x2), (3, va_re ad x3)] → W p l e ({ frames := 2, cells := 0, slots := 0, locals := 42 } : Room) s m #[Value.ref (ad x0), Value.int a1] below meth c H locs 0 0 Q (F0 m 138 ls_ [.int y0]) := by
    intro x1 x2 x3 y0 H locs ls_ hE hp hP hD hS hl
    unfold b_Y6_fact_138 at hE
    unfold q_Y6_fact_138 at hp
    subst hQ
    exact W.iret (v := y0) hx hb hr (fun t ht hW => ⟨⟨y0, S, rfl, (pair_i (hE.trans hX.symm)), by rw [ht]; exact hP, hD⟩, hS.F ht⟩) hS.2.2 dX6_fact_138
  have B_Y6_fact_137 : ∀ (x1 : Int32) (x2 : Option Nat) (x3 : Option Nat) (H : Heap) (locs : List Loc) (ls_ : Array Slot), b_Y6_fact_137 S x0 x1 x2 x3 = X → q_Y6_fact_137 S x0 x1 x2 x3 → va_P G vwCl (wsC K ad S) H → va_D A (wsC K ad S) → va_S A s.heap H locs → lv_has ls_ 4 [(0, .ref (ad x0)), (1, .int x1), (2, va_re ad x2), (3, va_re ad x3)] → W p l e ({ frames := 2, cells := 0, slots := 0, locals := 42 } : Room) s m #[Value.ref (ad x0), Value.int a1] below meth c H locs 0 0 Q (F0 m 137 ls_ []) := by
    intro x1 x2 x3 H locs ls_ hE hp hP hD hS hl
    unfold b_Y6_fact_137 at hE
    unfold q_Y6_fact_137 at hp
    refine lv_iconst (v := 0) hx hb dX6_fact_137 (by decide) ?_
    exact B_Y6_fact_138 x1 x2 x3 0 _ _ _ hE hp hP hD hS (lv_sub hl [0, 1, 2, 3] rfl)
  have B_M : ∀ (x1 : Int32) (H : Heap) (locs : List Loc) (ls_ : Array Slot), f_Y6_fact S x0 x1 = X → p_Y6_fact S x0 x1 → va_P G vwCl (wsC K ad S) H → va_D A (wsC K ad S) → va_S A s.heap H locs → lv_has ls_ 4 [(0, .ref (ad x0)), (1, .int x1)] → W p l e ({ frames := 2, cells := 0, slots := 0, locals := 42 } : Room) s m #[Value.ref (ad x0), Value.int a1] below meth c H locs 0 0 Q (F0 m 0 ls_ []) := by
    intro x1 H locs ls_ hE hp hP hD hS hl
    unfold f_Y6_fact at hE
    unfold p_Y6_fact at hp
    refine lv_aload_n hx hb dX6_fact_0 rfl (lv_at hl 0 rfl) ?_
    refine va_get (D := G) (ci := 5) (v := va_re ad (grC S x0 1)) (C := RX6) (T := TX6) (N := 2) hx hb hts iX6 hown hK hP x0 (at_5 k_x0) rfl 1 (by decide) (hw (.fieldLink RX6 18 "MotionFloor$Place" "pile" "LMotionFloor$Pile;") (List.mem_of_getElem? (i := 0) rfl)) (fun _ h9 => h9) rfl dX6_fact_1 ?_
    refine lv_iconst (v := 0) hx hb dX6_fact_4 (by decide) ?_
    obtain ⟨hy1, hp⟩ := hp
    refine cTop2 (r := (grC S x0 1)) hy1.1 ?_
    obtain ⟨hy2, hp⟩ := hp
    refine cGoq (va_runV (As := [.int 0]) (rest := []) ⟨hx, hb, hml, hown, hts⟩ (c_Y5_at l G K ad S ((grC S x0 1).getD 0) (0 : Int32) _) (cwV 1 hts (wGV t_ (mw (.methodLink RX6 22 yX5_at) (List.mem_of_getElem? (i := 1) rfl)) (mw (.instanceMethod yX5_at) (List.mem_of_getElem? (i := 2) rfl)) (mw (.selects RX5 yX5_at yX5_at) (List.mem_of_getElem? (i := 3) rfl)) (mw (.initialized RX5) (List.mem_of_getElem? (i := 4) rfl)) j_Y5_at) rfl rfl rfl (by decide +kernel) ⟨Nat.le_of_ble_eq_true rfl, Nat.le_of_ble_eq_true rfl⟩) (cPV hK hTE hP hD 4 rfl (at_4 hy1.2) ⟨hy1.2, hy2⟩) rfl rfl hl.1 rfl (lv_room (Nat.le_of_ble_eq_true rfl)) dX6_fact_5 ⟨Nat.le_of_ble_eq_true rfl, Nat.le_of_ble_eq_true rfl⟩) hP hD hS hA (fun r4 u3 H locs hv hP hD hS => ?_)
    have h1 := congrArg Prod.fst hv
    have h2 := (congrArg Prod.snd hv).symm
    dsimp only at h1 h2
    subst h1
    subst h2
    refine cAstore_n (ad := ad) (r := (f_Y5_at S ((grC S x0 1).getD 0) (0 : Int32))) (i := 2) (lv' := [(2, va_re ad (f_Y5_at S ((grC S x0 1).getD 0) (0 : Int32))), (0, .ref (ad x0)), (1, .int x1)]) hx hb dX6_fact_8 rfl hl (by decide) rfl (fun ls_ hl => ?_)
    refine lv_aload_n hx hb dX6_fact_9 rfl (lv_at hl 1 rfl) ?_
    obtain ⟨hy5, hp⟩ := hp
    refine cGoq (va_runV (As := []) (rest := []) ⟨hx, hb, hml, hown, hts⟩ (c_Y6_motion l G K ad S x0 _) (cwV 0 hts (wGV t_ (mw (.methodLink RX6 49 yX6_motion) (List.mem_of_getElem? (i := 5) rfl)) (mw (.instanceMethod yX6_motion) (List.mem_of_getElem? (i := 6) rfl)) (mw (.selects RX6 yX6_motion yX6_motion) (List.mem_of_getElem? (i := 7) rfl)) (mw (.initialized RX6) (List.mem_of_getElem? (i := 8) rfl)) j_Y6_motion) rfl rfl rfl (by decide +kernel) ⟨Nat.le_of_ble_eq_true rfl, Nat.le_of_ble_eq_true rfl⟩) (cPV hK hTE hP hD 5 rfl (at_5 k_x0) ⟨k_x0, hy5⟩) rfl rfl hl.1 rfl (lv_room (Nat.le_of_ble_eq_true rfl)) dX6_fact_10 ⟨Nat.le_of_ble_eq_true rfl, Nat.le_of_ble_eq_true rfl⟩) hP hD hS hA (fun r7 u6 H locs hv hP hD hS => ?_)
    have h1 := congrArg Prod.fst hv
    have h2 := (congrArg Prod.snd hv).symm
    dsimp only at h1 h2
    subst h1
    subst h2
    refine cAstore_n (ad := ad) (r := (f_Y6_motion S x0)) (i := 3) (lv' := [(3, va_re ad (f_Y6_motion S x0)), (2, va_re ad (f_Y5_at S ((grC S x0 1).getD 0) (0 : Int32))), (0, .ref (ad x0)), (1, .int x1)]) hx hb dX6_fact_13 rfl hl (by decide) (by simp [List.filter, re_cat]) (fun ls_ hl => ?_)
    refine lv_iload_n hx hb dX6_fact_14 rfl (lv_at hl 3 rfl) ?_
    by_cases s0 : x1 = 0
    · rw [if_pos s0] at hE hp
      refine lv_tableIn (off := 37) (tgt := 52) hx hb dX6_fact_15 (by rw [s0]; decide) (by rw [s0]; decide) (by rw [s0]; decide) (by decide) ?_
      refine lv_aload_n hx hb dX6_fact_52 rfl (lv_at hl 2 rfl) ?_
      refine va_get (D := G) (ci := 5) (v := .int (giC S x0 0)) (C := RX6) (T := TX6) (N := 2) hx hb hts iX6 hown hK hP x0 (at_5 k_x0) rfl 0 (by decide) (hw (.fieldLink RX6 9 "MotionFloor$Place" "sort" "I") (List.mem_of_getElem? (i := 9) rfl)) (fun _ h9 => h9) rfl dX6_fact_53 ?_
      subst hQ
      exact W.iret (v := (giC S x0 0)) hx hb hr (fun t ht hW => ⟨⟨(giC S x0 0), S, rfl, (pair_i (hE.trans hX.symm)), by rw [ht]; exact hP, hD⟩, hS.F ht⟩) hS.2.2 dX6_fact_56
    rw [if_neg s0] at hE hp
    have s0 := wNe (b := 0) rfl (by decide) s0
    by_cases s1 : x1 = 1
    · rw [if_pos s1] at hE hp
      refine lv_tableIn (off := 42) (tgt := 57) hx hb dX6_fact_15 (by rw [s1]; decide) (by rw [s1]; decide) (by rw [s1]; decide) (by decide) ?_
      refine lv_aload_n hx hb dX6_fact_57 rfl (lv_at hl 2 rfl) ?_
      refine va_get (D := G) (ci := 5) (v := .int (giC S x0 0)) (C := RX6) (T := TX6) (N := 2) hx hb hts iX6 hown hK hP x0 (at_5 k_x0) rfl 0 (by decide) (hw (.fieldLink RX6 9 "MotionFloor$Place" "sort" "I") (List.mem_of_getElem? (i := 9) rfl)) (fun _ h9 => h9) rfl dX6_fact_58 ?_
      refine lv_iconst (v := 3) hx hb dX6_fact_61 (by decide) ?_
      refine lv_icmp_ne (tgt := 75) hx hb dX6_fact_62 (by decide) (fun c8 => ?_) (fun c8 => ?_)
      · rw [if_neg c8] at hE hp
        refine lv_aload_n hx hb dX6_fact_75 rfl (lv_at hl 2 rfl) ?_
        obtain ⟨hy9, hp⟩ := hp
        refine cGoi (va_runV (As := []) (rest := []) ⟨hx, hb, hml, hown, hts⟩ (c_Y6_kind l G K ad S x0 _) (cwV 0 hts (wGV t_ (mw (.methodLink RX6 56 yX6_kind) (List.mem_of_getElem? (i := 10) rfl)) (mw (.instanceMethod yX6_kind) (List.mem_of_getElem? (i := 11) rfl)) (mw (.selects RX6 yX6_kind yX6_kind) (List.mem_of_getElem? (i := 12) rfl)) (mw (.initialized RX6) (List.mem_of_getElem? (i := 8) rfl)) j_Y6_kind) rfl rfl rfl (by decide +kernel) ⟨Nat.le_of_ble_eq_true rfl, Nat.le_of_ble_eq_true rfl⟩) (cPV hK hTE hP hD 5 rfl (at_5 k_x0) ⟨k_x0, hy9⟩) rfl rfl hl.1 rfl (lv_room (Nat.le_of_ble_eq_true rfl)) dX6_fact_76 ⟨Nat.le_of_ble_eq_true rfl, Nat.le_of_ble_eq_true rfl⟩) hP hD hS hA (fun r11 u10 H locs hv hP hD hS => ?_)
        have h1 := congrArg Prod.fst hv
        have h2 := (congrArg Prod.snd hv).symm
        dsimp only at h1 h2
        subst h1
        subst h2
        exact B_Y6_fact_79 x1 (f_Y5_at S ((grC S x0 1).getD 0) (0 : Int32)) (f_Y6_motion S x0) (f_Y6_kind S x0) _ _ _ hE hp hP hD hS (lv_sub hl [2, 3, 1, 0] rfl)
      · rw [if_pos c8] at hE hp
        refine lv_aload_n hx hb dX6_fact_65 rfl (lv_at hl 2 rfl) ?_
        refine va_get (D := G) (ci := 5) (v := va_re ad (grC S x0 1)) (C := RX6) (T := TX6) (N := 2) hx hb hts iX6 hown hK hP x0 (at_5 k_x0) rfl 1 (by decide) (hw (.fieldLink RX6 18 "MotionFloor$Place" "pile" "LMotionFloor$Pile;") (List.mem_of_getElem? (i := 0) rfl)) (fun _ h9 => h9) rfl dX6_fact_66 ?_
        obtain ⟨hy12, hp⟩ := hp
        refine cTop (r := (grC S x0 1)) hy12.1 ?_
        refine va_get (D := G) (ci := 4) (v := .int (giC S ((grC S x0 1).getD 0) 1)) (C := RX5) (T := TX5) (N := 2) hx hb hts iX5 hown hK hP ((grC S x0 1).getD 0) (at_4 hy12.2) rfl 1 (by decide) (hw (.fieldLink RX6 53 "MotionFloor$Pile" "size" "I") (List.mem_of_getElem? (i := 13) rfl)) (fun _ h9 => h9) rfl dX6_fact_69 ?_
        refine lv_goto (tgt := 79) hx hb dX6_fact_72 (by decide) ?_
        exact B_Y6_fact_79 x1 (f_Y5_at S ((grC S x0 1).getD 0) (0 : Int32)) (f_Y6_motion S x0) (giC S ((grC S x0 1).getD 0) 1) _ _ _ hE hp hP hD hS (lv_sub hl [2, 3, 1, 0] rfl)
    rw [if_neg s1] at hE hp
    have s1 := wNe (b := 1) rfl (by decide) s1
    by_cases s2 : x1 = 2
    · rw [if_pos s2] at hE hp
      refine lv_tableIn (off := 65) (tgt := 80) hx hb dX6_fact_15 (by rw [s2]; decide) (by rw [s2]; decide) (by rw [s2]; decide) (by decide) ?_
      refine cAload_n (ad := ad) (r := (f_Y5_at S ((grC S x0 1).getD 0) (0 : Int32))) hx hb dX6_fact_80 rfl (lv_at hl 1 rfl) ?_
      refine cIfnonnull (ad := ad) (r := (f_Y5_at S ((grC S x0 1).getD 0) (0 : Int32))) (tgt := 88) hx hb dX6_fact_81 (by decide) (fun c13 => ?_) (fun c13 => ?_)
      · rw [if_pos c13] at hE hp
        refine lv_iconst (v := 0) hx hb dX6_fact_84 (by decide) ?_
        refine lv_goto (tgt := 95) hx hb dX6_fact_85 (by decide) ?_
        exact B_Y6_fact_95 x1 (f_Y5_at S ((grC S x0 1).getD 0) (0 : Int32)) (f_Y6_motion S x0) 0 _ _ _ hE hp hP hD hS (lv_sub hl [2, 3, 1, 0] rfl)
      · rw [if_neg c13] at hE hp
        refine cAload_n (ad := ad) (r := (f_Y5_at S ((grC S x0 1).getD 0) (0 : Int32))) hx hb dX6_fact_88 rfl (lv_at hl 1 rfl) ?_
        obtain ⟨hy14, hp⟩ := hp
        refine cTop (r := (f_Y5_at S ((grC S x0 1).getD 0) (0 : Int32))) hy14.1 ?_
        refine va_get (D := G) (ci := 3) (v := va_re ad (grC S ((f_Y5_at S ((grC S x0 1).getD 0) (0 : Int32)).getD 0) 12)) (C := RX4) (T := TX4) (N := 16) hx hb hts iX4 hown hK hP ((f_Y5_at S ((grC S x0 1).getD 0) (0 : Int32)).getD 0) (at_3 hy14.2) rfl 12 (by decide) (hw (.fieldLink RX6 31 "MotionFloor$Motion" "text" "LMotionFloor$Text;") (List.mem_of_getElem? (i := 14) rfl)) (fun _ h9 => h9) rfl dX6_fact_89 ?_
        obtain ⟨hy15, hp⟩ := hp
        refine cTop (r := (grC S ((f_Y5_at S ((grC S x0 1).getD 0) (0 : Int32)).getD 0) 12)) hy15.1 ?_
        refine va_get (D := G) (ci := 6) (v := .int (giC S ((grC S ((f_Y5_at S ((grC S x0 1).getD 0) (0 : Int32)).getD 0) 12).getD 0) 1)) (C := RX9) (T := TX9) (N := 2) hx hb hts iX9 hown hK hP ((grC S ((f_Y5_at S ((grC S x0 1).getD 0) (0 : Int32)).getD 0) 12).getD 0) (at_6 hy15.2) rfl 1 (by decide) (hw (.fieldLink RX6 59 "MotionFloor$Text" "size" "I") (List.mem_of_getElem? (i := 15) rfl)) (fun _ h9 => h9) rfl dX6_fact_92 ?_
        exact B_Y6_fact_95 x1 (f_Y5_at S ((grC S x0 1).getD 0) (0 : Int32)) (f_Y6_motion S x0) (giC S ((grC S ((f_Y5_at S ((grC S x0 1).getD 0) (0 : Int32)).getD 0) 12).getD 0) 1) _ _ _ hE hp hP hD hS (lv_sub hl [2, 3, 1, 0] rfl)
    rw [if_neg s2] at hE hp
    have s2 := wNe (b := 2) rfl (by decide) s2
    by_cases s3 : x1 = 3
    · rw [if_pos s3] at hE hp
      refine lv_tableIn (off := 81) (tgt := 96) hx hb dX6_fact_15 (by rw [s3]; decide) (by rw [s3]; decide) (by rw [s3]; decide) (by decide) ?_
      refine cAload_n (ad := ad) (r := (f_Y6_motion S x0)) hx hb dX6_fact_96 rfl (lv_at hl 0 rfl) ?_
      refine cIfnonnull (ad := ad) (r := (f_Y6_motion S x0)) (tgt := 104) hx hb dX6_fact_97 (by decide) (fun c16 => ?_) (fun c16 => ?_)
      · rw [if_pos c16] at hE hp
        refine lv_iconst (v := 0) hx hb dX6_fact_100 (by decide) ?_
        refine lv_goto (tgt := 108) hx hb dX6_fact_101 (by decide) ?_
        exact B_Y6_fact_108 x1 (f_Y5_at S ((grC S x0 1).getD 0) (0 : Int32)) (f_Y6_motion S x0) 0 _ _ _ hE hp hP hD hS (lv_sub hl [2, 3, 1, 0] rfl)
      · rw [if_neg c16] at hE hp
        refine cAload_n (ad := ad) (r := (f_Y6_motion S x0)) hx hb dX6_fact_104 rfl (lv_at hl 0 rfl) ?_
        obtain ⟨hy17, hp⟩ := hp
        refine cTop (r := (f_Y6_motion S x0)) hy17.1 ?_
        refine va_get (D := G) (ci := 3) (v := .int (giC S ((f_Y6_motion S x0).getD 0) 8)) (C := RX4) (T := TX4) (N := 16) hx hb hts iX4 hown hK hP ((f_Y6_motion S x0).getD 0) (at_3 hy17.2) rfl 8 (by decide) (hw (.fieldLink RX6 60 "MotionFloor$Motion" "from" "I") (List.mem_of_getElem? (i := 16) rfl)) (fun _ h9 => h9) rfl dX6_fact_105 ?_
        exact B_Y6_fact_108 x1 (f_Y5_at S ((grC S x0 1).getD 0) (0 : Int32)) (f_Y6_motion S x0) (giC S ((f_Y6_motion S x0).getD 0) 8) _ _ _ hE hp hP hD hS (lv_sub hl [2, 3, 1, 0] rfl)
    rw [if_neg s3] at hE hp
    have s3 := wNe (b := 3) rfl (by decide) s3
    by_cases s4 : x1 = 4
    · rw [if_pos s4] at hE hp
      refine lv_tableIn (off := 94) (tgt := 109) hx hb dX6_fact_15 (by rw [s4]; decide) (by rw [s4]; decide) (by rw [s4]; decide) (by decide) ?_
      refine cAload_n (ad := ad) (r := (f_Y6_motion S x0)) hx hb dX6_fact_109 rfl (lv_at hl 0 rfl) ?_
      refine cIfnonnull (ad := ad) (r := (f_Y6_motion S x0)) (tgt := 117) hx hb dX6_fact_110 (by decide) (fun c18 => ?_) (fun c18 => ?_)
      · rw [if_pos c18] at hE hp
        refine lv_iconst (v := 0) hx hb dX6_fact_113 (by decide) ?_
        refine lv_goto (tgt := 121) hx hb dX6_fact_114 (by decide) ?_
        exact B_Y6_fact_121 x1 (f_Y5_at S ((grC S x0 1).getD 0) (0 : Int32)) (f_Y6_motion S x0) 0 _ _ _ hE hp hP hD hS (lv_sub hl [2, 3, 1, 0] rfl)
      · rw [if_neg c18] at hE hp
        refine cAload_n (ad := ad) (r := (f_Y6_motion S x0)) hx hb dX6_fact_117 rfl (lv_at hl 0 rfl) ?_
        obtain ⟨hy19, hp⟩ := hp
        refine cTop (r := (f_Y6_motion S x0)) hy19.1 ?_
        refine va_get (D := G) (ci := 3) (v := .int (giC S ((f_Y6_motion S x0).getD 0) 9)) (C := RX4) (T := TX4) (N := 16) hx hb hts iX4 hown hK hP ((f_Y6_motion S x0).getD 0) (at_3 hy19.2) rfl 9 (by decide) (hw (.fieldLink RX6 63 "MotionFloor$Motion" "to" "I") (List.mem_of_getElem? (i := 17) rfl)) (fun _ h9 => h9) rfl dX6_fact_118 ?_
        exact B_Y6_fact_121 x1 (f_Y5_at S ((grC S x0 1).getD 0) (0 : Int32)) (f_Y6_motion S x0) (giC S ((f_Y6_motion S x0).getD 0) 9) _ _ _ hE hp hP hD hS (lv_sub hl [2, 3, 1, 0] rfl)
    rw [if_neg s4] at hE hp
    have s4 := wNe (b := 4) rfl (by decide) s4
    by_cases s5 : x1 = 5
    · rw [if_pos s5] at hE hp
      refine lv_tableIn (off := 107) (tgt := 122) hx hb dX6_fact_15 (by rw [s5]; decide) (by rw [s5]; decide) (by rw [s5]; decide) (by decide) ?_
      refine cAload_n (ad := ad) (r := (f_Y6_motion S x0)) hx hb dX6_fact_122 rfl (lv_at hl 0 rfl) ?_
      refine cIfnull (ad := ad) (r := (f_Y6_motion S x0)) (tgt := 137) hx hb dX6_fact_123 (by decide) (fun c20 => ?_) (fun c20 => ?_)
      · rw [if_pos c20] at hE hp
        exact B_Y6_fact_137 x1 (f_Y5_at S ((grC S x0 1).getD 0) (0 : Int32)) (f_Y6_motion S x0) _ _ _ hE hp hP hD hS (lv_sub hl [2, 3, 1, 0] rfl)
      · rw [if_neg c20] at hE hp
        refine cAload_n (ad := ad) (r := (f_Y6_motion S x0)) hx hb dX6_fact_126 rfl (lv_at hl 0 rfl) ?_
        obtain ⟨hy21, hp⟩ := hp
        refine cTop (r := (f_Y6_motion S x0)) hy21.1 ?_
        refine va_get (D := G) (ci := 3) (v := .int (giC S ((f_Y6_motion S x0).getD 0) 11)) (C := RX4) (T := TX4) (N := 16) hx hb hts iX4 hown hK hP ((f_Y6_motion S x0).getD 0) (at_3 hy21.2) rfl 11 (by decide) (hw (.fieldLink RX6 66 "MotionFloor$Motion" "outOfOrder" "Z") (List.mem_of_getElem? (i := 18) rfl)) (fun _ h9 => h9) rfl dX6_fact_127 ?_
        refine lv_if_eq (tgt := 137) hx hb dX6_fact_130 (by decide) (fun c22 => ?_) (fun c22 => ?_)
        · rw [if_pos c22] at hE hp
          exact B_Y6_fact_137 x1 (f_Y5_at S ((grC S x0 1).getD 0) (0 : Int32)) (f_Y6_motion S x0) _ _ _ hE hp hP hD hS (lv_sub hl [2, 3, 1, 0] rfl)
        · rw [if_neg c22] at hE hp
          refine lv_iconst (v := 1) hx hb dX6_fact_133 (by decide) ?_
          refine lv_goto (tgt := 138) hx hb dX6_fact_134 (by decide) ?_
          exact B_Y6_fact_138 x1 (f_Y5_at S ((grC S x0 1).getD 0) (0 : Int32)) (f_Y6_motion S x0) 1 _ _ _ hE hp hP hD hS (lv_sub hl [2, 3, 1, 0] rfl)
    rw [if_neg s5] at hE hp
    have s5 := wNe (b := 5) rfl (by decide) s5
    refine lv_tableOut (tgt := 139) hx hb dX6_fact_15 (by omega) (by decide) ?_
    refine lv_iconst (v := (-1)) hx hb dX6_fact_139 (by decide) ?_
    subst hQ
    exact W.iret (v := ((-1) : Int32)) hx hb hr (fun t ht hW => ⟨⟨((-1) : Int32), S, rfl, (pair_i (hE.trans hX.symm)), by rw [ht]; exact hP, hD⟩, hS.F ht⟩) hS.2.2 dX6_fact_140
  exact B_M a1 _ _ _ hX hp hP hD hS hl
theorem gdX7_outcomeOf_0 : ckS (List.drop 0 cX7_outcomeOf.data.toList) 0 [(0, .aload_n 1, 1), (1, .getfield 37, 3), (4, .bipush 9, 2), (6, .if_icmp .ne 14, 3), (9, .iload_n 3, 1), (10, .iload_n 2, 1), (11, .if_icmp .le 7, 3), (14, .iconst 5, 1), (15, .goto 4, 3), (18, .iconst 4, 1), (19, .ireturn, 1), (20, .aload_n 1, 1), (21, .getfield 21, 3), (24, .iconst (-1), 1), (25, .if_icmp .ne 5, 3), (28, .iconst 3, 1), (29, .ireturn, 1), (30, .aload_n 0, 1), (31, .aload_n 1, 1), (32, .getfield 37, 3), (35, .iload_n 2, 1), (36, .iload_n 3, 1), (37, .invokevirtual 69, 3), (40, .ifCond .eq 7, 3), (43, .iconst 1, 1), (44, .goto 4, 3), (47, .iconst 2, 1), (48, .ireturn, 1)] = true := by decide +kernel
theorem dX7_outcomeOf_0 : decode cX7_outcomeOf 0 = .ok (.aload_n 1, 1) := ckS_g gdX7_outcomeOf_0 0 rfl
theorem dX7_outcomeOf_1 : decode cX7_outcomeOf 1 = .ok (.getfield 37, 3) := ckS_g gdX7_outcomeOf_0 1 rfl
theorem dX7_outcomeOf_4 : decode cX7_outcomeOf 4 = .ok (.bipush 9, 2) := ckS_g gdX7_outcomeOf_0 2 rfl
theorem dX7_outcomeOf_6 : decode cX7_outcomeOf 6 = .ok (.if_icmp .ne 14, 3) := ckS_g gdX7_outcomeOf_0 3 rfl
theorem dX7_outcomeOf_9 : decode cX7_outcomeOf 9 = .ok (.iload_n 3, 1) := ckS_g gdX7_outcomeOf_0 4 rfl
theorem dX7_outcomeOf_10 : decode cX7_outcomeOf 10 = .ok (.iload_n 2, 1) := ckS_g gdX7_outcomeOf_0 5 rfl
theorem dX7_outcomeOf_11 : decode cX7_outcomeOf 11 = .ok (.if_icmp .le 7, 3) := ckS_g gdX7_outcomeOf_0 6 rfl
theorem dX7_outcomeOf_14 : decode cX7_outcomeOf 14 = .ok (.iconst 5, 1) := ckS_g gdX7_outcomeOf_0 7 rfl
theorem dX7_outcomeOf_15 : decode cX7_outcomeOf 15 = .ok (.goto 4, 3) := ckS_g gdX7_outcomeOf_0 8 rfl
theorem dX7_outcomeOf_18 : decode cX7_outcomeOf 18 = .ok (.iconst 4, 1) := ckS_g gdX7_outcomeOf_0 9 rfl
theorem dX7_outcomeOf_19 : decode cX7_outcomeOf 19 = .ok (.ireturn, 1) := ckS_g gdX7_outcomeOf_0 10 rfl
theorem dX7_outcomeOf_20 : decode cX7_outcomeOf 20 = .ok (.aload_n 1, 1) := ckS_g gdX7_outcomeOf_0 11 rfl
theorem dX7_outcomeOf_21 : decode cX7_outcomeOf 21 = .ok (.getfield 21, 3) := ckS_g gdX7_outcomeOf_0 12 rfl
theorem dX7_outcomeOf_24 : decode cX7_outcomeOf 24 = .ok (.iconst (-1), 1) := ckS_g gdX7_outcomeOf_0 13 rfl
theorem dX7_outcomeOf_25 : decode cX7_outcomeOf 25 = .ok (.if_icmp .ne 5, 3) := ckS_g gdX7_outcomeOf_0 14 rfl
theorem dX7_outcomeOf_28 : decode cX7_outcomeOf 28 = .ok (.iconst 3, 1) := ckS_g gdX7_outcomeOf_0 15 rfl
theorem dX7_outcomeOf_29 : decode cX7_outcomeOf 29 = .ok (.ireturn, 1) := ckS_g gdX7_outcomeOf_0 16 rfl
theorem dX7_outcomeOf_30 : decode cX7_outcomeOf 30 = .ok (.aload_n 0, 1) := ckS_g gdX7_outcomeOf_0 17 rfl
theorem dX7_outcomeOf_31 : decode cX7_outcomeOf 31 = .ok (.aload_n 1, 1) := ckS_g gdX7_outcomeOf_0 18 rfl
theorem dX7_outcomeOf_32 : decode cX7_outcomeOf 32 = .ok (.getfield 37, 3) := ckS_g gdX7_outcomeOf_0 19 rfl
theorem dX7_outcomeOf_35 : decode cX7_outcomeOf 35 = .ok (.iload_n 2, 1) := ckS_g gdX7_outcomeOf_0 20 rfl
theorem dX7_outcomeOf_36 : decode cX7_outcomeOf 36 = .ok (.iload_n 3, 1) := ckS_g gdX7_outcomeOf_0 21 rfl
theorem dX7_outcomeOf_37 : decode cX7_outcomeOf 37 = .ok (.invokevirtual 69, 3) := ckS_g gdX7_outcomeOf_0 22 rfl
theorem dX7_outcomeOf_40 : decode cX7_outcomeOf 40 = .ok (.ifCond .eq 7, 3) := ckS_g gdX7_outcomeOf_0 23 rfl
theorem dX7_outcomeOf_43 : decode cX7_outcomeOf 43 = .ok (.iconst 1, 1) := ckS_g gdX7_outcomeOf_0 24 rfl
theorem dX7_outcomeOf_44 : decode cX7_outcomeOf 44 = .ok (.goto 4, 3) := ckS_g gdX7_outcomeOf_0 25 rfl
theorem dX7_outcomeOf_47 : decode cX7_outcomeOf 47 = .ok (.iconst 2, 1) := ckS_g gdX7_outcomeOf_0 26 rfl
theorem dX7_outcomeOf_48 : decode cX7_outcomeOf 48 = .ok (.ireturn, 1) := ckS_g gdX7_outcomeOf_0 27 rfl
set_option maxRecDepth 100000 in
theorem zc306 : wZ (.selects RX2 yX2_isMajority yX2_isMajority) := ⟨wT3 (List.mem_of_getElem? (i := 180) (by decide +kernel)), Or.inl rfl⟩
set_option maxRecDepth 100000 in
theorem zc307 : wZ (.instanceMethod yX2_isMajority) := ⟨wT3 (List.mem_of_getElem? (i := 179) (by decide +kernel)), Or.inl rfl⟩
set_option maxRecDepth 100000 in
theorem zc308 : wZ (.methodLink RX7 69 yX2_isMajority) := ⟨wT3 (List.mem_of_getElem? (i := 178) (by decide +kernel)), Or.inl rfl⟩
set_option maxRecDepth 100000 in
theorem zc309 : wZ (.fieldLink RX7 21 "MotionFloor$Motion" "seconder" "I") := ⟨wT3 (List.mem_of_getElem? (i := 24) (by decide +kernel)), Or.inl rfl⟩
set_option maxRecDepth 100000 in
theorem zc310 : wZ (.fieldLink RX7 37 "MotionFloor$Motion" "kind" "I") := ⟨wT3 (List.mem_of_getElem? (i := 14) (by decide +kernel)), Or.inl rfl⟩
set_option maxRecDepth 100000 in
theorem zc311 : wZ (.code yX7_outcomeOf cX7_outcomeOf 4 (some .int)) := ⟨wT3 (List.mem_of_getElem? (i := 177) rfl), Or.inl rfl⟩
def b_Y7_outcomeOf_48 (S : Cst) (x0 : Nat) (x1 : Option Nat) (x2 : Int32) (x3 : Int32) (y0 : Int32) : Int32 := y0
def q_Y7_outcomeOf_48 (S : Cst) (x0 : Nat) (x1 : Option Nat) (x2 : Int32) (x3 : Int32) (y0 : Int32) : Prop := True
def b_Y7_outcomeOf_19 (S : Cst) (x0 : Nat) (x1 : Option Nat) (x2 : Int32) (x3 : Int32) (y0 : Int32) : Int32 := y0
def q_Y7_outcomeOf_19 (S : Cst) (x0 : Nat) (x1 : Option Nat) (x2 : Int32) (x3 : Int32) (y0 : Int32) : Prop := True
def f_Y7_outcomeOf (S : Cst) (x0 : Nat) (x1 : Option Nat) (x2 : Int32) (x3 : Int32) : Int32 := if (giC S (x1.getD 0) 2) = 9 then if x3 ≤ x2 then (b_Y7_outcomeOf_19 S x0 x1 x2 x3 4) else (b_Y7_outcomeOf_19 S x0 x1 x2 x3 5) else if (giC S (x1.getD 0) 4) = (-1) then (3 : Int32) else if (f_Y2_isMajority S x0 (giC S (x1.getD 0) 2) x2 x3) = 0 then (b_Y7_outcomeOf_48 S x0 x1 x2 x3 2) else (b_Y7_outcomeOf_48 S x0 x1 x2 x3 1)
def p_Y7_outcomeOf (S : Cst) (x0 : Nat) (x1 : Option Nat) (x2 : Int32) (x3 : Int32) : Prop := (iR S x1 3) ∧ (if (giC S (x1.getD 0) 2) = 9 then (if x3 ≤ x2 then (q_Y7_outcomeOf_19 S x0 x1 x2 x3 4) else (q_Y7_outcomeOf_19 S x0 x1 x2 x3 5)) else (iR S x1 3) ∧ (if (giC S (x1.getD 0) 4) = (-1) then True else (iR S x1 3) ∧ (p_Y2_isMajority S x0 (giC S (x1.getD 0) 2) x2 x3) ∧ (if (f_Y2_isMajority S x0 (giC S (x1.getD 0) 2) x2 x3) = 0 then (q_Y7_outcomeOf_48 S x0 x1 x2 x3 2) else (q_Y7_outcomeOf_48 S x0 x1 x2 x3 1))))
def e_Y7_outcomeOf : List Cond := [.fieldLink RX7 37 "MotionFloor$Motion" "kind" "I", .fieldLink RX7 21 "MotionFloor$Motion" "seconder" "I", .methodLink RX7 69 yX2_isMajority, .instanceMethod yX2_isMajority, .selects RX2 yX2_isMajority yX2_isMajority, .initialized RX2]
def v_Y7_outcomeOf : List Cond := .code yX7_outcomeOf cX7_outcomeOf 4 (some .int) :: (e_Y7_outcomeOf ++ (wsX40 ++ (v_Y2_isMajority ++ [])))
theorem te_Y7_outcomeOf : GoodIn lw_tbl e_Y7_outcomeOf := wGc zc310 (wGc zc309 (wGc zc308 (wGc zc307 (wGc zc306 (wGc zc77 (wG0))))))
theorem t_Y7_outcomeOf : GoodIn lw_tbl v_Y7_outcomeOf := wGc zc311 (wGa te_Y7_outcomeOf (wGa zcX4 (wGa t_Y2_isMajority (wG0))))
set_option maxHeartbeats 4000000 in
set_option maxRecDepth 100000 in
theorem c_Y7_outcomeOf (l : Launch) (G : va_G) (K : Nat → ClassId) (ad : Nat → Nat) (S : Cst) (x0 : Nat) (a1 : Option Nat) (a2 : Int32) (a3 : Int32) (sz : Nat) : Met l yX7_outcomeOf v_Y7_outcomeOf ({ frames := 1, cells := 0, slots := 0, locals := 24 }) (va_Pc [.ref (ad x0), va_re ad a1, .int a2, .int a3] (cSt G K ad sz S (iK S x0 1 ∧ p_Y7_outcomeOf S x0 a1 a2 a3))) (va_Qi (fun (r : Int32) (u : Cst) => (r, u) = (f_Y7_outcomeOf S x0 a1 a2 a3, S)) (cBt G K ad (va_A (wsC K ad S) sz)) (va_A (wsC K ad S) sz)) 0 0 (va_A (wsC K ad S) sz) := by
  refine Met.ofW (cc := cX7_outcomeOf) (maxL := 4) (ret := (some .int)) (by decide) rfl ?_
  intro p e s m args below meth c s₁ B hml hv
  obtain ⟨rfl, ⟨hsz, hP, hK, hD0, hTE⟩, hp⟩ := hv
  obtain ⟨k_x0, hp⟩ := hp
  have hx := B.exec
  have hb := B.bytes
  have hr := B.returns
  have hts := atoms_spec (ws := v_Y7_outcomeOf) B.pre
  have t_ := t_Y7_outcomeOf
  have mw : ∀ w ∈ e_Y7_outcomeOf, w ∈ v_Y7_outcomeOf := fun w h => List.mem_cons_of_mem _ (List.mem_append_left _ h)
  have hw := fun w (h : w ∈ e_Y7_outcomeOf) => hts w (mw w h)
  have iX4 : ∀ w ∈ wsX40, w ∈ v_Y7_outcomeOf := fun w h => List.mem_cons_of_mem _ (List.mem_append_right _ (List.mem_append_left _ h))
  have j_Y2_isMajority : ∀ w ∈ v_Y2_isMajority, w ∈ v_Y7_outcomeOf := fun w h => List.mem_cons_of_mem _ (List.mem_append_right _ (List.mem_append_right _ (List.mem_append_left _ h)))
  have hown : s.vm.findClass RX7 = some m.cls := findClass_of_methodNamed B.named
  have hlocks := B.notSynchronized
  subst hsz
  have hD := hD0.self (sz := s.heap.size)
  generalize hAe : va_A (wsC K ad S) s.heap.size = A at hD ⊢
  have hA : ∀ q : Nat, s.heap.size ≤ q → A q := fun q h => by rw [← hAe]; exact Or.inr h
  have hS : va_S A s.heap s.heap [] := va_S.rf
  have hl : lv_has (lg_sl ([.ref (ad x0), va_re ad a1, .int a2, .int a3]) ++ List.replicate (4 - (lg_sl ([.ref (ad x0), va_re ad a1, .int a2, .int a3])).length) Slot.unset).toArray 4 [(0, .ref (ad x0)), (1, va_re ad a1), (2, .int a2), (3, .int a3)] := by
    cases a1 <;> exact lv_entry _ (n := 4) (Nat.le_of_ble_eq_true rfl)
  rw [lg_entry_eq]
  generalize (lg_sl ([.ref (ad x0), va_re ad a1, .int a2, .int a3]) ++ List.replicate (4 - (lg_sl ([.ref (ad x0), va_re ad a1, .int a2, .int a3])).length) Slot.unset).toArray = ls_ at hl ⊢
  refine wGen (fun Q hQ => ?_)
  obtain ⟨X, hX⟩ : ∃ X, f_Y7_outcomeOf S x0 a1 a2 a3 = X := ⟨_, rfl⟩
  have B_Y7_outcomeOf_48 : ∀ (x1 : Option Nat) (x2 : Int32) (x3 : Int32) (y0 : Int32) (H : Heap) (locs : List Loc) (ls_ : Array Slot), b_Y7_outcomeOf_48 S x0 x1 x2 x3 y0 = X → q_Y7_outcomeOf_48 S x0 x1 x2 x3 y0 → va_P G vwCl (wsC K ad S) H → va_D A (wsC K ad S) → va_S A s.heap H locs → lv_has ls_ 4 [(0, .ref (ad x0)), (1, va_re ad x1), (2, .int x2), (3, .int x3)] → W p l e ({ frames := 1, cells := 0, slots := 0, locals := 24 } : Room) s m #[Value.ref (ad x0), va_re ad a1, Value.int a2, Value.int a3] below meth c H locs 0 0 Q (F0 m 48 ls_ [.int y0]) := by
    intro x1 x2 x3 y0 H locs ls_ hE hp hP hD hS hl
    unfold b_Y7_outcomeOf_48 at hE
    unfold q_Y7_outcomeOf_48 at hp
    subst hQ
    exact W.iret (v := y0) hx hb hr (fun t ht hW => ⟨⟨y0, S, rfl, (pair_i (hE.trans hX.symm)), by rw [ht]; exact hP, hD⟩, hS.F ht⟩) hS.2.2 dX7_outcomeOf_48
  have B_Y7_outcomeOf_19 : ∀ (x1 : Option Nat) (x2 : Int32) (x3 : Int32) (y0 : Int32) (H : Heap) (locs : List Loc) (ls_ : Array Slot), b_Y7_outcomeOf_19 S x0 x1 x2 x3 y0 = X → q_Y7_outcomeOf_19 S x0 x1 x2 x3 y0 → va_P G vwCl (wsC K ad S) H → va_D A (wsC K ad S) → va_S A s.heap H locs → lv_has ls_ 4 [(0, .ref (ad x0)), (1, va_re ad x1), (2, .int x2), (3, .int x3)] → W p l e ({ frames := 1, cells := 0, slots := 0, locals := 24 } : Room) s m #[Value.ref (ad x0), va_re ad a1, Value.int a2, Value.int a3] below meth c H locs 0 0 Q (F0 m 19 ls_ [.int y0]) := by
    intro x1 x2 x3 y0 H locs ls_ hE hp hP hD hS hl
    unfold b_Y7_outcomeOf_19 at hE
    unfold q_Y7_outcomeOf_19 at hp
    subst hQ
    exact W.iret (v := y0) hx hb hr (fun t ht hW => ⟨⟨y0, S, rfl, (pair_i (hE.trans hX.symm)), by rw [ht]; exact hP, hD⟩, hS.F ht⟩) hS.2.2 dX7_outcomeOf_19
  have B_M : ∀ (x1 : Option Nat) (x2 : Int32) (x3 : Int32) (H : Heap) (locs : List Loc) (ls_ : Array Slot), f_Y7_outcomeOf S x0 x1 x2 x3 = X → p_Y7_outcomeOf S x0 x1 x2 x3 → va_P G vwCl (wsC K ad S) H → va_D A (wsC K ad S) → va_S A s.heap H locs → lv_has ls_ 4 [(0, .ref (ad x0)), (1, va_re ad x1), (2, .int x2), (3, .int x3)] → W p l e ({ frames := 1, cells := 0, slots := 0, locals := 24 } : Room) s m #[Value.ref (ad x0), va_re ad a1, Value.int a2, Value.int a3] below meth c H locs 0 0 Q (F0 m 0 ls_ []) := by
    intro x1 x2 x3 H locs ls_ hE hp hP hD hS hl
    unfold f_Y7_outcomeOf at hE
    unfold p_Y7_outcomeOf at hp
    refine cAload_n (ad := ad) (r := x1) hx hb dX7_outcomeOf_0 rfl (lv_at hl 1 rfl) ?_
    obtain ⟨hy1, hp⟩ := hp
    refine cTop (r := x1) hy1.1 ?_
    refine va_get (D := G) (ci := 3) (v := .int (giC S (x1.getD 0) 2)) (C := RX4) (T := TX4) (N := 16) hx hb hts iX4 hown hK hP (x1.getD 0) (at_3 hy1.2) rfl 2 (by decide) (hw (.fieldLink RX7 37 "MotionFloor$Motion" "kind" "I") (List.mem_of_getElem? (i := 0) rfl)) (fun _ h9 => h9) rfl dX7_outcomeOf_1 ?_
    refine lv_bipush (v := 9) hx hb dX7_outcomeOf_4 (by decide) ?_
    refine lv_icmp_ne (tgt := 20) hx hb dX7_outcomeOf_6 (by decide) (fun c2 => ?_) (fun c2 => ?_)
    · rw [if_neg c2] at hE hp
      refine cAload_n (ad := ad) (r := x1) hx hb dX7_outcomeOf_20 rfl (lv_at hl 1 rfl) ?_
      obtain ⟨hy3, hp⟩ := hp
      refine cTop (r := x1) hy3.1 ?_
      refine va_get (D := G) (ci := 3) (v := .int (giC S (x1.getD 0) 4)) (C := RX4) (T := TX4) (N := 16) hx hb hts iX4 hown hK hP (x1.getD 0) (at_3 hy3.2) rfl 4 (by decide) (hw (.fieldLink RX7 21 "MotionFloor$Motion" "seconder" "I") (List.mem_of_getElem? (i := 1) rfl)) (fun _ h9 => h9) rfl dX7_outcomeOf_21 ?_
      refine lv_iconst (v := (-1)) hx hb dX7_outcomeOf_24 (by decide) ?_
      refine lv_icmp_ne (tgt := 30) hx hb dX7_outcomeOf_25 (by decide) (fun c4 => ?_) (fun c4 => ?_)
      · rw [if_neg c4] at hE hp
        refine lv_aload_n hx hb dX7_outcomeOf_30 rfl (lv_at hl 0 rfl) ?_
        refine cAload_n (ad := ad) (r := x1) hx hb dX7_outcomeOf_31 rfl (lv_at hl 1 rfl) ?_
        obtain ⟨hy5, hp⟩ := hp
        refine cTop (r := x1) hy5.1 ?_
        refine va_get (D := G) (ci := 3) (v := .int (giC S (x1.getD 0) 2)) (C := RX4) (T := TX4) (N := 16) hx hb hts iX4 hown hK hP (x1.getD 0) (at_3 hy5.2) rfl 2 (by decide) (hw (.fieldLink RX7 37 "MotionFloor$Motion" "kind" "I") (List.mem_of_getElem? (i := 0) rfl)) (fun _ h9 => h9) rfl dX7_outcomeOf_32 ?_
        refine lv_iload_n hx hb dX7_outcomeOf_35 rfl (lv_at hl 2 rfl) ?_
        refine lv_iload_n hx hb dX7_outcomeOf_36 rfl (lv_at hl 3 rfl) ?_
        obtain ⟨hy6, hp⟩ := hp
        refine cGoi (va_runV (As := [.int (giC S (x1.getD 0) 2), .int x2, .int x3]) (rest := []) ⟨hx, hb, hml, hown, hts⟩ (c_Y2_isMajority l G K ad S x0 (giC S (x1.getD 0) 2) x2 x3 _) (cwV 3 hts (wGV t_ (mw (.methodLink RX7 69 yX2_isMajority) (List.mem_of_getElem? (i := 2) rfl)) (mw (.instanceMethod yX2_isMajority) (List.mem_of_getElem? (i := 3) rfl)) (mw (.selects RX2 yX2_isMajority yX2_isMajority) (List.mem_of_getElem? (i := 4) rfl)) (mw (.initialized RX2) (List.mem_of_getElem? (i := 5) rfl)) j_Y2_isMajority) rfl rfl rfl (by decide +kernel) ⟨Nat.le_of_ble_eq_true rfl, Nat.le_of_ble_eq_true rfl⟩) (cPV hK hTE hP hD 1 rfl (at_1 k_x0) ⟨k_x0, hy6⟩) rfl rfl hl.1 rfl (lv_room (Nat.le_of_ble_eq_true rfl)) dX7_outcomeOf_37 ⟨Nat.le_of_ble_eq_true rfl, Nat.le_of_ble_eq_true rfl⟩) hP hD hS hA (fun r8 u7 H locs hv hP hD hS => ?_)
        have h1 := congrArg Prod.fst hv
        have h2 := (congrArg Prod.snd hv).symm
        dsimp only at h1 h2
        subst h1
        subst h2
        refine lv_if_eq (tgt := 47) hx hb dX7_outcomeOf_40 (by decide) (fun c9 => ?_) (fun c9 => ?_)
        · rw [if_pos c9] at hE hp
          refine lv_iconst (v := 2) hx hb dX7_outcomeOf_47 (by decide) ?_
          exact B_Y7_outcomeOf_48 x1 x2 x3 2 _ _ _ hE hp hP hD hS (lv_sub hl [0, 1, 2, 3] rfl)
        · rw [if_neg c9] at hE hp
          refine lv_iconst (v := 1) hx hb dX7_outcomeOf_43 (by decide) ?_
          refine lv_goto (tgt := 48) hx hb dX7_outcomeOf_44 (by decide) ?_
          exact B_Y7_outcomeOf_48 x1 x2 x3 1 _ _ _ hE hp hP hD hS (lv_sub hl [0, 1, 2, 3] rfl)
      · rw [if_pos c4] at hE hp
        refine lv_iconst (v := 3) hx hb dX7_outcomeOf_28 (by decide) ?_
        subst hQ
        exact W.iret (v := (3 : Int32)) hx hb hr (fun t ht hW => ⟨⟨(3 : Int32), S, rfl, (pair_i (hE.trans hX.symm)), by rw [ht]; exact hP, hD⟩, hS.F ht⟩) hS.2.2 dX7_outcomeOf_29
    · rw [if_pos c2] at hE hp
      refine lv_iload_n hx hb dX7_outcomeOf_9 rfl (lv_at hl 3 rfl) ?_
      refine lv_iload_n hx hb dX7_outcomeOf_10 rfl (lv_at hl 2 rfl) ?_
      refine lv_icmp_le (tgt := 18) hx hb dX7_outcomeOf_11 (by decide) (fun c10 => ?_) (fun c10 => ?_)
      · rw [if_pos c10] at hE hp
        refine lv_iconst (v := 4) hx hb dX7_outcomeOf_18 (by decide) ?_
        exact B_Y7_outcomeOf_19 x1 x2 x3 4 _ _ _ hE hp hP hD hS (lv_sub hl [0, 1, 2, 3] rfl)
      · rw [if_neg c10] at hE hp
        refine lv_iconst (v := 5) hx hb dX7_outcomeOf_14 (by decide) ?_
        refine lv_goto (tgt := 19) hx hb dX7_outcomeOf_15 (by decide) ?_
        exact B_Y7_outcomeOf_19 x1 x2 x3 5 _ _ _ hE hp hP hD hS (lv_sub hl [0, 1, 2, 3] rfl)
  exact B_M a1 a2 a3 _ _ _ hX hp hP hD hS hl
theorem gdX7_amend_0 : ckS (List.drop 0 cX7_amend.data.toList) 0 [(0, .aload_n 2, 1), (1, .getfield 129, 3), (4, .istore_n 3, 1), (5, .aload_n 2, 1), (6, .getfield 132, 3), (9, .istore 4, 2), (11, .aload_n 2, 1), (12, .getfield 103, 3), (15, .getfield 135, 3), (18, .istore 5, 2), (20, .aload_n 1, 1), (21, .getfield 103, 3), (24, .iload_n 3, 1), (25, .iload 4, 2), (27, .aload_n 2, 1), (28, .getfield 103, 3), (31, .invokevirtual 136, 3)] = true := by decide +kernel
theorem dX7_amend_0 : decode cX7_amend 0 = .ok (.aload_n 2, 1) := ckS_g gdX7_amend_0 0 rfl
theorem dX7_amend_1 : decode cX7_amend 1 = .ok (.getfield 129, 3) := ckS_g gdX7_amend_0 1 rfl
theorem dX7_amend_4 : decode cX7_amend 4 = .ok (.istore_n 3, 1) := ckS_g gdX7_amend_0 2 rfl
theorem dX7_amend_5 : decode cX7_amend 5 = .ok (.aload_n 2, 1) := ckS_g gdX7_amend_0 3 rfl
theorem dX7_amend_6 : decode cX7_amend 6 = .ok (.getfield 132, 3) := ckS_g gdX7_amend_0 4 rfl
theorem dX7_amend_9 : decode cX7_amend 9 = .ok (.istore 4, 2) := ckS_g gdX7_amend_0 5 rfl
theorem dX7_amend_11 : decode cX7_amend 11 = .ok (.aload_n 2, 1) := ckS_g gdX7_amend_0 6 rfl
theorem dX7_amend_12 : decode cX7_amend 12 = .ok (.getfield 103, 3) := ckS_g gdX7_amend_0 7 rfl
theorem dX7_amend_15 : decode cX7_amend 15 = .ok (.getfield 135, 3) := ckS_g gdX7_amend_0 8 rfl
theorem dX7_amend_18 : decode cX7_amend 18 = .ok (.istore 5, 2) := ckS_g gdX7_amend_0 9 rfl
theorem dX7_amend_20 : decode cX7_amend 20 = .ok (.aload_n 1, 1) := ckS_g gdX7_amend_0 10 rfl
theorem dX7_amend_21 : decode cX7_amend 21 = .ok (.getfield 103, 3) := ckS_g gdX7_amend_0 11 rfl
theorem dX7_amend_24 : decode cX7_amend 24 = .ok (.iload_n 3, 1) := ckS_g gdX7_amend_0 12 rfl
theorem dX7_amend_25 : decode cX7_amend 25 = .ok (.iload 4, 2) := ckS_g gdX7_amend_0 13 rfl
theorem dX7_amend_27 : decode cX7_amend 27 = .ok (.aload_n 2, 1) := ckS_g gdX7_amend_0 14 rfl
theorem dX7_amend_28 : decode cX7_amend 28 = .ok (.getfield 103, 3) := ckS_g gdX7_amend_0 15 rfl
theorem dX7_amend_31 : decode cX7_amend 31 = .ok (.invokevirtual 136, 3) := ckS_g gdX7_amend_0 16 rfl
theorem gdX7_carryAlone_0 : ckS (List.drop 0 cX7_carryAlone.data.toList) 0 [(0, .aload_n 0, 1), (1, .getfield 58, 3), (4, .aload_n 0, 1), (5, .getfield 58, 3), (8, .getfield 92, 3), (11, .iconst 2, 1), (12, .isub, 1), (13, .invokevirtual 95, 3), (16, .astore_n 2, 1), (17, .aload_n 1, 1), (18, .getfield 37, 3), (21, .iconst 1, 1), (22, .if_icmp .ne 27, 3), (49, .aload_n 1, 1), (50, .getfield 37, 3), (53, .bipush 8, 2), (55, .if_icmp .ne 13, 3), (68, .aload_n 2, 1), (69, .ifnull 20, 3), (89, .aload_n 2, 1), (90, .ifnull 16, 3), (93, .aload_n 1, 1), (94, .invokevirtual 122, 3), (97, .ifCond .eq 9, 3), (100, .aload_n 0, 1), (101, .aload_n 2, 1), (102, .aload_n 1, 1), (103, .invokestatic 125, 3), (106, .return_, 1)] = true := by decide +kernel
theorem dX7_carryAlone_0 : decode cX7_carryAlone 0 = .ok (.aload_n 0, 1) := ckS_g gdX7_carryAlone_0 0 rfl
theorem dX7_carryAlone_1 : decode cX7_carryAlone 1 = .ok (.getfield 58, 3) := ckS_g gdX7_carryAlone_0 1 rfl
theorem dX7_carryAlone_4 : decode cX7_carryAlone 4 = .ok (.aload_n 0, 1) := ckS_g gdX7_carryAlone_0 2 rfl
theorem dX7_carryAlone_5 : decode cX7_carryAlone 5 = .ok (.getfield 58, 3) := ckS_g gdX7_carryAlone_0 3 rfl
theorem dX7_carryAlone_8 : decode cX7_carryAlone 8 = .ok (.getfield 92, 3) := ckS_g gdX7_carryAlone_0 4 rfl
theorem dX7_carryAlone_11 : decode cX7_carryAlone 11 = .ok (.iconst 2, 1) := ckS_g gdX7_carryAlone_0 5 rfl
theorem dX7_carryAlone_12 : decode cX7_carryAlone 12 = .ok (.isub, 1) := ckS_g gdX7_carryAlone_0 6 rfl
theorem dX7_carryAlone_13 : decode cX7_carryAlone 13 = .ok (.invokevirtual 95, 3) := ckS_g gdX7_carryAlone_0 7 rfl
theorem dX7_carryAlone_16 : decode cX7_carryAlone 16 = .ok (.astore_n 2, 1) := ckS_g gdX7_carryAlone_0 8 rfl
theorem dX7_carryAlone_17 : decode cX7_carryAlone 17 = .ok (.aload_n 1, 1) := ckS_g gdX7_carryAlone_0 9 rfl
theorem dX7_carryAlone_18 : decode cX7_carryAlone 18 = .ok (.getfield 37, 3) := ckS_g gdX7_carryAlone_0 10 rfl
theorem dX7_carryAlone_21 : decode cX7_carryAlone 21 = .ok (.iconst 1, 1) := ckS_g gdX7_carryAlone_0 11 rfl
theorem dX7_carryAlone_22 : decode cX7_carryAlone 22 = .ok (.if_icmp .ne 27, 3) := ckS_g gdX7_carryAlone_0 12 rfl
theorem dX7_carryAlone_49 : decode cX7_carryAlone 49 = .ok (.aload_n 1, 1) := ckS_g gdX7_carryAlone_0 13 rfl
theorem dX7_carryAlone_50 : decode cX7_carryAlone 50 = .ok (.getfield 37, 3) := ckS_g gdX7_carryAlone_0 14 rfl
theorem dX7_carryAlone_53 : decode cX7_carryAlone 53 = .ok (.bipush 8, 2) := ckS_g gdX7_carryAlone_0 15 rfl
theorem dX7_carryAlone_55 : decode cX7_carryAlone 55 = .ok (.if_icmp .ne 13, 3) := ckS_g gdX7_carryAlone_0 16 rfl
theorem dX7_carryAlone_68 : decode cX7_carryAlone 68 = .ok (.aload_n 2, 1) := ckS_g gdX7_carryAlone_0 17 rfl
theorem dX7_carryAlone_69 : decode cX7_carryAlone 69 = .ok (.ifnull 20, 3) := ckS_g gdX7_carryAlone_0 18 rfl
theorem dX7_carryAlone_89 : decode cX7_carryAlone 89 = .ok (.aload_n 2, 1) := ckS_g gdX7_carryAlone_0 19 rfl
theorem dX7_carryAlone_90 : decode cX7_carryAlone 90 = .ok (.ifnull 16, 3) := ckS_g gdX7_carryAlone_0 20 rfl
theorem dX7_carryAlone_93 : decode cX7_carryAlone 93 = .ok (.aload_n 1, 1) := ckS_g gdX7_carryAlone_0 21 rfl
theorem dX7_carryAlone_94 : decode cX7_carryAlone 94 = .ok (.invokevirtual 122, 3) := ckS_g gdX7_carryAlone_0 22 rfl
theorem dX7_carryAlone_97 : decode cX7_carryAlone 97 = .ok (.ifCond .eq 9, 3) := ckS_g gdX7_carryAlone_0 23 rfl
theorem dX7_carryAlone_100 : decode cX7_carryAlone 100 = .ok (.aload_n 0, 1) := ckS_g gdX7_carryAlone_0 24 rfl
theorem dX7_carryAlone_101 : decode cX7_carryAlone 101 = .ok (.aload_n 2, 1) := ckS_g gdX7_carryAlone_0 25 rfl
theorem dX7_carryAlone_102 : decode cX7_carryAlone 102 = .ok (.aload_n 1, 1) := ckS_g gdX7_carryAlone_0 26 rfl
theorem dX7_carryAlone_103 : decode cX7_carryAlone 103 = .ok (.invokestatic 125, 3) := ckS_g gdX7_carryAlone_0 27 rfl
theorem dX7_carryAlone_106 : decode cX7_carryAlone 106 = .ok (.return_, 1) := ckS_g gdX7_carryAlone_0 28 rfl
theorem gdX9_replace_0 : ckS (List.drop 0 cX9_replace.data.toList) 0 [(0, .aload_n 0, 1), (1, .iload_n 1, 1), (2, .iload_n 2, 1), (3, .aload_n 3, 1), (4, .getfield 15, 3), (7, .invokevirtual 34, 3)] = true := by decide +kernel
theorem dX9_replace_0 : decode cX9_replace 0 = .ok (.aload_n 0, 1) := ckS_g gdX9_replace_0 0 rfl
theorem dX9_replace_1 : decode cX9_replace 1 = .ok (.iload_n 1, 1) := ckS_g gdX9_replace_0 1 rfl
theorem dX9_replace_2 : decode cX9_replace 2 = .ok (.iload_n 2, 1) := ckS_g gdX9_replace_0 2 rfl
theorem dX9_replace_3 : decode cX9_replace 3 = .ok (.aload_n 3, 1) := ckS_g gdX9_replace_0 3 rfl
theorem dX9_replace_4 : decode cX9_replace 4 = .ok (.getfield 15, 3) := ckS_g gdX9_replace_0 4 rfl
theorem dX9_replace_7 : decode cX9_replace 7 = .ok (.invokevirtual 34, 3) := ckS_g gdX9_replace_0 5 rfl
set_option maxRecDepth 100000 in
theorem zc312 : wZ (.code yX9_sizeWith cX9_sizeWith 4 (some .int)) := ⟨wT2 (List.mem_of_getElem? (i := 173) rfl), Or.inl rfl⟩
def f_Y9_sizeWith (S : Cst) (x0 : Nat) (x1 : Int32) (x2 : Int32) (x3 : Int32) : Int32 := (((giC S x0 1) - (x2 - x1)) + x3)
def p_Y9_sizeWith (S : Cst) (x0 : Nat) (x1 : Int32) (x2 : Int32) (x3 : Int32) : Prop := True
def e_Y9_sizeWith : List Cond := [.fieldLink RX9 15 "MotionFloor$Text" "size" "I"]
def v_Y9_sizeWith : List Cond := .code yX9_sizeWith cX9_sizeWith 4 (some .int) :: (e_Y9_sizeWith ++ (wsX90 ++ []))
theorem te_Y9_sizeWith : GoodIn lw_tbl e_Y9_sizeWith := wGc zc120 (wG0)
theorem t_Y9_sizeWith : GoodIn lw_tbl v_Y9_sizeWith := wGc zc312 (wGa te_Y9_sizeWith (wGa zcX9 (wG0)))
set_option maxHeartbeats 4000000 in
set_option maxRecDepth 100000 in
theorem c_Y9_sizeWith (l : Launch) (G : va_G) (K : Nat → ClassId) (ad : Nat → Nat) (S : Cst) (x0 : Nat) (a1 : Int32) (a2 : Int32) (a3 : Int32) (sz : Nat) : Met l yX9_sizeWith v_Y9_sizeWith ({ frames := 0, cells := 0, slots := 0, locals := 0 }) (va_Pc [.ref (ad x0), .int a1, .int a2, .int a3] (cSt G K ad sz S (iK S x0 6 ∧ p_Y9_sizeWith S x0 a1 a2 a3))) (va_Qi (fun (r : Int32) (u : Cst) => (r, u) = (f_Y9_sizeWith S x0 a1 a2 a3, S)) (cBt G K ad (va_A (wsC K ad S) sz)) (va_A (wsC K ad S) sz)) 0 0 (va_A (wsC K ad S) sz) := by
  refine Met.ofW (cc := cX9_sizeWith) (maxL := 4) (ret := (some .int)) (by decide) rfl ?_
  intro p e s m args below meth c s₁ B hml hv
  obtain ⟨rfl, ⟨hsz, hP, hK, hD0, hTE⟩, hp⟩ := hv
  obtain ⟨k_x0, hp⟩ := hp
  have hx := B.exec
  have hb := B.bytes
  have hr := B.returns
  have hts := atoms_spec (ws := v_Y9_sizeWith) B.pre
  have t_ := t_Y9_sizeWith
  have mw : ∀ w ∈ e_Y9_sizeWith, w ∈ v_Y9_sizeWith := fun w h => List.mem_cons_of_mem _ (List.mem_append_left _ h)
  have hw := fun w (h : w ∈ e_Y9_sizeWith) => hts w (mw w h)
  have iX9 : ∀ w ∈ wsX90, w ∈ v_Y9_sizeWith := fun w h => List.mem_cons_of_mem _ (List.mem_append_right _ (List.mem_append_left _ h))
  have hown : s.vm.findClass RX9 = some m.cls := findClass_of_methodNamed B.named
  have hlocks := B.notSynchronized
  subst hsz
  have hD := hD0.self (sz := s.heap.size)
  generalize hAe : va_A (wsC K ad S) s.heap.size = A at hD ⊢
  have hA : ∀ q : Nat, s.heap.size ≤ q → A q := fun q h => by rw [← hAe]; exact Or.inr h
  have hS : va_S A s.heap s.heap [] := va_S.rf
  have hl : lv_has (lg_sl ([.ref (ad x0), .int a1, .int a2, .int a3]) ++ List.replicate (4 - (lg_sl ([.ref (ad x0), .int a1, .int a2, .int a3])).length) Slot.unset).toArray 4 [(0, .ref (ad x0)), (1, .int a1), (2, .int a2), (3, .int a3)] := by
    exact lv_entry ([.ref (ad x0), .int a1, .int a2, .int a3]) (n := 4) (Nat.le_of_ble_eq_true rfl)
  rw [lg_entry_eq]
  generalize (lg_sl ([.ref (ad x0), .int a1, .int a2, .int a3]) ++ List.replicate (4 - (lg_sl ([.ref (ad x0), .int a1, .int a2, .int a3])).length) Slot.unset).toArray = ls_ at hl ⊢
  refine wGen (fun Q hQ => ?_)
  obtain ⟨X, hX⟩ : ∃ X, f_Y9_sizeWith S x0 a1 a2 a3 = X := ⟨_, rfl⟩
  have B_M : ∀ (x1 : Int32) (x2 : Int32) (x3 : Int32) (H : Heap) (locs : List Loc) (ls_ : Array Slot), f_Y9_sizeWith S x0 x1 x2 x3 = X → p_Y9_sizeWith S x0 x1 x2 x3 → va_P G vwCl (wsC K ad S) H → va_D A (wsC K ad S) → va_S A s.heap H locs → lv_has ls_ 4 [(0, .ref (ad x0)), (1, .int x1), (2, .int x2), (3, .int x3)] → W p l e ({ frames := 0, cells := 0, slots := 0, locals := 0 } : Room) s m #[Value.ref (ad x0), Value.int a1, Value.int a2, Value.int a3] below meth c H locs 0 0 Q (F0 m 0 ls_ []) := by
    intro x1 x2 x3 H locs ls_ hE hp hP hD hS hl
    unfold f_Y9_sizeWith at hE
    unfold p_Y9_sizeWith at hp
    refine lv_aload_n hx hb dX9_sizeWith_0 rfl (lv_at hl 0 rfl) ?_
    refine va_get (D := G) (ci := 6) (v := .int (giC S x0 1)) (C := RX9) (T := TX9) (N := 2) hx hb hts iX9 hown hK hP x0 (at_6 k_x0) rfl 1 (by decide) (hw (.fieldLink RX9 15 "MotionFloor$Text" "size" "I") (List.mem_of_getElem? (i := 0) rfl)) (fun _ h9 => h9) rfl dX9_sizeWith_1 ?_
    refine lv_iload_n hx hb dX9_sizeWith_4 rfl (lv_at hl 2 rfl) ?_
    refine lv_iload_n hx hb dX9_sizeWith_5 rfl (lv_at hl 1 rfl) ?_
    refine lv_isub hx hb dX9_sizeWith_6 ?_
    refine lv_isub hx hb dX9_sizeWith_7 ?_
    refine lv_iload_n hx hb dX9_sizeWith_8 rfl (lv_at hl 3 rfl) ?_
    refine lv_iadd hx hb dX9_sizeWith_9 ?_
    subst hQ
    exact W.iret (v := (((giC S x0 1) - (x2 - x1)) + x3)) hx hb hr (fun t ht hW => ⟨⟨(((giC S x0 1) - (x2 - x1)) + x3), S, rfl, (pair_i (hE.trans hX.symm)), by rw [ht]; exact hP, hD⟩, hS.F ht⟩) hS.2.2 dX9_sizeWith_10
  exact B_M a1 a2 a3 _ _ _ hX hp hP hD hS hl
theorem gdX9_replace_10 : ckS (List.drop 10 cX9_replace.data.toList) 10 [(10, .istore 4, 2), (12, .iload_n 1, 1), (13, .ifCond .lt 26, 3), (16, .iload_n 2, 1), (17, .iload_n 1, 1), (18, .if_icmp .lt 21, 3), (21, .iload_n 2, 1), (22, .aload_n 0, 1), (23, .getfield 15, 3), (26, .if_icmp .gt 13, 3), (29, .iload 4, 2), (31, .aload_n 0, 1), (32, .getfield 9, 3), (35, .arraylength, 1), (36, .if_icmp .le 4, 3), (39, .return_, 1), (40, .aload_n 0, 1), (41, .getfield 9, 3), (44, .iload_n 2, 1), (45, .aload_n 0, 1), (46, .getfield 9, 3), (49, .iload_n 1, 1), (50, .aload_n 3, 1), (51, .getfield 15, 3), (54, .iadd, 1), (55, .aload_n 0, 1), (56, .getfield 15, 3), (59, .iload_n 2, 1), (60, .isub, 1), (61, .invokestatic 28, 3), (64, .aload_n 3, 1), (65, .getfield 9, 3), (68, .iconst 0, 1), (69, .aload_n 0, 1), (70, .getfield 9, 3), (73, .iload_n 1, 1), (74, .aload_n 3, 1), (75, .getfield 15, 3), (78, .invokestatic 28, 3), (81, .aload_n 0, 1)] = true := by decide +kernel
theorem dX9_replace_10 : decode cX9_replace 10 = .ok (.istore 4, 2) := ckS_g gdX9_replace_10 0 rfl
theorem dX9_replace_12 : decode cX9_replace 12 = .ok (.iload_n 1, 1) := ckS_g gdX9_replace_10 1 rfl
theorem dX9_replace_13 : decode cX9_replace 13 = .ok (.ifCond .lt 26, 3) := ckS_g gdX9_replace_10 2 rfl
theorem dX9_replace_16 : decode cX9_replace 16 = .ok (.iload_n 2, 1) := ckS_g gdX9_replace_10 3 rfl
theorem dX9_replace_17 : decode cX9_replace 17 = .ok (.iload_n 1, 1) := ckS_g gdX9_replace_10 4 rfl
theorem dX9_replace_18 : decode cX9_replace 18 = .ok (.if_icmp .lt 21, 3) := ckS_g gdX9_replace_10 5 rfl
theorem dX9_replace_21 : decode cX9_replace 21 = .ok (.iload_n 2, 1) := ckS_g gdX9_replace_10 6 rfl
theorem dX9_replace_22 : decode cX9_replace 22 = .ok (.aload_n 0, 1) := ckS_g gdX9_replace_10 7 rfl
theorem dX9_replace_23 : decode cX9_replace 23 = .ok (.getfield 15, 3) := ckS_g gdX9_replace_10 8 rfl
theorem dX9_replace_26 : decode cX9_replace 26 = .ok (.if_icmp .gt 13, 3) := ckS_g gdX9_replace_10 9 rfl
theorem dX9_replace_29 : decode cX9_replace 29 = .ok (.iload 4, 2) := ckS_g gdX9_replace_10 10 rfl
theorem dX9_replace_31 : decode cX9_replace 31 = .ok (.aload_n 0, 1) := ckS_g gdX9_replace_10 11 rfl
theorem dX9_replace_32 : decode cX9_replace 32 = .ok (.getfield 9, 3) := ckS_g gdX9_replace_10 12 rfl
theorem dX9_replace_35 : decode cX9_replace 35 = .ok (.arraylength, 1) := ckS_g gdX9_replace_10 13 rfl
theorem dX9_replace_36 : decode cX9_replace 36 = .ok (.if_icmp .le 4, 3) := ckS_g gdX9_replace_10 14 rfl
theorem dX9_replace_39 : decode cX9_replace 39 = .ok (.return_, 1) := ckS_g gdX9_replace_10 15 rfl
theorem dX9_replace_40 : decode cX9_replace 40 = .ok (.aload_n 0, 1) := ckS_g gdX9_replace_10 16 rfl
theorem dX9_replace_41 : decode cX9_replace 41 = .ok (.getfield 9, 3) := ckS_g gdX9_replace_10 17 rfl
theorem dX9_replace_44 : decode cX9_replace 44 = .ok (.iload_n 2, 1) := ckS_g gdX9_replace_10 18 rfl
theorem dX9_replace_45 : decode cX9_replace 45 = .ok (.aload_n 0, 1) := ckS_g gdX9_replace_10 19 rfl
theorem dX9_replace_46 : decode cX9_replace 46 = .ok (.getfield 9, 3) := ckS_g gdX9_replace_10 20 rfl
theorem dX9_replace_49 : decode cX9_replace 49 = .ok (.iload_n 1, 1) := ckS_g gdX9_replace_10 21 rfl
theorem dX9_replace_50 : decode cX9_replace 50 = .ok (.aload_n 3, 1) := ckS_g gdX9_replace_10 22 rfl
theorem dX9_replace_51 : decode cX9_replace 51 = .ok (.getfield 15, 3) := ckS_g gdX9_replace_10 23 rfl
theorem dX9_replace_54 : decode cX9_replace 54 = .ok (.iadd, 1) := ckS_g gdX9_replace_10 24 rfl
theorem dX9_replace_55 : decode cX9_replace 55 = .ok (.aload_n 0, 1) := ckS_g gdX9_replace_10 25 rfl
theorem dX9_replace_56 : decode cX9_replace 56 = .ok (.getfield 15, 3) := ckS_g gdX9_replace_10 26 rfl
theorem dX9_replace_59 : decode cX9_replace 59 = .ok (.iload_n 2, 1) := ckS_g gdX9_replace_10 27 rfl
theorem dX9_replace_60 : decode cX9_replace 60 = .ok (.isub, 1) := ckS_g gdX9_replace_10 28 rfl
theorem dX9_replace_61 : decode cX9_replace 61 = .ok (.invokestatic 28, 3) := ckS_g gdX9_replace_10 29 rfl
theorem dX9_replace_64 : decode cX9_replace 64 = .ok (.aload_n 3, 1) := ckS_g gdX9_replace_10 30 rfl
theorem dX9_replace_65 : decode cX9_replace 65 = .ok (.getfield 9, 3) := ckS_g gdX9_replace_10 31 rfl
theorem dX9_replace_68 : decode cX9_replace 68 = .ok (.iconst 0, 1) := ckS_g gdX9_replace_10 32 rfl
theorem dX9_replace_69 : decode cX9_replace 69 = .ok (.aload_n 0, 1) := ckS_g gdX9_replace_10 33 rfl
theorem dX9_replace_70 : decode cX9_replace 70 = .ok (.getfield 9, 3) := ckS_g gdX9_replace_10 34 rfl
theorem dX9_replace_73 : decode cX9_replace 73 = .ok (.iload_n 1, 1) := ckS_g gdX9_replace_10 35 rfl
theorem dX9_replace_74 : decode cX9_replace 74 = .ok (.aload_n 3, 1) := ckS_g gdX9_replace_10 36 rfl
theorem dX9_replace_75 : decode cX9_replace 75 = .ok (.getfield 15, 3) := ckS_g gdX9_replace_10 37 rfl
theorem dX9_replace_78 : decode cX9_replace 78 = .ok (.invokestatic 28, 3) := ckS_g gdX9_replace_10 38 rfl
theorem dX9_replace_81 : decode cX9_replace 81 = .ok (.aload_n 0, 1) := ckS_g gdX9_replace_10 39 rfl
theorem gdX9_replace_82 : ckS (List.drop 82 cX9_replace.data.toList) 82 [(82, .iload 4, 2), (84, .putfield 15, 3), (87, .return_, 1)] = true := by decide +kernel
theorem dX9_replace_82 : decode cX9_replace 82 = .ok (.iload 4, 2) := ckS_g gdX9_replace_82 0 rfl
theorem dX9_replace_84 : decode cX9_replace 84 = .ok (.putfield 15, 3) := ckS_g gdX9_replace_82 1 rfl
theorem dX9_replace_87 : decode cX9_replace 87 = .ok (.return_, 1) := ckS_g gdX9_replace_82 2 rfl
set_option maxRecDepth 100000 in
theorem zc313 : wZ (.selects RX9 yX9_sizeWith yX9_sizeWith) := ⟨wT2 (List.mem_of_getElem? (i := 172) (by decide +kernel)), Or.inl rfl⟩
set_option maxRecDepth 100000 in
theorem zc314 : wZ (.instanceMethod yX9_sizeWith) := ⟨wT2 (List.mem_of_getElem? (i := 171) (by decide +kernel)), Or.inl rfl⟩
set_option maxRecDepth 100000 in
theorem zc315 : wZ (.methodLink RX9 34 yX9_sizeWith) := ⟨wT4 (List.mem_of_getElem? (i := 16) (by decide +kernel)), Or.inl rfl⟩
set_option maxRecDepth 100000 in
theorem zc316 : wZ (.code yX9_replace cX9_replace 5 none) := ⟨wT4 (List.mem_of_getElem? (i := 15) rfl), Or.inl rfl⟩
def b_Y9_replace_39 (S : Cst) (x0 : Nat) (x3 : Nat) (x1 : Int32) (x2 : Int32) (x4 : Int32) : Int32 × Cst := (0, S)
def q_Y9_replace_39 (S : Cst) (x0 : Nat) (x3 : Nat) (x1 : Int32) (x2 : Int32) (x4 : Int32) : Prop := True
def b_Y9_replace_81a (S : Cst) (x0 : Nat) (x3 : Nat) (x1 : Int32) (x2 : Int32) (x4 : Int32) : Int32 × Cst := (0, (siC S x0 1 x4))
def q_Y9_replace_81a (S : Cst) (x0 : Nat) (x3 : Nat) (x1 : Int32) (x2 : Int32) (x4 : Int32) : Prop := True
def f_Y9_replace (S : Cst) (x0 : Nat) (x3 : Nat) (x1 : Int32) (x2 : Int32) : Int32 × Cst := if x1 < 0 then (b_Y9_replace_39 S x0 x3 x1 x2 (f_Y9_sizeWith S x0 x1 x2 (giC S x3 1))) else if x2 < x1 then (b_Y9_replace_39 S x0 x3 x1 x2 (f_Y9_sizeWith S x0 x1 x2 (giC S x3 1))) else if (giC S x0 1) < x2 then (b_Y9_replace_39 S x0 x3 x1 x2 (f_Y9_sizeWith S x0 x1 x2 (giC S x3 1))) else if (f_Y9_sizeWith S x0 x1 x2 (giC S x3 1)) ≤ (Int32.ofNat (lnC S ((grC S x0 0).getD 0))) then (b_Y9_replace_81a (sfC (sfC S ((grC S x0 0).getD 0) (va_cpy (giC S ((grC S x0 0).getD 0)) (giC S ((grC S x0 0).getD 0)) x2.toNatClampNeg (x1 + (giC S x3 1)).toNatClampNeg ((giC S x0 1) - x2).toNatClampNeg)) ((grC (sfC S ((grC S x0 0).getD 0) (va_cpy (giC S ((grC S x0 0).getD 0)) (giC S ((grC S x0 0).getD 0)) x2.toNatClampNeg (x1 + (giC S x3 1)).toNatClampNeg ((giC S x0 1) - x2).toNatClampNeg)) x0 0).getD 0) (va_cpy (giC (sfC S ((grC S x0 0).getD 0) (va_cpy (giC S ((grC S x0 0).getD 0)) (giC S ((grC S x0 0).getD 0)) x2.toNatClampNeg (x1 + (giC S x3 1)).toNatClampNeg ((giC S x0 1) - x2).toNatClampNeg)) ((grC (sfC S ((grC S x0 0).getD 0) (va_cpy (giC S ((grC S x0 0).getD 0)) (giC S ((grC S x0 0).getD 0)) x2.toNatClampNeg (x1 + (giC S x3 1)).toNatClampNeg ((giC S x0 1) - x2).toNatClampNeg)) x3 0).getD 0)) (giC (sfC S ((grC S x0 0).getD 0) (va_cpy (giC S ((grC S x0 0).getD 0)) (giC S ((grC S x0 0).getD 0)) x2.toNatClampNeg (x1 + (giC S x3 1)).toNatClampNeg ((giC S x0 1) - x2).toNatClampNeg)) ((grC (sfC S ((grC S x0 0).getD 0) (va_cpy (giC S ((grC S x0 0).getD 0)) (giC S ((grC S x0 0).getD 0)) x2.toNatClampNeg (x1 + (giC S x3 1)).toNatClampNeg ((giC S x0 1) - x2).toNatClampNeg)) x0 0).getD 0)) (0 : Int32).toNatClampNeg x1.toNatClampNeg (giC (sfC S ((grC S x0 0).getD 0) (va_cpy (giC S ((grC S x0 0).getD 0)) (giC S ((grC S x0 0).getD 0)) x2.toNatClampNeg (x1 + (giC S x3 1)).toNatClampNeg ((giC S x0 1) - x2).toNatClampNeg)) x3 1).toNatClampNeg)) x0 x3 x1 x2 (f_Y9_sizeWith S x0 x1 x2 (giC S x3 1))) else (b_Y9_replace_39 S x0 x3 x1 x2 (f_Y9_sizeWith S x0 x1 x2 (giC S x3 1)))
def p_Y9_replace (S : Cst) (x0 : Nat) (x3 : Nat) (x1 : Int32) (x2 : Int32) : Prop := (p_Y9_sizeWith S x0 x1 x2 (giC S x3 1)) ∧ (if x1 < 0 then (q_Y9_replace_39 S x0 x3 x1 x2 (f_Y9_sizeWith S x0 x1 x2 (giC S x3 1))) else (if x2 < x1 then (q_Y9_replace_39 S x0 x3 x1 x2 (f_Y9_sizeWith S x0 x1 x2 (giC S x3 1))) else (if (giC S x0 1) < x2 then (q_Y9_replace_39 S x0 x3 x1 x2 (f_Y9_sizeWith S x0 x1 x2 (giC S x3 1))) else (iR S (grC S x0 0) 20) ∧ (if (f_Y9_sizeWith S x0 x1 x2 (giC S x3 1)) ≤ (Int32.ofNat (lnC S ((grC S x0 0).getD 0))) then (iR S (grC S x0 0) 20) ∧ (iR S (grC S x0 0) 20) ∧ ((¬ x2 < 0 ∧ ¬ (x1 + (giC S x3 1)) < 0 ∧ ¬ ((giC S x0 1) - x2) < 0) ∧ x2.toNatClampNeg + ((giC S x0 1) - x2).toNatClampNeg ≤ lnC S ((grC S x0 0).getD 0) ∧ (x1 + (giC S x3 1)).toNatClampNeg + ((giC S x0 1) - x2).toNatClampNeg ≤ lnC S ((grC S x0 0).getD 0)) ∧ (iR (sfC S ((grC S x0 0).getD 0) (va_cpy (giC S ((grC S x0 0).getD 0)) (giC S ((grC S x0 0).getD 0)) x2.toNatClampNeg (x1 + (giC S x3 1)).toNatClampNeg ((giC S x0 1) - x2).toNatClampNeg)) (grC (sfC S ((grC S x0 0).getD 0) (va_cpy (giC S ((grC S x0 0).getD 0)) (giC S ((grC S x0 0).getD 0)) x2.toNatClampNeg (x1 + (giC S x3 1)).toNatClampNeg ((giC S x0 1) - x2).toNatClampNeg)) x3 0) 20) ∧ (iR (sfC S ((grC S x0 0).getD 0) (va_cpy (giC S ((grC S x0 0).getD 0)) (giC S ((grC S x0 0).getD 0)) x2.toNatClampNeg (x1 + (giC S x3 1)).toNatClampNeg ((giC S x0 1) - x2).toNatClampNeg)) (grC (sfC S ((grC S x0 0).getD 0) (va_cpy (giC S ((grC S x0 0).getD 0)) (giC S ((grC S x0 0).getD 0)) x2.toNatClampNeg (x1 + (giC S x3 1)).toNatClampNeg ((giC S x0 1) - x2).toNatClampNeg)) x0 0) 20) ∧ ((¬ (0 : Int32) < 0 ∧ ¬ x1 < 0 ∧ ¬ (giC (sfC S ((grC S x0 0).getD 0) (va_cpy (giC S ((grC S x0 0).getD 0)) (giC S ((grC S x0 0).getD 0)) x2.toNatClampNeg (x1 + (giC S x3 1)).toNatClampNeg ((giC S x0 1) - x2).toNatClampNeg)) x3 1) < 0) ∧ (0 : Int32).toNatClampNeg + (giC (sfC S ((grC S x0 0).getD 0) (va_cpy (giC S ((grC S x0 0).getD 0)) (giC S ((grC S x0 0).getD 0)) x2.toNatClampNeg (x1 + (giC S x3 1)).toNatClampNeg ((giC S x0 1) - x2).toNatClampNeg)) x3 1).toNatClampNeg ≤ lnC (sfC S ((grC S x0 0).getD 0) (va_cpy (giC S ((grC S x0 0).getD 0)) (giC S ((grC S x0 0).getD 0)) x2.toNatClampNeg (x1 + (giC S x3 1)).toNatClampNeg ((giC S x0 1) - x2).toNatClampNeg)) ((grC (sfC S ((grC S x0 0).getD 0) (va_cpy (giC S ((grC S x0 0).getD 0)) (giC S ((grC S x0 0).getD 0)) x2.toNatClampNeg (x1 + (giC S x3 1)).toNatClampNeg ((giC S x0 1) - x2).toNatClampNeg)) x3 0).getD 0) ∧ x1.toNatClampNeg + (giC (sfC S ((grC S x0 0).getD 0) (va_cpy (giC S ((grC S x0 0).getD 0)) (giC S ((grC S x0 0).getD 0)) x2.toNatClampNeg (x1 + (giC S x3 1)).toNatClampNeg ((giC S x0 1) - x2).toNatClampNeg)) x3 1).toNatClampNeg ≤ lnC (sfC S ((grC S x0 0).getD 0) (va_cpy (giC S ((grC S x0 0).getD 0)) (giC S ((grC S x0 0).getD 0)) x2.toNatClampNeg (x1 + (giC S x3 1)).toNatClampNeg ((giC S x0 1) - x2).toNatClampNeg)) ((grC (sfC S ((grC S x0 0).getD 0) (va_cpy (giC S ((grC S x0 0).getD 0)) (giC S ((grC S x0 0).getD 0)) x2.toNatClampNeg (x1 + (giC S x3 1)).toNatClampNeg ((giC S x0 1) - x2).toNatClampNeg)) x0 0).getD 0)) ∧ (q_Y9_replace_81a (sfC (sfC S ((grC S x0 0).getD 0) (va_cpy (giC S ((grC S x0 0).getD 0)) (giC S ((grC S x0 0).getD 0)) x2.toNatClampNeg (x1 + (giC S x3 1)).toNatClampNeg ((giC S x0 1) - x2).toNatClampNeg)) ((grC (sfC S ((grC S x0 0).getD 0) (va_cpy (giC S ((grC S x0 0).getD 0)) (giC S ((grC S x0 0).getD 0)) x2.toNatClampNeg (x1 + (giC S x3 1)).toNatClampNeg ((giC S x0 1) - x2).toNatClampNeg)) x0 0).getD 0) (va_cpy (giC (sfC S ((grC S x0 0).getD 0) (va_cpy (giC S ((grC S x0 0).getD 0)) (giC S ((grC S x0 0).getD 0)) x2.toNatClampNeg (x1 + (giC S x3 1)).toNatClampNeg ((giC S x0 1) - x2).toNatClampNeg)) ((grC (sfC S ((grC S x0 0).getD 0) (va_cpy (giC S ((grC S x0 0).getD 0)) (giC S ((grC S x0 0).getD 0)) x2.toNatClampNeg (x1 + (giC S x3 1)).toNatClampNeg ((giC S x0 1) - x2).toNatClampNeg)) x3 0).getD 0)) (giC (sfC S ((grC S x0 0).getD 0) (va_cpy (giC S ((grC S x0 0).getD 0)) (giC S ((grC S x0 0).getD 0)) x2.toNatClampNeg (x1 + (giC S x3 1)).toNatClampNeg ((giC S x0 1) - x2).toNatClampNeg)) ((grC (sfC S ((grC S x0 0).getD 0) (va_cpy (giC S ((grC S x0 0).getD 0)) (giC S ((grC S x0 0).getD 0)) x2.toNatClampNeg (x1 + (giC S x3 1)).toNatClampNeg ((giC S x0 1) - x2).toNatClampNeg)) x0 0).getD 0)) (0 : Int32).toNatClampNeg x1.toNatClampNeg (giC (sfC S ((grC S x0 0).getD 0) (va_cpy (giC S ((grC S x0 0).getD 0)) (giC S ((grC S x0 0).getD 0)) x2.toNatClampNeg (x1 + (giC S x3 1)).toNatClampNeg ((giC S x0 1) - x2).toNatClampNeg)) x3 1).toNatClampNeg)) x0 x3 x1 x2 (f_Y9_sizeWith S x0 x1 x2 (giC S x3 1))) else (q_Y9_replace_39 S x0 x3 x1 x2 (f_Y9_sizeWith S x0 x1 x2 (giC S x3 1)))))))
def e_Y9_replace : List Cond := [.fieldLink RX9 15 "MotionFloor$Text" "size" "I", .methodLink RX9 34 yX9_sizeWith, .instanceMethod yX9_sizeWith, .selects RX9 yX9_sizeWith yX9_sizeWith, .initialized RX9, .fieldLink RX9 9 "MotionFloor$Text" "words" "[I", .methodLink RX9 28 arraycopyName, .native arraycopyName, .static arraycopyName, .initialized "java/lang/System"]
def v_Y9_replace : List Cond := .code yX9_replace cX9_replace 5 none :: (e_Y9_replace ++ (wsX90 ++ (v_Y9_sizeWith ++ [])))
theorem te_Y9_replace : GoodIn lw_tbl e_Y9_replace := wGc zc120 (wGc zc315 (wGc zc314 (wGc zc313 (wGc zc130 (wGc zc119 (wGc zc267 (wGc zc207 (wGc zc206 (wGc zc205 (wG0))))))))))
theorem t_Y9_replace : GoodIn lw_tbl v_Y9_replace := wGc zc316 (wGa te_Y9_replace (wGa zcX9 (wGa t_Y9_sizeWith (wG0))))
set_option maxHeartbeats 4000000 in
set_option maxRecDepth 100000 in
theorem c_Y9_replace (l : Launch) (G : va_G) (K : Nat → ClassId) (ad : Nat → Nat) (S0 : Cst) (x0 : Nat) (x3 : Nat) (a1 : Int32) (a2 : Int32) (sz : Nat) : Met l yX9_replace v_Y9_replace ({ frames := 1, cells := 0, slots := 0, locals := 60 }) (va_Pc [.ref (ad x0), .int a1, .int a2, .ref (ad x3)] (cSt G K ad sz S0 (iK S0 x0 6 ∧ iK S0 x3 6 ∧ p_Y9_replace S0 x0 x3 a1 a2))) (va_Qv (fun u : Cst => (0, u) = f_Y9_replace S0 x0 x3 a1 a2 ∧ eK S0 u) (cBt G K ad (va_A (wsC K ad S0) sz)) (va_A (wsC K ad S0) sz)) 0 0 (va_A (wsC K ad S0) sz) := by
  refine Met.ofW (cc := cX9_replace) (maxL := 5) (ret := none) (by decide) rfl ?_
  intro p e s m args below meth c s₁ B hml hv
  obtain ⟨rfl, ⟨hsz, hP, hK, hD0, hTE⟩, hp⟩ := hv
  obtain ⟨k_x0, hp⟩ := hp
  obtain ⟨k_x3, hp⟩ := hp
  have hx := B.exec
  have hb := B.bytes
  have hr := B.returns
  have hts := atoms_spec (ws := v_Y9_replace) B.pre
  have t_ := t_Y9_replace
  have mw : ∀ w ∈ e_Y9_replace, w ∈ v_Y9_replace := fun w h => List.mem_cons_of_mem _ (List.mem_append_left _ h)
  have hw := fun w (h : w ∈ e_Y9_replace) => hts w (mw w h)
  have iX9 : ∀ w ∈ wsX90, w ∈ v_Y9_replace := fun w h => List.mem_cons_of_mem _ (List.mem_append_right _ (List.mem_append_left _ h))
  have j_Y9_sizeWith : ∀ w ∈ v_Y9_sizeWith, w ∈ v_Y9_replace := fun w h => List.mem_cons_of_mem _ (List.mem_append_right _ (List.mem_append_right _ (List.mem_append_left _ h)))
  have hown : s.vm.findClass RX9 = some m.cls := findClass_of_methodNamed B.named
  have hlocks := B.notSynchronized
  subst hsz
  have hD := hD0.self (sz := s.heap.size)
  generalize hAe : va_A (wsC K ad S0) s.heap.size = A at hD ⊢
  have hA : ∀ q : Nat, s.heap.size ≤ q → A q := fun q h => by rw [← hAe]; exact Or.inr h
  have hS : va_S A s.heap s.heap [] := va_S.rf
  have hl : lv_has (lg_sl ([.ref (ad x0), .int a1, .int a2, .ref (ad x3)]) ++ List.replicate (5 - (lg_sl ([.ref (ad x0), .int a1, .int a2, .ref (ad x3)])).length) Slot.unset).toArray 5 [(0, .ref (ad x0)), (1, .int a1), (2, .int a2), (3, .ref (ad x3))] := by
    exact lv_entry ([.ref (ad x0), .int a1, .int a2, .ref (ad x3)]) (n := 5) (Nat.le_of_ble_eq_true rfl)
  rw [lg_entry_eq]
  generalize (lg_sl ([.ref (ad x0), .int a1, .int a2, .ref (ad x3)]) ++ List.replicate (5 - (lg_sl ([.ref (ad x0), .int a1, .int a2, .ref (ad x3)])).length) Slot.unset).toArray = ls_ at hl ⊢
  refine wGen (fun Q hQ => ?_)
  obtain ⟨X, hX⟩ : ∃ X, f_Y9_replace S0 x0 x3 a1 a2 = X := ⟨_, rfl⟩
  have B_Y9_replace_39 : ∀ (S : Cst) (x1 : Int32) (x2 : Int32) (x4 : Int32) (H : Heap) (locs : List Loc) (ls_ : Array Slot), b_Y9_replace_39 S x0 x3 x1 x2 x4 = X → q_Y9_replace_39 S x0 x3 x1 x2 x4 → eK S0 S → va_P G vwCl (wsC K ad S) H → va_D A (wsC K ad S) → va_S A s.heap H locs → lv_has ls_ 5 [(0, .ref (ad x0)), (3, .ref (ad x3)), (1, .int x1), (2, .int x2), (4, .int x4)] → W p l e ({ frames := 1, cells := 0, slots := 0, locals := 60 } : Room) s m #[Value.ref (ad x0), Value.int a1, Value.int a2, Value.ref (ad x3)] below meth c H locs 0 0 Q (F0 m 39 ls_ []) := by
    intro S x1 x2 x4 H locs ls_ hE hp hZ hP hD hS hl
    unfold b_Y9_replace_39 at hE
    unfold q_Y9_replace_39 at hp
    subst hQ
    exact W.vret hx hb hr (fun t ht hW => ⟨⟨S, rfl, ⟨hE.trans hX.symm, hZ⟩, by rw [ht]; exact hP, hD⟩, hS.F ht⟩) hS.2.2 dX9_replace_39
  have B_Y9_replace_81a : ∀ (S : Cst) (x1 : Int32) (x2 : Int32) (x4 : Int32) (H : Heap) (locs : List Loc) (ls_ : Array Slot), b_Y9_replace_81a S x0 x3 x1 x2 x4 = X → q_Y9_replace_81a S x0 x3 x1 x2 x4 → eK S0 S → va_P G vwCl (wsC K ad S) H → va_D A (wsC K ad S) → va_S A s.heap H locs → lv_has ls_ 5 [(0, .ref (ad x0)), (3, .ref (ad x3)), (1, .int x1), (2, .int x2), (4, .int x4)] → W p l e ({ frames := 1, cells := 0, slots := 0, locals := 60 } : Room) s m #[Value.ref (ad x0), Value.int a1, Value.int a2, Value.ref (ad x3)] below meth c H locs 0 0 Q (F0 m 81 ls_ []) := by
    intro S x1 x2 x4 H locs ls_ hE hp hZ hP hD hS hl
    unfold b_Y9_replace_81a at hE
    unfold q_Y9_replace_81a at hp
    refine lv_aload_n hx hb dX9_replace_81 rfl (lv_at hl 0 rfl) ?_
    refine lv_iload hx hb dX9_replace_82 (lv_at hl 4 rfl) ?_
    refine va_put (D := G) (ci := 6) (v := .int x4) (ty := .int) (C := RX9) (T := TX9) (N := 2) hx hb hts iX9 tyX9 tyX9_ok nmX9 hown hK hP hD hS x0 (at_6 (k_x0.e hZ)) rfl 1 (by decide) (hw (.fieldLink RX9 15 "MotionFloor$Text" "size" "I") (List.mem_of_getElem? (i := 0) rfl)) (fun _ h9 => h9) rfl (by decide +kernel) rfl rfl (Nat.le_of_ble_eq_true rfl) dX9_replace_84 (fun H locs hP hD hS => ?_)
    rw [st_6_1 (k_x0.e hZ)] at hP hD
    have hZ := hZ.tr (eK.si S x0 1 x4)
    subst hQ
    exact W.vret hx hb hr (fun t ht hW => ⟨⟨(siC S x0 1 x4), rfl, ⟨hE.trans hX.symm, hZ⟩, by rw [ht]; exact hP, hD⟩, hS.F ht⟩) hS.2.2 dX9_replace_87
  have B_M : ∀ (S : Cst) (x1 : Int32) (x2 : Int32) (H : Heap) (locs : List Loc) (ls_ : Array Slot), f_Y9_replace S x0 x3 x1 x2 = X → p_Y9_replace S x0 x3 x1 x2 → eK S0 S → va_P G vwCl (wsC K ad S) H → va_D A (wsC K ad S) → va_S A s.heap H locs → lv_has ls_ 5 [(0, .ref (ad x0)), (1, .int x1), (2, .int x2), (3, .ref (ad x3))] → W p l e ({ frames := 1, cells := 0, slots := 0, locals := 60 } : Room) s m #[Value.ref (ad x0), Value.int a1, Value.int a2, Value.ref (ad x3)] below meth c H locs 0 0 Q (F0 m 0 ls_ []) := by
    intro S x1 x2 H locs ls_ hE hp hZ hP hD hS hl
    unfold f_Y9_replace at hE
    unfold p_Y9_replace at hp
    refine lv_aload_n hx hb dX9_replace_0 rfl (lv_at hl 0 rfl) ?_
    refine lv_iload_n hx hb dX9_replace_1 rfl (lv_at hl 1 rfl) ?_
    refine lv_iload_n hx hb dX9_replace_2 rfl (lv_at hl 2 rfl) ?_
    refine lv_aload_n hx hb dX9_replace_3 rfl (lv_at hl 3 rfl) ?_
    refine va_get (D := G) (ci := 6) (v := .int (giC S x3 1)) (C := RX9) (T := TX9) (N := 2) hx hb hts iX9 hown hK hP x3 (at_6 (k_x3.e hZ)) rfl 1 (by decide) (hw (.fieldLink RX9 15 "MotionFloor$Text" "size" "I") (List.mem_of_getElem? (i := 0) rfl)) (fun _ h9 => h9) rfl dX9_replace_4 ?_
    obtain ⟨hy1, hp⟩ := hp
    refine cGoi (va_runV (As := [.int x1, .int x2, .int (giC S x3 1)]) (rest := []) ⟨hx, hb, hml, hown, hts⟩ (c_Y9_sizeWith l G K ad S x0 x1 x2 (giC S x3 1) _) (cwV 3 hts (wGV t_ (mw (.methodLink RX9 34 yX9_sizeWith) (List.mem_of_getElem? (i := 1) rfl)) (mw (.instanceMethod yX9_sizeWith) (List.mem_of_getElem? (i := 2) rfl)) (mw (.selects RX9 yX9_sizeWith yX9_sizeWith) (List.mem_of_getElem? (i := 3) rfl)) (mw (.initialized RX9) (List.mem_of_getElem? (i := 4) rfl)) j_Y9_sizeWith) rfl rfl rfl (by decide +kernel) ⟨Nat.le_of_ble_eq_true rfl, Nat.le_of_ble_eq_true rfl⟩) (cPV hK hTE hP hD 6 rfl (at_6 (k_x0.e hZ)) ⟨(k_x0.e hZ), hy1⟩) rfl rfl hl.1 rfl (lv_room (Nat.le_of_ble_eq_true rfl)) dX9_replace_7 ⟨Nat.le_of_ble_eq_true rfl, Nat.le_of_ble_eq_true rfl⟩) hP hD hS hA (fun r3 u2 H locs hv hP hD hS => ?_)
    have h1 := congrArg Prod.fst hv
    have h2 := (congrArg Prod.snd hv).symm
    dsimp only at h1 h2
    subst h1
    subst h2
    refine lv_istore (i := 4) (lv' := [(4, .int (f_Y9_sizeWith S x0 x1 x2 (giC S x3 1))), (0, .ref (ad x0)), (1, .int x1), (2, .int x2), (3, .ref (ad x3))]) hx hb dX9_replace_10 hl (by decide) rfl (fun ls_ hl => ?_)
    refine lv_iload_n hx hb dX9_replace_12 rfl (lv_at hl 2 rfl) ?_
    refine lv_if_lt (tgt := 39) hx hb dX9_replace_13 (by decide) (fun c4 => ?_) (fun c4 => ?_)
    · rw [if_pos c4] at hE hp
      exact B_Y9_replace_39 S x1 x2 (f_Y9_sizeWith S x0 x1 x2 (giC S x3 1)) _ _ _ hE hp hZ hP hD hS (lv_sub hl [1, 4, 2, 3, 0] rfl)
    · rw [if_neg c4] at hE hp
      refine lv_iload_n hx hb dX9_replace_16 rfl (lv_at hl 3 rfl) ?_
      refine lv_iload_n hx hb dX9_replace_17 rfl (lv_at hl 2 rfl) ?_
      refine lv_icmp_lt (tgt := 39) hx hb dX9_replace_18 (by decide) (fun c5 => ?_) (fun c5 => ?_)
      · rw [if_pos c5] at hE hp
        exact B_Y9_replace_39 S x1 x2 (f_Y9_sizeWith S x0 x1 x2 (giC S x3 1)) _ _ _ hE hp hZ hP hD hS (lv_sub hl [1, 4, 2, 3, 0] rfl)
      · rw [if_neg c5] at hE hp
        refine lv_iload_n hx hb dX9_replace_21 rfl (lv_at hl 3 rfl) ?_
        refine lv_aload_n hx hb dX9_replace_22 rfl (lv_at hl 1 rfl) ?_
        refine va_get (D := G) (ci := 6) (v := .int (giC S x0 1)) (C := RX9) (T := TX9) (N := 2) hx hb hts iX9 hown hK hP x0 (at_6 (k_x0.e hZ)) rfl 1 (by decide) (hw (.fieldLink RX9 15 "MotionFloor$Text" "size" "I") (List.mem_of_getElem? (i := 0) rfl)) (fun _ h9 => h9) rfl dX9_replace_23 ?_
        refine lv_icmp_gt (tgt := 39) hx hb dX9_replace_26 (by decide) (fun c6 => ?_) (fun c6 => ?_)
        · rw [if_pos c6] at hE hp
          exact B_Y9_replace_39 S x1 x2 (f_Y9_sizeWith S x0 x1 x2 (giC S x3 1)) _ _ _ hE hp hZ hP hD hS (lv_sub hl [1, 4, 2, 3, 0] rfl)
        · rw [if_neg c6] at hE hp
          refine lv_iload hx hb dX9_replace_29 (lv_at hl 0 rfl) ?_
          refine lv_aload_n hx hb dX9_replace_31 rfl (lv_at hl 1 rfl) ?_
          refine va_get (D := G) (ci := 6) (v := va_re ad (grC S x0 0)) (C := RX9) (T := TX9) (N := 2) hx hb hts iX9 hown hK hP x0 (at_6 (k_x0.e hZ)) rfl 0 (by decide) (hw (.fieldLink RX9 9 "MotionFloor$Text" "words" "[I") (List.mem_of_getElem? (i := 5) rfl)) (fun _ h9 => h9) rfl dX9_replace_32 ?_
          obtain ⟨hy7, hp⟩ := hp
          refine cTop (r := (grC S x0 0)) hy7.1 ?_
          refine va_alen (v := (Int32.ofNat (lnC S ((grC S x0 0).getD 0)))) hx hb hK hP ((grC S x0 0).getD 0) 0 (at_20 hy7.2) rfl rfl dX9_replace_35 ?_
          refine lv_icmp_le (tgt := 40) hx hb dX9_replace_36 (by decide) (fun c8 => ?_) (fun c8 => ?_)
          · rw [if_pos c8] at hE hp
            refine lv_aload_n hx hb dX9_replace_40 rfl (lv_at hl 1 rfl) ?_
            refine va_get (D := G) (ci := 6) (v := va_re ad (grC S x0 0)) (C := RX9) (T := TX9) (N := 2) hx hb hts iX9 hown hK hP x0 (at_6 (k_x0.e hZ)) rfl 0 (by decide) (hw (.fieldLink RX9 9 "MotionFloor$Text" "words" "[I") (List.mem_of_getElem? (i := 5) rfl)) (fun _ h9 => h9) rfl dX9_replace_41 ?_
            refine lv_iload_n hx hb dX9_replace_44 rfl (lv_at hl 3 rfl) ?_
            refine lv_aload_n hx hb dX9_replace_45 rfl (lv_at hl 1 rfl) ?_
            refine va_get (D := G) (ci := 6) (v := va_re ad (grC S x0 0)) (C := RX9) (T := TX9) (N := 2) hx hb hts iX9 hown hK hP x0 (at_6 (k_x0.e hZ)) rfl 0 (by decide) (hw (.fieldLink RX9 9 "MotionFloor$Text" "words" "[I") (List.mem_of_getElem? (i := 5) rfl)) (fun _ h9 => h9) rfl dX9_replace_46 ?_
            refine lv_iload_n hx hb dX9_replace_49 rfl (lv_at hl 2 rfl) ?_
            refine lv_aload_n hx hb dX9_replace_50 rfl (lv_at hl 4 rfl) ?_
            refine va_get (D := G) (ci := 6) (v := .int (giC S x3 1)) (C := RX9) (T := TX9) (N := 2) hx hb hts iX9 hown hK hP x3 (at_6 (k_x3.e hZ)) rfl 1 (by decide) (hw (.fieldLink RX9 15 "MotionFloor$Text" "size" "I") (List.mem_of_getElem? (i := 0) rfl)) (fun _ h9 => h9) rfl dX9_replace_51 ?_
            refine lv_iadd hx hb dX9_replace_54 ?_
            refine lv_aload_n hx hb dX9_replace_55 rfl (lv_at hl 1 rfl) ?_
            refine va_get (D := G) (ci := 6) (v := .int (giC S x0 1)) (C := RX9) (T := TX9) (N := 2) hx hb hts iX9 hown hK hP x0 (at_6 (k_x0.e hZ)) rfl 1 (by decide) (hw (.fieldLink RX9 15 "MotionFloor$Text" "size" "I") (List.mem_of_getElem? (i := 0) rfl)) (fun _ h9 => h9) rfl dX9_replace_56 ?_
            refine lv_iload_n hx hb dX9_replace_59 rfl (lv_at hl 3 rfl) ?_
            refine lv_isub hx hb dX9_replace_60 ?_
            obtain ⟨hy9, hp⟩ := hp
            refine cTop5 (r := (grC S x0 0)) hy9.1 ?_
            obtain ⟨hy10, hp⟩ := hp
            refine cTop3 (r := (grC S x0 0)) hy10.1 ?_
            obtain ⟨hy11, hp⟩ := hp
            refine va_copyi hx hb (by rw [hml]; exact hl.1.symm) hown (hw (.methodLink RX9 28 arraycopyName) (List.mem_of_getElem? (i := 6) rfl)) (hw (.native arraycopyName) (List.mem_of_getElem? (i := 7) rfl)) (hw (.static arraycopyName) (List.mem_of_getElem? (i := 8) rfl)) (hw (.initialized "java/lang/System") (List.mem_of_getElem? (i := 9) rfl)) hK hP hD hS ((grC S x0 0).getD 0) ((grC S x0 0).getD 0) 0 0 (at_20 hy9.2) (at_20 hy10.2) rfl rfl rfl hy11.1.1 hy11.1.2.1 hy11.1.2.2 hy11.2.1 hy11.2.2 (fun i hi => rfl) (Nat.le_of_ble_eq_true rfl) (Nat.le_of_ble_eq_true rfl) dX9_replace_61 (fun H locs hP hD hS => ?_)
            rw [sf_20 hy10.2] at hP hD
            have hZ := hZ.tr (eK.sf S ((grC S x0 0).getD 0) (va_cpy (giC S ((grC S x0 0).getD 0)) (giC S ((grC S x0 0).getD 0)) x2.toNatClampNeg (x1 + (giC S x3 1)).toNatClampNeg ((giC S x0 1) - x2).toNatClampNeg))
            refine lv_aload_n hx hb dX9_replace_64 rfl (lv_at hl 4 rfl) ?_
            refine va_get (D := G) (ci := 6) (v := va_re ad (grC (sfC S ((grC S x0 0).getD 0) (va_cpy (giC S ((grC S x0 0).getD 0)) (giC S ((grC S x0 0).getD 0)) x2.toNatClampNeg (x1 + (giC S x3 1)).toNatClampNeg ((giC S x0 1) - x2).toNatClampNeg)) x3 0)) (C := RX9) (T := TX9) (N := 2) hx hb hts iX9 hown hK hP x3 (at_6 (k_x3.e hZ)) rfl 0 (by decide) (hw (.fieldLink RX9 9 "MotionFloor$Text" "words" "[I") (List.mem_of_getElem? (i := 5) rfl)) (fun _ h9 => h9) rfl dX9_replace_65 ?_
            refine lv_iconst (v := 0) hx hb dX9_replace_68 (by decide) ?_
            refine lv_aload_n hx hb dX9_replace_69 rfl (lv_at hl 1 rfl) ?_
            refine va_get (D := G) (ci := 6) (v := va_re ad (grC (sfC S ((grC S x0 0).getD 0) (va_cpy (giC S ((grC S x0 0).getD 0)) (giC S ((grC S x0 0).getD 0)) x2.toNatClampNeg (x1 + (giC S x3 1)).toNatClampNeg ((giC S x0 1) - x2).toNatClampNeg)) x0 0)) (C := RX9) (T := TX9) (N := 2) hx hb hts iX9 hown hK hP x0 (at_6 (k_x0.e hZ)) rfl 0 (by decide) (hw (.fieldLink RX9 9 "MotionFloor$Text" "words" "[I") (List.mem_of_getElem? (i := 5) rfl)) (fun _ h9 => h9) rfl dX9_replace_70 ?_
            refine lv_iload_n hx hb dX9_replace_73 rfl (lv_at hl 2 rfl) ?_
            refine lv_aload_n hx hb dX9_replace_74 rfl (lv_at hl 4 rfl) ?_
            refine va_get (D := G) (ci := 6) (v := .int (giC (sfC S ((grC S x0 0).getD 0) (va_cpy (giC S ((grC S x0 0).getD 0)) (giC S ((grC S x0 0).getD 0)) x2.toNatClampNeg (x1 + (giC S x3 1)).toNatClampNeg ((giC S x0 1) - x2).toNatClampNeg)) x3 1)) (C := RX9) (T := TX9) (N := 2) hx hb hts iX9 hown hK hP x3 (at_6 (k_x3.e hZ)) rfl 1 (by decide) (hw (.fieldLink RX9 15 "MotionFloor$Text" "size" "I") (List.mem_of_getElem? (i := 0) rfl)) (fun _ h9 => h9) rfl dX9_replace_75 ?_
            obtain ⟨hy12, hp⟩ := hp
            refine cTop5 (r := (grC (sfC S ((grC S x0 0).getD 0) (va_cpy (giC S ((grC S x0 0).getD 0)) (giC S ((grC S x0 0).getD 0)) x2.toNatClampNeg (x1 + (giC S x3 1)).toNatClampNeg ((giC S x0 1) - x2).toNatClampNeg)) x3 0)) hy12.1 ?_
            obtain ⟨hy13, hp⟩ := hp
            refine cTop3 (r := (grC (sfC S ((grC S x0 0).getD 0) (va_cpy (giC S ((grC S x0 0).getD 0)) (giC S ((grC S x0 0).getD 0)) x2.toNatClampNeg (x1 + (giC S x3 1)).toNatClampNeg ((giC S x0 1) - x2).toNatClampNeg)) x0 0)) hy13.1 ?_
            obtain ⟨hy14, hp⟩ := hp
            refine va_copyi hx hb (by rw [hml]; exact hl.1.symm) hown (hw (.methodLink RX9 28 arraycopyName) (List.mem_of_getElem? (i := 6) rfl)) (hw (.native arraycopyName) (List.mem_of_getElem? (i := 7) rfl)) (hw (.static arraycopyName) (List.mem_of_getElem? (i := 8) rfl)) (hw (.initialized "java/lang/System") (List.mem_of_getElem? (i := 9) rfl)) hK hP hD hS ((grC (sfC S ((grC S x0 0).getD 0) (va_cpy (giC S ((grC S x0 0).getD 0)) (giC S ((grC S x0 0).getD 0)) x2.toNatClampNeg (x1 + (giC S x3 1)).toNatClampNeg ((giC S x0 1) - x2).toNatClampNeg)) x3 0).getD 0) ((grC (sfC S ((grC S x0 0).getD 0) (va_cpy (giC S ((grC S x0 0).getD 0)) (giC S ((grC S x0 0).getD 0)) x2.toNatClampNeg (x1 + (giC S x3 1)).toNatClampNeg ((giC S x0 1) - x2).toNatClampNeg)) x0 0).getD 0) 0 0 (at_20 hy12.2) (at_20 hy13.2) rfl rfl rfl hy14.1.1 hy14.1.2.1 hy14.1.2.2 hy14.2.1 hy14.2.2 (fun i hi => rfl) (Nat.le_of_ble_eq_true rfl) (Nat.le_of_ble_eq_true rfl) dX9_replace_78 (fun H locs hP hD hS => ?_)
            rw [sf_20 hy13.2] at hP hD
            have hZ := hZ.tr (eK.sf (sfC S ((grC S x0 0).getD 0) (va_cpy (giC S ((grC S x0 0).getD 0)) (giC S ((grC S x0 0).getD 0)) x2.toNatClampNeg (x1 + (giC S x3 1)).toNatClampNeg ((giC S x0 1) - x2).toNatClampNeg)) ((grC (sfC S ((grC S x0 0).getD 0) (va_cpy (giC S ((grC S x0 0).getD 0)) (giC S ((grC S x0 0).getD 0)) x2.toNatClampNeg (x1 + (giC S x3 1)).toNatClampNeg ((giC S x0 1) - x2).toNatClampNeg)) x0 0).getD 0) (va_cpy (giC (sfC S ((grC S x0 0).getD 0) (va_cpy (giC S ((grC S x0 0).getD 0)) (giC S ((grC S x0 0).getD 0)) x2.toNatClampNeg (x1 + (giC S x3 1)).toNatClampNeg ((giC S x0 1) - x2).toNatClampNeg)) ((grC (sfC S ((grC S x0 0).getD 0) (va_cpy (giC S ((grC S x0 0).getD 0)) (giC S ((grC S x0 0).getD 0)) x2.toNatClampNeg (x1 + (giC S x3 1)).toNatClampNeg ((giC S x0 1) - x2).toNatClampNeg)) x3 0).getD 0)) (giC (sfC S ((grC S x0 0).getD 0) (va_cpy (giC S ((grC S x0 0).getD 0)) (giC S ((grC S x0 0).getD 0)) x2.toNatClampNeg (x1 + (giC S x3 1)).toNatClampNeg ((giC S x0 1) - x2).toNatClampNeg)) ((grC (sfC S ((grC S x0 0).getD 0) (va_cpy (giC S ((grC S x0 0).getD 0)) (giC S ((grC S x0 0).getD 0)) x2.toNatClampNeg (x1 + (giC S x3 1)).toNatClampNeg ((giC S x0 1) - x2).toNatClampNeg)) x0 0).getD 0)) (0 : Int32).toNatClampNeg x1.toNatClampNeg (giC (sfC S ((grC S x0 0).getD 0) (va_cpy (giC S ((grC S x0 0).getD 0)) (giC S ((grC S x0 0).getD 0)) x2.toNatClampNeg (x1 + (giC S x3 1)).toNatClampNeg ((giC S x0 1) - x2).toNatClampNeg)) x3 1).toNatClampNeg))
            exact B_Y9_replace_81a (sfC (sfC S ((grC S x0 0).getD 0) (va_cpy (giC S ((grC S x0 0).getD 0)) (giC S ((grC S x0 0).getD 0)) x2.toNatClampNeg (x1 + (giC S x3 1)).toNatClampNeg ((giC S x0 1) - x2).toNatClampNeg)) ((grC (sfC S ((grC S x0 0).getD 0) (va_cpy (giC S ((grC S x0 0).getD 0)) (giC S ((grC S x0 0).getD 0)) x2.toNatClampNeg (x1 + (giC S x3 1)).toNatClampNeg ((giC S x0 1) - x2).toNatClampNeg)) x0 0).getD 0) (va_cpy (giC (sfC S ((grC S x0 0).getD 0) (va_cpy (giC S ((grC S x0 0).getD 0)) (giC S ((grC S x0 0).getD 0)) x2.toNatClampNeg (x1 + (giC S x3 1)).toNatClampNeg ((giC S x0 1) - x2).toNatClampNeg)) ((grC (sfC S ((grC S x0 0).getD 0) (va_cpy (giC S ((grC S x0 0).getD 0)) (giC S ((grC S x0 0).getD 0)) x2.toNatClampNeg (x1 + (giC S x3 1)).toNatClampNeg ((giC S x0 1) - x2).toNatClampNeg)) x3 0).getD 0)) (giC (sfC S ((grC S x0 0).getD 0) (va_cpy (giC S ((grC S x0 0).getD 0)) (giC S ((grC S x0 0).getD 0)) x2.toNatClampNeg (x1 + (giC S x3 1)).toNatClampNeg ((giC S x0 1) - x2).toNatClampNeg)) ((grC (sfC S ((grC S x0 0).getD 0) (va_cpy (giC S ((grC S x0 0).getD 0)) (giC S ((grC S x0 0).getD 0)) x2.toNatClampNeg (x1 + (giC S x3 1)).toNatClampNeg ((giC S x0 1) - x2).toNatClampNeg)) x0 0).getD 0)) (0 : Int32).toNatClampNeg x1.toNatClampNeg (giC (sfC S ((grC S x0 0).getD 0) (va_cpy (giC S ((grC S x0 0).getD 0)) (giC S ((grC S x0 0).getD 0)) x2.toNatClampNeg (x1 + (giC S x3 1)).toNatClampNeg ((giC S x0 1) - x2).toNatClampNeg)) x3 1).toNatClampNeg)) x1 x2 (f_Y9_sizeWith S x0 x1 x2 (giC S x3 1)) _ _ _ hE hp hZ hP hD hS (lv_sub hl [1, 4, 2, 3, 0] rfl)
          · rw [if_neg c8] at hE hp
            exact B_Y9_replace_39 S x1 x2 (f_Y9_sizeWith S x0 x1 x2 (giC S x3 1)) _ _ _ hE hp hZ hP hD hS (lv_sub hl [1, 4, 2, 3, 0] rfl)
  exact B_M S0 a1 a2 _ _ _ hX hp (eK.rf S0) hP hD hS hl
