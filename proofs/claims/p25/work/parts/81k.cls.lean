theorem gdX8_againstOnPaper_60 : ckS (List.drop 60 cX8_againstOnPaper.data.toList) 60 [(60, .ireturn, 1), (61, .aload_n 0, 1), (62, .iload_n 2, 1), (63, .iload_n 3, 1), (64, .iload 4, 2), (66, .iload 5, 2), (68, .invokestatic 66, 3)] = true := by decide +kernel
theorem dX8_againstOnPaper_60 : decode cX8_againstOnPaper 60 = .ok (.ireturn, 1) := ckS_g gdX8_againstOnPaper_60 0 rfl
theorem dX8_againstOnPaper_61 : decode cX8_againstOnPaper 61 = .ok (.aload_n 0, 1) := ckS_g gdX8_againstOnPaper_60 1 rfl
theorem dX8_againstOnPaper_62 : decode cX8_againstOnPaper 62 = .ok (.iload_n 2, 1) := ckS_g gdX8_againstOnPaper_60 2 rfl
theorem dX8_againstOnPaper_63 : decode cX8_againstOnPaper 63 = .ok (.iload_n 3, 1) := ckS_g gdX8_againstOnPaper_60 3 rfl
theorem dX8_againstOnPaper_64 : decode cX8_againstOnPaper 64 = .ok (.iload 4, 2) := ckS_g gdX8_againstOnPaper_60 4 rfl
theorem dX8_againstOnPaper_66 : decode cX8_againstOnPaper 66 = .ok (.iload 5, 2) := ckS_g gdX8_againstOnPaper_60 5 rfl
theorem dX8_againstOnPaper_68 : decode cX8_againstOnPaper 68 = .ok (.invokestatic 66, 3) := ckS_g gdX8_againstOnPaper_60 6 rfl
theorem gdX8_againstWord_0 : ckS (List.drop 0 cX8_againstWord.data.toList) 0 [(0, .aload_n 0, 1), (1, .getfield 141, 3), (4, .invokevirtual 145, 3), (7, .astore 5, 2), (9, .aload 5, 2), (11, .ifnull 20, 3), (14, .aload 5, 2), (16, .getfield 128, 3), (19, .iconst 5, 1), (20, .if_icmp .gt 11, 3), (23, .aload 5, 2), (25, .getfield 153, 3), (28, .ifCond .eq 6, 3), (31, .bipush 11, 2), (33, .ireturn, 1), (34, .iload_n 1, 1), (35, .ifCond .eq 32, 3), (38, .iload_n 1, 1), (39, .invokestatic 156, 3), (67, .bipush 9, 2), (69, .ireturn, 1)] = true := by decide +kernel
theorem dX8_againstWord_0 : decode cX8_againstWord 0 = .ok (.aload_n 0, 1) := ckS_g gdX8_againstWord_0 0 rfl
theorem dX8_againstWord_1 : decode cX8_againstWord 1 = .ok (.getfield 141, 3) := ckS_g gdX8_againstWord_0 1 rfl
theorem dX8_againstWord_4 : decode cX8_againstWord 4 = .ok (.invokevirtual 145, 3) := ckS_g gdX8_againstWord_0 2 rfl
theorem dX8_againstWord_7 : decode cX8_againstWord 7 = .ok (.astore 5, 2) := ckS_g gdX8_againstWord_0 3 rfl
theorem dX8_againstWord_9 : decode cX8_againstWord 9 = .ok (.aload 5, 2) := ckS_g gdX8_againstWord_0 4 rfl
theorem dX8_againstWord_11 : decode cX8_againstWord 11 = .ok (.ifnull 20, 3) := ckS_g gdX8_againstWord_0 5 rfl
theorem dX8_againstWord_14 : decode cX8_againstWord 14 = .ok (.aload 5, 2) := ckS_g gdX8_againstWord_0 6 rfl
theorem dX8_againstWord_16 : decode cX8_againstWord 16 = .ok (.getfield 128, 3) := ckS_g gdX8_againstWord_0 7 rfl
theorem dX8_againstWord_19 : decode cX8_againstWord 19 = .ok (.iconst 5, 1) := ckS_g gdX8_againstWord_0 8 rfl
theorem dX8_againstWord_20 : decode cX8_againstWord 20 = .ok (.if_icmp .gt 11, 3) := ckS_g gdX8_againstWord_0 9 rfl
theorem dX8_againstWord_23 : decode cX8_againstWord 23 = .ok (.aload 5, 2) := ckS_g gdX8_againstWord_0 10 rfl
theorem dX8_againstWord_25 : decode cX8_againstWord 25 = .ok (.getfield 153, 3) := ckS_g gdX8_againstWord_0 11 rfl
theorem dX8_againstWord_28 : decode cX8_againstWord 28 = .ok (.ifCond .eq 6, 3) := ckS_g gdX8_againstWord_0 12 rfl
theorem dX8_againstWord_31 : decode cX8_againstWord 31 = .ok (.bipush 11, 2) := ckS_g gdX8_againstWord_0 13 rfl
theorem dX8_againstWord_33 : decode cX8_againstWord 33 = .ok (.ireturn, 1) := ckS_g gdX8_againstWord_0 14 rfl
theorem dX8_againstWord_34 : decode cX8_againstWord 34 = .ok (.iload_n 1, 1) := ckS_g gdX8_againstWord_0 15 rfl
theorem dX8_againstWord_35 : decode cX8_againstWord 35 = .ok (.ifCond .eq 32, 3) := ckS_g gdX8_againstWord_0 16 rfl
theorem dX8_againstWord_38 : decode cX8_againstWord 38 = .ok (.iload_n 1, 1) := ckS_g gdX8_againstWord_0 17 rfl
theorem dX8_againstWord_39 : decode cX8_againstWord 39 = .ok (.invokestatic 156, 3) := ckS_g gdX8_againstWord_0 18 rfl
theorem dX8_againstWord_67 : decode cX8_againstWord 67 = .ok (.bipush 9, 2) := ckS_g gdX8_againstWord_0 19 rfl
theorem dX8_againstWord_69 : decode cX8_againstWord 69 = .ok (.ireturn, 1) := ckS_g gdX8_againstWord_0 20 rfl
theorem gdX8_isWordOrZero_0 : ckS (List.drop 0 cX8_isWordOrZero.data.toList) 0 [(0, .iload_n 0, 1), (1, .ifCond .lt 14, 3), (4, .iload_n 0, 1), (5, .sipush 30000, 3), (8, .if_icmp .gt 7, 3), (11, .iconst 1, 1), (12, .goto 4, 3), (15, .iconst 0, 1), (16, .ireturn, 1)] = true := by decide +kernel
theorem dX8_isWordOrZero_0 : decode cX8_isWordOrZero 0 = .ok (.iload_n 0, 1) := ckS_g gdX8_isWordOrZero_0 0 rfl
theorem dX8_isWordOrZero_1 : decode cX8_isWordOrZero 1 = .ok (.ifCond .lt 14, 3) := ckS_g gdX8_isWordOrZero_0 1 rfl
theorem dX8_isWordOrZero_4 : decode cX8_isWordOrZero 4 = .ok (.iload_n 0, 1) := ckS_g gdX8_isWordOrZero_0 2 rfl
theorem dX8_isWordOrZero_5 : decode cX8_isWordOrZero 5 = .ok (.sipush 30000, 3) := ckS_g gdX8_isWordOrZero_0 3 rfl
theorem dX8_isWordOrZero_8 : decode cX8_isWordOrZero 8 = .ok (.if_icmp .gt 7, 3) := ckS_g gdX8_isWordOrZero_0 4 rfl
theorem dX8_isWordOrZero_11 : decode cX8_isWordOrZero 11 = .ok (.iconst 1, 1) := ckS_g gdX8_isWordOrZero_0 5 rfl
theorem dX8_isWordOrZero_12 : decode cX8_isWordOrZero 12 = .ok (.goto 4, 3) := ckS_g gdX8_isWordOrZero_0 6 rfl
theorem dX8_isWordOrZero_15 : decode cX8_isWordOrZero 15 = .ok (.iconst 0, 1) := ckS_g gdX8_isWordOrZero_0 7 rfl
theorem dX8_isWordOrZero_16 : decode cX8_isWordOrZero 16 = .ok (.ireturn, 1) := ckS_g gdX8_isWordOrZero_0 8 rfl
set_option maxRecDepth 100000 in
theorem zc440 : wZ (.code yX8_isWordOrZero cX8_isWordOrZero 1 (some .boolean)) := ⟨wT2 (List.mem_of_getElem? (i := 110) rfl), Or.inl rfl⟩
def b_Y8_isWordOrZero_16 (S : Cst)  (x0 : Int32) (y0 : Int32) : Int32 := y0
def q_Y8_isWordOrZero_16 (S : Cst)  (x0 : Int32) (y0 : Int32) : Prop := (narrow .boolean (.int y0) = .int y0) ∧ True
def b_Y8_isWordOrZero_15 (S : Cst)  (x0 : Int32) : Int32 := (b_Y8_isWordOrZero_16 S x0 0)
def q_Y8_isWordOrZero_15 (S : Cst)  (x0 : Int32) : Prop := (q_Y8_isWordOrZero_16 S x0 0)
def f_Y8_isWordOrZero (S : Cst) (x0 : Int32) : Int32 := if x0 < 0 then (b_Y8_isWordOrZero_15 S x0) else if 30000 < x0 then (b_Y8_isWordOrZero_15 S x0) else (b_Y8_isWordOrZero_16 S x0 1)
def p_Y8_isWordOrZero (S : Cst) (x0 : Int32) : Prop := (if x0 < 0 then (q_Y8_isWordOrZero_15 S x0) else (if 30000 < x0 then (q_Y8_isWordOrZero_15 S x0) else (q_Y8_isWordOrZero_16 S x0 1)))
def e_Y8_isWordOrZero : List Cond := []
def v_Y8_isWordOrZero : List Cond := .code yX8_isWordOrZero cX8_isWordOrZero 1 (some .boolean) :: (e_Y8_isWordOrZero ++ [])
theorem te_Y8_isWordOrZero : GoodIn lw_tbl e_Y8_isWordOrZero := wG0
theorem t_Y8_isWordOrZero : GoodIn lw_tbl v_Y8_isWordOrZero := wGc zc440 (wGa te_Y8_isWordOrZero (wG0))
set_option maxHeartbeats 4000000 in
set_option maxRecDepth 100000 in
theorem c_Y8_isWordOrZero (l : Launch) (G : va_G) (K : Nat → ClassId) (ad : Nat → Nat) (S : Cst)  (a0 : Int32) (sz : Nat) : Met l yX8_isWordOrZero v_Y8_isWordOrZero ({ frames := 0, cells := 0, slots := 0, locals := 0 }) (va_Pc [.int a0] (cSt G K ad sz S (p_Y8_isWordOrZero S a0))) (va_Qi (fun (r : Int32) (u : Cst) => (r, u) = (f_Y8_isWordOrZero S a0, S)) (cBt G K ad (va_A (wsC K ad S) sz)) (va_A (wsC K ad S) sz)) 0 0 (va_A (wsC K ad S) sz) := by
  refine Met.ofW (cc := cX8_isWordOrZero) (maxL := 1) (ret := (some .boolean)) (by decide) rfl ?_
  intro p e s m args below meth c s₁ B hml hv
  obtain ⟨rfl, ⟨hsz, hP, hK, hD0, hTE⟩, hp⟩ := hv
  have hx := B.exec
  have hb := B.bytes
  have hr := B.returns
  have hts := atoms_spec (ws := v_Y8_isWordOrZero) B.pre
  have t_ := t_Y8_isWordOrZero
  have mw : ∀ w ∈ e_Y8_isWordOrZero, w ∈ v_Y8_isWordOrZero := fun w h => List.mem_cons_of_mem _ (List.mem_append_left _ h)
  have hw := fun w (h : w ∈ e_Y8_isWordOrZero) => hts w (mw w h)
  have hown : s.vm.findClass RX8 = some m.cls := findClass_of_methodNamed B.named
  have hlocks := B.notSynchronized
  subst hsz
  have hD := hD0.self (sz := s.heap.size)
  generalize hAe : va_A (wsC K ad S) s.heap.size = A at hD ⊢
  have hA : ∀ q : Nat, s.heap.size ≤ q → A q := fun q h => by rw [← hAe]; exact Or.inr h
  have hS : va_S A s.heap s.heap [] := va_S.rf
  have hl : lv_has (lg_sl ([.int a0]) ++ List.replicate (1 - (lg_sl ([.int a0])).length) Slot.unset).toArray 1 [(0, .int a0)] := by
    exact lv_entry ([.int a0]) (n := 1) (Nat.le_of_ble_eq_true rfl)
  rw [lg_entry_eq]
  generalize (lg_sl ([.int a0]) ++ List.replicate (1 - (lg_sl ([.int a0])).length) Slot.unset).toArray = ls_ at hl ⊢
  refine wGen (fun Q hQ => ?_)
  obtain ⟨X, hX⟩ : ∃ X, f_Y8_isWordOrZero S a0 = X := ⟨_, rfl⟩
  have B_Y8_isWordOrZero_16 : ∀ (x0 : Int32) (y0 : Int32) (H : Heap) (locs : List Loc) (ls_ : Array Slot), b_Y8_isWordOrZero_16 S x0 y0 = X → q_Y8_isWordOrZero_16 S x0 y0 → va_P G vwCl (wsC K ad S) H → va_D A (wsC K ad S) → va_S A s.heap H locs → lv_has ls_ 1 [(0, .int x0)] → W p l e ({ frames := 0, cells := 0, slots := 0, locals := 0 } : Room) s m #[Value.int a0] below meth c H locs 0 0 Q (F0 m 16 ls_ [.int y0]) := by
    intro x0 y0 H locs ls_ hE hp hP hD hS hl
    unfold b_Y8_isWordOrZero_16 at hE
    unfold q_Y8_isWordOrZero_16 at hp
    obtain ⟨hy2, hp⟩ := hp
    subst hQ
    exact W.zret (v := y0) (ty := .boolean) hx hb hr hy2 (fun t ht hW => ⟨⟨y0, S, rfl, (pair_i (hE.trans hX.symm)), by rw [ht]; exact hP, hD⟩, hS.F ht⟩) hS.2.2 dX8_isWordOrZero_16
  have B_Y8_isWordOrZero_15 : ∀ (x0 : Int32) (H : Heap) (locs : List Loc) (ls_ : Array Slot), b_Y8_isWordOrZero_15 S x0 = X → q_Y8_isWordOrZero_15 S x0 → va_P G vwCl (wsC K ad S) H → va_D A (wsC K ad S) → va_S A s.heap H locs → lv_has ls_ 1 [(0, .int x0)] → W p l e ({ frames := 0, cells := 0, slots := 0, locals := 0 } : Room) s m #[Value.int a0] below meth c H locs 0 0 Q (F0 m 15 ls_ []) := by
    intro x0 H locs ls_ hE hp hP hD hS hl
    unfold b_Y8_isWordOrZero_15 at hE
    unfold q_Y8_isWordOrZero_15 at hp
    refine lv_iconst (v := 0) hx hb dX8_isWordOrZero_15 (by decide) ?_
    exact B_Y8_isWordOrZero_16 x0 0 _ _ _ hE hp hP hD hS (lv_sub hl [0] rfl)
  have B_M : ∀ (x0 : Int32) (H : Heap) (locs : List Loc) (ls_ : Array Slot), f_Y8_isWordOrZero S x0 = X → p_Y8_isWordOrZero S x0 → va_P G vwCl (wsC K ad S) H → va_D A (wsC K ad S) → va_S A s.heap H locs → lv_has ls_ 1 [(0, .int x0)] → W p l e ({ frames := 0, cells := 0, slots := 0, locals := 0 } : Room) s m #[Value.int a0] below meth c H locs 0 0 Q (F0 m 0 ls_ []) := by
    intro x0 H locs ls_ hE hp hP hD hS hl
    unfold f_Y8_isWordOrZero at hE
    unfold p_Y8_isWordOrZero at hp
    refine lv_iload_n hx hb dX8_isWordOrZero_0 rfl (lv_at hl 0 rfl) ?_
    refine lv_if_lt (tgt := 15) hx hb dX8_isWordOrZero_1 (by decide) (fun c1 => ?_) (fun c1 => ?_)
    · rw [if_pos c1] at hE hp
      exact B_Y8_isWordOrZero_15 x0 _ _ _ hE hp hP hD hS (lv_sub hl [0] rfl)
    · rw [if_neg c1] at hE hp
      refine lv_iload_n hx hb dX8_isWordOrZero_4 rfl (lv_at hl 0 rfl) ?_
      refine lv_sipush (v := 30000) hx hb dX8_isWordOrZero_5 (by decide) ?_
      refine lv_icmp_gt (tgt := 15) hx hb dX8_isWordOrZero_8 (by decide) (fun c3 => ?_) (fun c3 => ?_)
      · rw [if_pos c3] at hE hp
        exact B_Y8_isWordOrZero_15 x0 _ _ _ hE hp hP hD hS (lv_sub hl [0] rfl)
      · rw [if_neg c3] at hE hp
        refine lv_iconst (v := 1) hx hb dX8_isWordOrZero_11 (by decide) ?_
        refine lv_goto (tgt := 16) hx hb dX8_isWordOrZero_12 (by decide) ?_
        exact B_Y8_isWordOrZero_16 x0 1 _ _ _ hE hp hP hD hS (lv_sub hl [0] rfl)
  exact B_M a0 _ _ _ hX hp hP hD hS hl
theorem gdX8_againstWord_42 : ckS (List.drop 42 cX8_againstWord.data.toList) 42 [(42, .ifCond .eq 25, 3), (45, .iload_n 2, 1), (46, .invokestatic 156, 3), (49, .ifCond .eq 18, 3), (52, .iload_n 3, 1), (53, .invokestatic 156, 3), (56, .ifCond .eq 11, 3), (59, .iload 4, 2), (61, .invokestatic 156, 3), (64, .ifCond .ne 6, 3), (70, .iconst 1, 1), (71, .iload_n 2, 1), (72, .ifCond .ne 7, 3), (75, .iconst 0, 1), (76, .goto 4, 3), (79, .iconst 1, 1), (80, .iadd, 1), (81, .iload_n 3, 1), (82, .ifCond .ne 7, 3), (85, .iconst 0, 1), (86, .goto 4, 3), (89, .iconst 1, 1), (90, .iadd, 1), (91, .iload 4, 2), (93, .ifCond .ne 7, 3), (96, .iconst 0, 1), (97, .goto 4, 3), (100, .iconst 1, 1), (101, .iadd, 1), (102, .istore 6, 2), (104, .aload 5, 2), (106, .getfield 159, 3), (109, .getfield 163, 3), (112, .iload 6, 2), (114, .iadd, 1), (115, .sipush 400, 3), (118, .if_icmp .le 8, 3), (121, .bipush 10, 2), (123, .goto 4, 3), (126, .iconst 0, 1)] = true := by decide +kernel
theorem dX8_againstWord_42 : decode cX8_againstWord 42 = .ok (.ifCond .eq 25, 3) := ckS_g gdX8_againstWord_42 0 rfl
theorem dX8_againstWord_45 : decode cX8_againstWord 45 = .ok (.iload_n 2, 1) := ckS_g gdX8_againstWord_42 1 rfl
theorem dX8_againstWord_46 : decode cX8_againstWord 46 = .ok (.invokestatic 156, 3) := ckS_g gdX8_againstWord_42 2 rfl
theorem dX8_againstWord_49 : decode cX8_againstWord 49 = .ok (.ifCond .eq 18, 3) := ckS_g gdX8_againstWord_42 3 rfl
theorem dX8_againstWord_52 : decode cX8_againstWord 52 = .ok (.iload_n 3, 1) := ckS_g gdX8_againstWord_42 4 rfl
theorem dX8_againstWord_53 : decode cX8_againstWord 53 = .ok (.invokestatic 156, 3) := ckS_g gdX8_againstWord_42 5 rfl
theorem dX8_againstWord_56 : decode cX8_againstWord 56 = .ok (.ifCond .eq 11, 3) := ckS_g gdX8_againstWord_42 6 rfl
theorem dX8_againstWord_59 : decode cX8_againstWord 59 = .ok (.iload 4, 2) := ckS_g gdX8_againstWord_42 7 rfl
theorem dX8_againstWord_61 : decode cX8_againstWord 61 = .ok (.invokestatic 156, 3) := ckS_g gdX8_againstWord_42 8 rfl
theorem dX8_againstWord_64 : decode cX8_againstWord 64 = .ok (.ifCond .ne 6, 3) := ckS_g gdX8_againstWord_42 9 rfl
theorem dX8_againstWord_70 : decode cX8_againstWord 70 = .ok (.iconst 1, 1) := ckS_g gdX8_againstWord_42 10 rfl
theorem dX8_againstWord_71 : decode cX8_againstWord 71 = .ok (.iload_n 2, 1) := ckS_g gdX8_againstWord_42 11 rfl
theorem dX8_againstWord_72 : decode cX8_againstWord 72 = .ok (.ifCond .ne 7, 3) := ckS_g gdX8_againstWord_42 12 rfl
theorem dX8_againstWord_75 : decode cX8_againstWord 75 = .ok (.iconst 0, 1) := ckS_g gdX8_againstWord_42 13 rfl
theorem dX8_againstWord_76 : decode cX8_againstWord 76 = .ok (.goto 4, 3) := ckS_g gdX8_againstWord_42 14 rfl
theorem dX8_againstWord_79 : decode cX8_againstWord 79 = .ok (.iconst 1, 1) := ckS_g gdX8_againstWord_42 15 rfl
theorem dX8_againstWord_80 : decode cX8_againstWord 80 = .ok (.iadd, 1) := ckS_g gdX8_againstWord_42 16 rfl
theorem dX8_againstWord_81 : decode cX8_againstWord 81 = .ok (.iload_n 3, 1) := ckS_g gdX8_againstWord_42 17 rfl
theorem dX8_againstWord_82 : decode cX8_againstWord 82 = .ok (.ifCond .ne 7, 3) := ckS_g gdX8_againstWord_42 18 rfl
theorem dX8_againstWord_85 : decode cX8_againstWord 85 = .ok (.iconst 0, 1) := ckS_g gdX8_againstWord_42 19 rfl
theorem dX8_againstWord_86 : decode cX8_againstWord 86 = .ok (.goto 4, 3) := ckS_g gdX8_againstWord_42 20 rfl
theorem dX8_againstWord_89 : decode cX8_againstWord 89 = .ok (.iconst 1, 1) := ckS_g gdX8_againstWord_42 21 rfl
theorem dX8_againstWord_90 : decode cX8_againstWord 90 = .ok (.iadd, 1) := ckS_g gdX8_againstWord_42 22 rfl
theorem dX8_againstWord_91 : decode cX8_againstWord 91 = .ok (.iload 4, 2) := ckS_g gdX8_againstWord_42 23 rfl
theorem dX8_againstWord_93 : decode cX8_againstWord 93 = .ok (.ifCond .ne 7, 3) := ckS_g gdX8_againstWord_42 24 rfl
theorem dX8_againstWord_96 : decode cX8_againstWord 96 = .ok (.iconst 0, 1) := ckS_g gdX8_againstWord_42 25 rfl
theorem dX8_againstWord_97 : decode cX8_againstWord 97 = .ok (.goto 4, 3) := ckS_g gdX8_againstWord_42 26 rfl
theorem dX8_againstWord_100 : decode cX8_againstWord 100 = .ok (.iconst 1, 1) := ckS_g gdX8_againstWord_42 27 rfl
theorem dX8_againstWord_101 : decode cX8_againstWord 101 = .ok (.iadd, 1) := ckS_g gdX8_againstWord_42 28 rfl
theorem dX8_againstWord_102 : decode cX8_againstWord 102 = .ok (.istore 6, 2) := ckS_g gdX8_againstWord_42 29 rfl
theorem dX8_againstWord_104 : decode cX8_againstWord 104 = .ok (.aload 5, 2) := ckS_g gdX8_againstWord_42 30 rfl
theorem dX8_againstWord_106 : decode cX8_againstWord 106 = .ok (.getfield 159, 3) := ckS_g gdX8_againstWord_42 31 rfl
theorem dX8_againstWord_109 : decode cX8_againstWord 109 = .ok (.getfield 163, 3) := ckS_g gdX8_againstWord_42 32 rfl
theorem dX8_againstWord_112 : decode cX8_againstWord 112 = .ok (.iload 6, 2) := ckS_g gdX8_againstWord_42 33 rfl
theorem dX8_againstWord_114 : decode cX8_againstWord 114 = .ok (.iadd, 1) := ckS_g gdX8_againstWord_42 34 rfl
theorem dX8_againstWord_115 : decode cX8_againstWord 115 = .ok (.sipush 400, 3) := ckS_g gdX8_againstWord_42 35 rfl
theorem dX8_againstWord_118 : decode cX8_againstWord 118 = .ok (.if_icmp .le 8, 3) := ckS_g gdX8_againstWord_42 36 rfl
theorem dX8_againstWord_121 : decode cX8_againstWord 121 = .ok (.bipush 10, 2) := ckS_g gdX8_againstWord_42 37 rfl
theorem dX8_againstWord_123 : decode cX8_againstWord 123 = .ok (.goto 4, 3) := ckS_g gdX8_againstWord_42 38 rfl
theorem dX8_againstWord_126 : decode cX8_againstWord 126 = .ok (.iconst 0, 1) := ckS_g gdX8_againstWord_42 39 rfl
theorem dX8_againstWord_127 : decode cX8_againstWord 127 = .ok (.ireturn, 1) := by decide +kernel
set_option maxRecDepth 100000 in
theorem zc441 : wZ (.static yX8_isWordOrZero) := ⟨wT2 (List.mem_of_getElem? (i := 109) (by decide +kernel)), Or.inl rfl⟩
set_option maxRecDepth 100000 in
theorem zc442 : wZ (.methodLink RX8 156 yX8_isWordOrZero) := ⟨wT2 (List.mem_of_getElem? (i := 108) (by decide +kernel)), Or.inl rfl⟩
set_option maxRecDepth 100000 in
theorem zc443 : wZ (.code yX8_againstWord cX8_againstWord 7 (some .int)) := ⟨wT2 (List.mem_of_getElem? (i := 107) rfl), Or.inl rfl⟩
def b_Y8_againstWord_31 (S : Cst) (x0 : Nat) (x1 : Int32) (x2 : Int32) (x3 : Int32) (x4 : Int32) (x5 : Option Nat) : Int32 := (11 : Int32)
def q_Y8_againstWord_31 (S : Cst) (x0 : Nat) (x1 : Int32) (x2 : Int32) (x3 : Int32) (x4 : Int32) (x5 : Option Nat) : Prop := True
def b_Y8_againstWord_67 (S : Cst) (x0 : Nat) (x1 : Int32) (x2 : Int32) (x3 : Int32) (x4 : Int32) (x5 : Option Nat) : Int32 := (9 : Int32)
def q_Y8_againstWord_67 (S : Cst) (x0 : Nat) (x1 : Int32) (x2 : Int32) (x3 : Int32) (x4 : Int32) (x5 : Option Nat) : Prop := True
def b_Y8_againstWord_127 (S : Cst) (x0 : Nat) (x1 : Int32) (x2 : Int32) (x3 : Int32) (x4 : Int32) (x5 : Option Nat) (x6 : Int32) (y0 : Int32) : Int32 := y0
def q_Y8_againstWord_127 (S : Cst) (x0 : Nat) (x1 : Int32) (x2 : Int32) (x3 : Int32) (x4 : Int32) (x5 : Option Nat) (x6 : Int32) (y0 : Int32) : Prop := True
def b_Y8_againstWord_101 (S : Cst) (x0 : Nat) (x1 : Int32) (x2 : Int32) (x3 : Int32) (x4 : Int32) (x5 : Option Nat) (y0 : Int32) (y1 : Int32) : Int32 := if ((giC S ((grC S (x5.getD 0) 12).getD 0) 1) + (y1 + y0)) ≤ 400 then (b_Y8_againstWord_127 S x0 x1 x2 x3 x4 x5 (y1 + y0) 0) else (b_Y8_againstWord_127 S x0 x1 x2 x3 x4 x5 (y1 + y0) 10)
def q_Y8_againstWord_101 (S : Cst) (x0 : Nat) (x1 : Int32) (x2 : Int32) (x3 : Int32) (x4 : Int32) (x5 : Option Nat) (y0 : Int32) (y1 : Int32) : Prop := (iR S x5 3) ∧ (iR S (grC S (x5.getD 0) 12) 6) ∧ (if ((giC S ((grC S (x5.getD 0) 12).getD 0) 1) + (y1 + y0)) ≤ 400 then (q_Y8_againstWord_127 S x0 x1 x2 x3 x4 x5 (y1 + y0) 0) else (q_Y8_againstWord_127 S x0 x1 x2 x3 x4 x5 (y1 + y0) 10))
def b_Y8_againstWord_90 (S : Cst) (x0 : Nat) (x1 : Int32) (x2 : Int32) (x3 : Int32) (x4 : Int32) (x5 : Option Nat) (y0 : Int32) (y1 : Int32) : Int32 := if x4 = 0 then (b_Y8_againstWord_101 S x0 x1 x2 x3 x4 x5 0 (y1 + y0)) else (b_Y8_againstWord_101 S x0 x1 x2 x3 x4 x5 1 (y1 + y0))
def q_Y8_againstWord_90 (S : Cst) (x0 : Nat) (x1 : Int32) (x2 : Int32) (x3 : Int32) (x4 : Int32) (x5 : Option Nat) (y0 : Int32) (y1 : Int32) : Prop := (if x4 = 0 then (q_Y8_againstWord_101 S x0 x1 x2 x3 x4 x5 0 (y1 + y0)) else (q_Y8_againstWord_101 S x0 x1 x2 x3 x4 x5 1 (y1 + y0)))
def b_Y8_againstWord_80 (S : Cst) (x0 : Nat) (x1 : Int32) (x2 : Int32) (x3 : Int32) (x4 : Int32) (x5 : Option Nat) (y0 : Int32) (y1 : Int32) : Int32 := if x3 = 0 then (b_Y8_againstWord_90 S x0 x1 x2 x3 x4 x5 0 (y1 + y0)) else (b_Y8_againstWord_90 S x0 x1 x2 x3 x4 x5 1 (y1 + y0))
def q_Y8_againstWord_80 (S : Cst) (x0 : Nat) (x1 : Int32) (x2 : Int32) (x3 : Int32) (x4 : Int32) (x5 : Option Nat) (y0 : Int32) (y1 : Int32) : Prop := (if x3 = 0 then (q_Y8_againstWord_90 S x0 x1 x2 x3 x4 x5 0 (y1 + y0)) else (q_Y8_againstWord_90 S x0 x1 x2 x3 x4 x5 1 (y1 + y0)))
def f_Y8_againstWord (S : Cst) (x0 : Nat) (x1 : Int32) (x2 : Int32) (x3 : Int32) (x4 : Int32) : Int32 := if (f_Y6_motion S ((grC S x0 2).getD 0)) = none then (b_Y8_againstWord_31 S x0 x1 x2 x3 x4 (f_Y6_motion S ((grC S x0 2).getD 0))) else if 5 < (giC S ((f_Y6_motion S ((grC S x0 2).getD 0)).getD 0) 2) then (b_Y8_againstWord_31 S x0 x1 x2 x3 x4 (f_Y6_motion S ((grC S x0 2).getD 0))) else if (giC S ((f_Y6_motion S ((grC S x0 2).getD 0)).getD 0) 10) = 0 then if x1 = 0 then (b_Y8_againstWord_67 S x0 x1 x2 x3 x4 (f_Y6_motion S ((grC S x0 2).getD 0))) else if (f_Y8_isWordOrZero S x1) = 0 then (b_Y8_againstWord_67 S x0 x1 x2 x3 x4 (f_Y6_motion S ((grC S x0 2).getD 0))) else if (f_Y8_isWordOrZero S x2) = 0 then (b_Y8_againstWord_67 S x0 x1 x2 x3 x4 (f_Y6_motion S ((grC S x0 2).getD 0))) else if (f_Y8_isWordOrZero S x3) = 0 then (b_Y8_againstWord_67 S x0 x1 x2 x3 x4 (f_Y6_motion S ((grC S x0 2).getD 0))) else if (f_Y8_isWordOrZero S x4) = 0 then (b_Y8_againstWord_67 S x0 x1 x2 x3 x4 (f_Y6_motion S ((grC S x0 2).getD 0))) else if x2 = 0 then (b_Y8_againstWord_80 S x0 x1 x2 x3 x4 (f_Y6_motion S ((grC S x0 2).getD 0)) 0 1) else (b_Y8_againstWord_80 S x0 x1 x2 x3 x4 (f_Y6_motion S ((grC S x0 2).getD 0)) 1 1) else (b_Y8_againstWord_31 S x0 x1 x2 x3 x4 (f_Y6_motion S ((grC S x0 2).getD 0)))
def p_Y8_againstWord (S : Cst) (x0 : Nat) (x1 : Int32) (x2 : Int32) (x3 : Int32) (x4 : Int32) : Prop := (iR S (grC S x0 2) 5) ∧ (p_Y6_motion S ((grC S x0 2).getD 0)) ∧ (if (f_Y6_motion S ((grC S x0 2).getD 0)) = none then (q_Y8_againstWord_31 S x0 x1 x2 x3 x4 (f_Y6_motion S ((grC S x0 2).getD 0))) else (iR S (f_Y6_motion S ((grC S x0 2).getD 0)) 3) ∧ (if 5 < (giC S ((f_Y6_motion S ((grC S x0 2).getD 0)).getD 0) 2) then (q_Y8_againstWord_31 S x0 x1 x2 x3 x4 (f_Y6_motion S ((grC S x0 2).getD 0))) else (iR S (f_Y6_motion S ((grC S x0 2).getD 0)) 3) ∧ (if (giC S ((f_Y6_motion S ((grC S x0 2).getD 0)).getD 0) 10) = 0 then (if x1 = 0 then (q_Y8_againstWord_67 S x0 x1 x2 x3 x4 (f_Y6_motion S ((grC S x0 2).getD 0))) else (p_Y8_isWordOrZero S x1) ∧ (if (f_Y8_isWordOrZero S x1) = 0 then (q_Y8_againstWord_67 S x0 x1 x2 x3 x4 (f_Y6_motion S ((grC S x0 2).getD 0))) else (p_Y8_isWordOrZero S x2) ∧ (if (f_Y8_isWordOrZero S x2) = 0 then (q_Y8_againstWord_67 S x0 x1 x2 x3 x4 (f_Y6_motion S ((grC S x0 2).getD 0))) else (p_Y8_isWordOrZero S x3) ∧ (if (f_Y8_isWordOrZero S x3) = 0 then (q_Y8_againstWord_67 S x0 x1 x2 x3 x4 (f_Y6_motion S ((grC S x0 2).getD 0))) else (p_Y8_isWordOrZero S x4) ∧ (if (f_Y8_isWordOrZero S x4) = 0 then (q_Y8_againstWord_67 S x0 x1 x2 x3 x4 (f_Y6_motion S ((grC S x0 2).getD 0))) else (if x2 = 0 then (q_Y8_againstWord_80 S x0 x1 x2 x3 x4 (f_Y6_motion S ((grC S x0 2).getD 0)) 0 1) else (q_Y8_againstWord_80 S x0 x1 x2 x3 x4 (f_Y6_motion S ((grC S x0 2).getD 0)) 1 1))))))) else (q_Y8_againstWord_31 S x0 x1 x2 x3 x4 (f_Y6_motion S ((grC S x0 2).getD 0))))))
def e_Y8_againstWord : List Cond := [.fieldLink RX8 141 "MotionFloor$Assembly" "draft" "LMotionFloor$Place;", .methodLink RX8 145 yX6_motion, .instanceMethod yX6_motion, .selects RX6 yX6_motion yX6_motion, .initialized RX6, .fieldLink RX8 128 "MotionFloor$Motion" "kind" "I", .fieldLink RX8 153 "MotionFloor$Motion" "laid" "Z", .methodLink RX8 156 yX8_isWordOrZero, .static yX8_isWordOrZero, .initialized RX8, .fieldLink RX8 159 "MotionFloor$Motion" "text" "LMotionFloor$Text;", .fieldLink RX8 163 "MotionFloor$Text" "size" "I"]
def v_Y8_againstWord : List Cond := .code yX8_againstWord cX8_againstWord 7 (some .int) :: (e_Y8_againstWord ++ (wsX00 ++ (wsX40 ++ (wsX90 ++ (v_Y6_motion ++ (v_Y8_isWordOrZero ++ []))))))
theorem te_Y8_againstWord : GoodIn lw_tbl e_Y8_againstWord := wGc zc424 (wGc zc422 (wGc zc128 (wGc zc127 (wGc zc112 (wGc zc371 (wGc zc407 (wGc zc442 (wGc zc441 (wGc zc373 (wGc zc396 (wGc zc393 (wG0))))))))))))
theorem t_Y8_againstWord : GoodIn lw_tbl v_Y8_againstWord := wGc zc443 (wGa te_Y8_againstWord (wGa zcX0 (wGa zcX4 (wGa zcX9 (wGa t_Y6_motion (wGa t_Y8_isWordOrZero (wG0)))))))
set_option maxHeartbeats 4000000 in
set_option maxRecDepth 100000 in
theorem c_Y8_againstWord (l : Launch) (G : va_G) (K : Nat → ClassId) (ad : Nat → Nat) (S : Cst) (x0 : Nat) (a1 : Int32) (a2 : Int32) (a3 : Int32) (a4 : Int32) (sz : Nat) : Met l yX8_againstWord v_Y8_againstWord ({ frames := 2, cells := 0, slots := 0, locals := 41 }) (va_Pc [.ref (ad x0), .int a1, .int a2, .int a3, .int a4] (cSt G K ad sz S (iK S x0 0 ∧ p_Y8_againstWord S x0 a1 a2 a3 a4))) (va_Qi (fun (r : Int32) (u : Cst) => (r, u) = (f_Y8_againstWord S x0 a1 a2 a3 a4, S)) (cBt G K ad (va_A (wsC K ad S) sz)) (va_A (wsC K ad S) sz)) 0 0 (va_A (wsC K ad S) sz) := by
  refine Met.ofW (cc := cX8_againstWord) (maxL := 7) (ret := (some .int)) (by decide) rfl ?_
  intro p e s m args below meth c s₁ B hml hv
  obtain ⟨rfl, ⟨hsz, hP, hK, hD0, hTE⟩, hp⟩ := hv
  obtain ⟨k_x0, hp⟩ := hp
  have hx := B.exec
  have hb := B.bytes
  have hr := B.returns
  have hts := atoms_spec (ws := v_Y8_againstWord) B.pre
  have t_ := t_Y8_againstWord
  have mw : ∀ w ∈ e_Y8_againstWord, w ∈ v_Y8_againstWord := fun w h => List.mem_cons_of_mem _ (List.mem_append_left _ h)
  have hw := fun w (h : w ∈ e_Y8_againstWord) => hts w (mw w h)
  have iX0 : ∀ w ∈ wsX00, w ∈ v_Y8_againstWord := fun w h => List.mem_cons_of_mem _ (List.mem_append_right _ (List.mem_append_left _ h))
  have iX4 : ∀ w ∈ wsX40, w ∈ v_Y8_againstWord := fun w h => List.mem_cons_of_mem _ (List.mem_append_right _ (List.mem_append_right _ (List.mem_append_left _ h)))
  have iX9 : ∀ w ∈ wsX90, w ∈ v_Y8_againstWord := fun w h => List.mem_cons_of_mem _ (List.mem_append_right _ (List.mem_append_right _ (List.mem_append_right _ (List.mem_append_left _ h))))
  have j_Y6_motion : ∀ w ∈ v_Y6_motion, w ∈ v_Y8_againstWord := fun w h => List.mem_cons_of_mem _ (List.mem_append_right _ (List.mem_append_right _ (List.mem_append_right _ (List.mem_append_right _ (List.mem_append_left _ h)))))
  have j_Y8_isWordOrZero : ∀ w ∈ v_Y8_isWordOrZero, w ∈ v_Y8_againstWord := fun w h => List.mem_cons_of_mem _ (List.mem_append_right _ (List.mem_append_right _ (List.mem_append_right _ (List.mem_append_right _ (List.mem_append_right _ (List.mem_append_left _ h))))))
  have hown : s.vm.findClass RX8 = some m.cls := findClass_of_methodNamed B.named
  have hlocks := B.notSynchronized
  subst hsz
  have hD := hD0.self (sz := s.heap.size)
  generalize hAe : va_A (wsC K ad S) s.heap.size = A at hD ⊢
  have hA : ∀ q : Nat, s.heap.size ≤ q → A q := fun q h => by rw [← hAe]; exact Or.inr h
  have hS : va_S A s.heap s.heap [] := va_S.rf
  have hl : lv_has (lg_sl ([.ref (ad x0), .int a1, .int a2, .int a3, .int a4]) ++ List.replicate (7 - (lg_sl ([.ref (ad x0), .int a1, .int a2, .int a3, .int a4])).length) Slot.unset).toArray 7 [(0, .ref (ad x0)), (1, .int a1), (2, .int a2), (3, .int a3), (4, .int a4)] := by
    exact lv_entry ([.ref (ad x0), .int a1, .int a2, .int a3, .int a4]) (n := 7) (Nat.le_of_ble_eq_true rfl)
  rw [lg_entry_eq]
  generalize (lg_sl ([.ref (ad x0), .int a1, .int a2, .int a3, .int a4]) ++ List.replicate (7 - (lg_sl ([.ref (ad x0), .int a1, .int a2, .int a3, .int a4])).length) Slot.unset).toArray = ls_ at hl ⊢
  refine wGen (fun Q hQ => ?_)
  obtain ⟨X, hX⟩ : ∃ X, f_Y8_againstWord S x0 a1 a2 a3 a4 = X := ⟨_, rfl⟩
  have B_Y8_againstWord_31 : ∀ (x1 : Int32) (x2 : Int32) (x3 : Int32) (x4 : Int32) (x5 : Option Nat) (H : Heap) (locs : List Loc) (ls_ : Array Slot), b_Y8_againstWord_31 S x0 x1 x2 x3 x4 x5 = X → q_Y8_againstWord_31 S x0 x1 x2 x3 x4 x5 → va_P G vwCl (wsC K ad S) H → va_D A (wsC K ad S) → va_S A s.heap H locs → lv_has ls_ 7 [(0, .ref (ad x0)), (1, .int x1), (2, .int x2), (3, .int x3), (4, .int x4), (5, va_re ad x5)] → W p l e ({ frames := 2, cells := 0, slots := 0, locals := 41 } : Room) s m #[Value.ref (ad x0), Value.int a1, Value.int a2, Value.int a3, Value.int a4] below meth c H locs 0 0 Q (F0 m 31 ls_ []) := by
    intro x1 x2 x3 x4 x5 H locs ls_ hE hp hP hD hS hl
    unfold b_Y8_againstWord_31 at hE
    unfold q_Y8_againstWord_31 at hp
    refine lv_bipush (v := 11) hx hb dX8_againstWord_31 (by decide) ?_
    subst hQ
    exact W.iret (v := (11 : Int32)) hx hb hr (fun t ht hW => ⟨⟨(11 : Int32), S, rfl, (pair_i (hE.trans hX.symm)), by rw [ht]; exact hP, hD⟩, hS.F ht⟩) hS.2.2 dX8_againstWord_33
  have B_Y8_againstWord_67 : ∀ (x1 : Int32) (x2 : Int32) (x3 : Int32) (x4 : Int32) (x5 : Option Nat) (H : Heap) (locs : List Loc) (ls_ : Array Slot), b_Y8_againstWord_67 S x0 x1 x2 x3 x4 x5 = X → q_Y8_againstWord_67 S x0 x1 x2 x3 x4 x5 → va_P G vwCl (wsC K ad S) H → va_D A (wsC K ad S) → va_S A s.heap H locs → lv_has ls_ 7 [(0, .ref (ad x0)), (1, .int x1), (2, .int x2), (3, .int x3), (4, .int x4), (5, va_re ad x5)] → W p l e ({ frames := 2, cells := 0, slots := 0, locals := 41 } : Room) s m #[Value.ref (ad x0), Value.int a1, Value.int a2, Value.int a3, Value.int a4] below meth c H locs 0 0 Q (F0 m 67 ls_ []) := by
    intro x1 x2 x3 x4 x5 H locs ls_ hE hp hP hD hS hl
    unfold b_Y8_againstWord_67 at hE
    unfold q_Y8_againstWord_67 at hp
    refine lv_bipush (v := 9) hx hb dX8_againstWord_67 (by decide) ?_
    subst hQ
    exact W.iret (v := (9 : Int32)) hx hb hr (fun t ht hW => ⟨⟨(9 : Int32), S, rfl, (pair_i (hE.trans hX.symm)), by rw [ht]; exact hP, hD⟩, hS.F ht⟩) hS.2.2 dX8_againstWord_69
  have B_Y8_againstWord_127 : ∀ (x1 : Int32) (x2 : Int32) (x3 : Int32) (x4 : Int32) (x5 : Option Nat) (x6 : Int32) (y0 : Int32) (H : Heap) (locs : List Loc) (ls_ : Array Slot), b_Y8_againstWord_127 S x0 x1 x2 x3 x4 x5 x6 y0 = X → q_Y8_againstWord_127 S x0 x1 x2 x3 x4 x5 x6 y0 → va_P G vwCl (wsC K ad S) H → va_D A (wsC K ad S) → va_S A s.heap H locs → lv_has ls_ 7 [(0, .ref (ad x0)), (1, .int x1), (2, .int x2), (3, .int x3), (4, .int x4), (5, va_re ad x5), (6, .int x6)] → W p l e ({ frames := 2, cells := 0, slots := 0, locals := 41 } : Room) s m #[Value.ref (ad x0), Value.int a1, Value.int a2, Value.int a3, Value.int a4] below meth c H locs 0 0 Q (F0 m 127 ls_ [.int y0]) := by
    intro x1 x2 x3 x4 x5 x6 y0 H locs ls_ hE hp hP hD hS hl
    unfold b_Y8_againstWord_127 at hE
    unfold q_Y8_againstWord_127 at hp
    subst hQ
    exact W.iret (v := y0) hx hb hr (fun t ht hW => ⟨⟨y0, S, rfl, (pair_i (hE.trans hX.symm)), by rw [ht]; exact hP, hD⟩, hS.F ht⟩) hS.2.2 dX8_againstWord_127
  have B_Y8_againstWord_101 : ∀ (x1 : Int32) (x2 : Int32) (x3 : Int32) (x4 : Int32) (x5 : Option Nat) (y0 : Int32) (y1 : Int32) (H : Heap) (locs : List Loc) (ls_ : Array Slot), b_Y8_againstWord_101 S x0 x1 x2 x3 x4 x5 y0 y1 = X → q_Y8_againstWord_101 S x0 x1 x2 x3 x4 x5 y0 y1 → va_P G vwCl (wsC K ad S) H → va_D A (wsC K ad S) → va_S A s.heap H locs → lv_has ls_ 7 [(0, .ref (ad x0)), (1, .int x1), (2, .int x2), (3, .int x3), (4, .int x4), (5, va_re ad x5)] → W p l e ({ frames := 2, cells := 0, slots := 0, locals := 41 } : Room) s m #[Value.ref (ad x0), Value.int a1, Value.int a2, Value.int a3, Value.int a4] below meth c H locs 0 0 Q (F0 m 101 ls_ [.int y0, .int y1]) := by
    intro x1 x2 x3 x4 x5 y0 y1 H locs ls_ hE hp hP hD hS hl
    unfold b_Y8_againstWord_101 at hE
    unfold q_Y8_againstWord_101 at hp
    refine lv_iadd hx hb dX8_againstWord_101 ?_
    refine lv_istore (i := 6) (lv' := [(6, .int (y1 + y0)), (0, .ref (ad x0)), (1, .int x1), (2, .int x2), (3, .int x3), (4, .int x4), (5, va_re ad x5)]) hx hb dX8_againstWord_102 hl (by decide) (by simp [List.filter, re_cat]) (fun ls_ hl => ?_)
    refine cAload (ad := ad) (r := x5) hx hb dX8_againstWord_104 (lv_at hl 6 rfl) ?_
    obtain ⟨hy30, hp⟩ := hp
    refine cTop (r := x5) hy30.1 ?_
    refine va_get (D := G) (ci := 3) (v := va_re ad (grC S (x5.getD 0) 12)) (C := RX4) (T := TX4) (N := 16) hx hb hts iX4 hown hK hP (x5.getD 0) (at_3 hy30.2) rfl 12 (by decide) (hw (.fieldLink RX8 159 "MotionFloor$Motion" "text" "LMotionFloor$Text;") (List.mem_of_getElem? (i := 10) rfl)) (fun _ h9 => h9) rfl dX8_againstWord_106 ?_
    obtain ⟨hy31, hp⟩ := hp
    refine cTop (r := (grC S (x5.getD 0) 12)) hy31.1 ?_
    refine va_get (D := G) (ci := 6) (v := .int (giC S ((grC S (x5.getD 0) 12).getD 0) 1)) (C := RX9) (T := TX9) (N := 2) hx hb hts iX9 hown hK hP ((grC S (x5.getD 0) 12).getD 0) (at_6 hy31.2) rfl 1 (by decide) (hw (.fieldLink RX8 163 "MotionFloor$Text" "size" "I") (List.mem_of_getElem? (i := 11) rfl)) (fun _ h9 => h9) rfl dX8_againstWord_109 ?_
    refine lv_iload hx hb dX8_againstWord_112 (lv_at hl 0 rfl) ?_
    refine lv_iadd hx hb dX8_againstWord_114 ?_
    refine lv_sipush (v := 400) hx hb dX8_againstWord_115 (by decide) ?_
    refine lv_icmp_le (tgt := 126) hx hb dX8_againstWord_118 (by decide) (fun c32 => ?_) (fun c32 => ?_)
    · rw [if_pos c32] at hE hp
      refine lv_iconst (v := 0) hx hb dX8_againstWord_126 (by decide) ?_
      exact B_Y8_againstWord_127 x1 x2 x3 x4 x5 (y1 + y0) 0 _ _ _ hE hp hP hD hS (lv_sub hl [1, 2, 3, 4, 5, 6, 0] rfl)
    · rw [if_neg c32] at hE hp
      refine lv_bipush (v := 10) hx hb dX8_againstWord_121 (by decide) ?_
      refine lv_goto (tgt := 127) hx hb dX8_againstWord_123 (by decide) ?_
      exact B_Y8_againstWord_127 x1 x2 x3 x4 x5 (y1 + y0) 10 _ _ _ hE hp hP hD hS (lv_sub hl [1, 2, 3, 4, 5, 6, 0] rfl)
  have B_Y8_againstWord_90 : ∀ (x1 : Int32) (x2 : Int32) (x3 : Int32) (x4 : Int32) (x5 : Option Nat) (y0 : Int32) (y1 : Int32) (H : Heap) (locs : List Loc) (ls_ : Array Slot), b_Y8_againstWord_90 S x0 x1 x2 x3 x4 x5 y0 y1 = X → q_Y8_againstWord_90 S x0 x1 x2 x3 x4 x5 y0 y1 → va_P G vwCl (wsC K ad S) H → va_D A (wsC K ad S) → va_S A s.heap H locs → lv_has ls_ 7 [(0, .ref (ad x0)), (1, .int x1), (2, .int x2), (3, .int x3), (4, .int x4), (5, va_re ad x5)] → W p l e ({ frames := 2, cells := 0, slots := 0, locals := 41 } : Room) s m #[Value.ref (ad x0), Value.int a1, Value.int a2, Value.int a3, Value.int a4] below meth c H locs 0 0 Q (F0 m 90 ls_ [.int y0, .int y1]) := by
    intro x1 x2 x3 x4 x5 y0 y1 H locs ls_ hE hp hP hD hS hl
    unfold b_Y8_againstWord_90 at hE
    unfold q_Y8_againstWord_90 at hp
    refine lv_iadd hx hb dX8_againstWord_90 ?_
    refine lv_iload hx hb dX8_againstWord_91 (lv_at hl 4 rfl) ?_
    refine lv_if_ne (tgt := 100) hx hb dX8_againstWord_93 (by decide) (fun c29 => ?_) (fun c29 => ?_)
    · rw [if_neg c29] at hE hp
      refine lv_iconst (v := 1) hx hb dX8_againstWord_100 (by decide) ?_
      exact B_Y8_againstWord_101 x1 x2 x3 x4 x5 1 (y1 + y0) _ _ _ hE hp hP hD hS (lv_sub hl [0, 1, 2, 3, 4, 5] rfl)
    · rw [if_pos c29] at hE hp
      refine lv_iconst (v := 0) hx hb dX8_againstWord_96 (by decide) ?_
      refine lv_goto (tgt := 101) hx hb dX8_againstWord_97 (by decide) ?_
      exact B_Y8_againstWord_101 x1 x2 x3 x4 x5 0 (y1 + y0) _ _ _ hE hp hP hD hS (lv_sub hl [0, 1, 2, 3, 4, 5] rfl)
  have B_Y8_againstWord_80 : ∀ (x1 : Int32) (x2 : Int32) (x3 : Int32) (x4 : Int32) (x5 : Option Nat) (y0 : Int32) (y1 : Int32) (H : Heap) (locs : List Loc) (ls_ : Array Slot), b_Y8_againstWord_80 S x0 x1 x2 x3 x4 x5 y0 y1 = X → q_Y8_againstWord_80 S x0 x1 x2 x3 x4 x5 y0 y1 → va_P G vwCl (wsC K ad S) H → va_D A (wsC K ad S) → va_S A s.heap H locs → lv_has ls_ 7 [(0, .ref (ad x0)), (1, .int x1), (2, .int x2), (3, .int x3), (4, .int x4), (5, va_re ad x5)] → W p l e ({ frames := 2, cells := 0, slots := 0, locals := 41 } : Room) s m #[Value.ref (ad x0), Value.int a1, Value.int a2, Value.int a3, Value.int a4] below meth c H locs 0 0 Q (F0 m 80 ls_ [.int y0, .int y1]) := by
    intro x1 x2 x3 x4 x5 y0 y1 H locs ls_ hE hp hP hD hS hl
    unfold b_Y8_againstWord_80 at hE
    unfold q_Y8_againstWord_80 at hp
    refine lv_iadd hx hb dX8_againstWord_80 ?_
    refine lv_iload_n hx hb dX8_againstWord_81 rfl (lv_at hl 3 rfl) ?_
    refine lv_if_ne (tgt := 89) hx hb dX8_againstWord_82 (by decide) (fun c28 => ?_) (fun c28 => ?_)
    · rw [if_neg c28] at hE hp
      refine lv_iconst (v := 1) hx hb dX8_againstWord_89 (by decide) ?_
      exact B_Y8_againstWord_90 x1 x2 x3 x4 x5 1 (y1 + y0) _ _ _ hE hp hP hD hS (lv_sub hl [0, 1, 2, 3, 4, 5] rfl)
    · rw [if_pos c28] at hE hp
      refine lv_iconst (v := 0) hx hb dX8_againstWord_85 (by decide) ?_
      refine lv_goto (tgt := 90) hx hb dX8_againstWord_86 (by decide) ?_
      exact B_Y8_againstWord_90 x1 x2 x3 x4 x5 0 (y1 + y0) _ _ _ hE hp hP hD hS (lv_sub hl [0, 1, 2, 3, 4, 5] rfl)
  have B_M : ∀ (x1 : Int32) (x2 : Int32) (x3 : Int32) (x4 : Int32) (H : Heap) (locs : List Loc) (ls_ : Array Slot), f_Y8_againstWord S x0 x1 x2 x3 x4 = X → p_Y8_againstWord S x0 x1 x2 x3 x4 → va_P G vwCl (wsC K ad S) H → va_D A (wsC K ad S) → va_S A s.heap H locs → lv_has ls_ 7 [(0, .ref (ad x0)), (1, .int x1), (2, .int x2), (3, .int x3), (4, .int x4)] → W p l e ({ frames := 2, cells := 0, slots := 0, locals := 41 } : Room) s m #[Value.ref (ad x0), Value.int a1, Value.int a2, Value.int a3, Value.int a4] below meth c H locs 0 0 Q (F0 m 0 ls_ []) := by
    intro x1 x2 x3 x4 H locs ls_ hE hp hP hD hS hl
    unfold f_Y8_againstWord at hE
    unfold p_Y8_againstWord at hp
    refine lv_aload_n hx hb dX8_againstWord_0 rfl (lv_at hl 0 rfl) ?_
    refine va_get (D := G) (ci := 0) (v := va_re ad (grC S x0 2)) (C := RX0) (T := TX0) (N := 11) hx hb hts iX0 hown hK hP x0 (at_0 k_x0) rfl 2 (by decide) (hw (.fieldLink RX8 141 "MotionFloor$Assembly" "draft" "LMotionFloor$Place;") (List.mem_of_getElem? (i := 0) rfl)) (fun _ h9 => h9) rfl dX8_againstWord_1 ?_
    obtain ⟨hy1, hp⟩ := hp
    refine cTop (r := (grC S x0 2)) hy1.1 ?_
    obtain ⟨hy2, hp⟩ := hp
    refine cGoq (va_runV (As := []) (rest := []) ⟨hx, hb, hml, hown, hts⟩ (c_Y6_motion l G K ad S ((grC S x0 2).getD 0) _) (cwV 0 hts (wGV t_ (mw (.methodLink RX8 145 yX6_motion) (List.mem_of_getElem? (i := 1) rfl)) (mw (.instanceMethod yX6_motion) (List.mem_of_getElem? (i := 2) rfl)) (mw (.selects RX6 yX6_motion yX6_motion) (List.mem_of_getElem? (i := 3) rfl)) (mw (.initialized RX6) (List.mem_of_getElem? (i := 4) rfl)) j_Y6_motion) rfl rfl rfl (by decide +kernel) ⟨Nat.le_of_ble_eq_true rfl, Nat.le_of_ble_eq_true rfl⟩) (cPV hK hTE hP hD 5 rfl (at_5 hy1.2) ⟨hy1.2, hy2⟩) rfl rfl hl.1 rfl (lv_room (Nat.le_of_ble_eq_true rfl)) dX8_againstWord_4 ⟨Nat.le_of_ble_eq_true rfl, Nat.le_of_ble_eq_true rfl⟩) hP hD hS hA (fun r4 u3 H locs hv hP hD hS => ?_)
    have h1 := congrArg Prod.fst hv
    have h2 := (congrArg Prod.snd hv).symm
    dsimp only at h1 h2
    subst h1
    subst h2
    refine cAstore (ad := ad) (r := (f_Y6_motion S ((grC S x0 2).getD 0))) (i := 5) (lv' := [(5, va_re ad (f_Y6_motion S ((grC S x0 2).getD 0))), (0, .ref (ad x0)), (1, .int x1), (2, .int x2), (3, .int x3), (4, .int x4)]) hx hb dX8_againstWord_7 hl (by decide) rfl (fun ls_ hl => ?_)
    refine cAload (ad := ad) (r := (f_Y6_motion S ((grC S x0 2).getD 0))) hx hb dX8_againstWord_9 (lv_at hl 0 rfl) ?_
    refine cIfnull (ad := ad) (r := (f_Y6_motion S ((grC S x0 2).getD 0))) (tgt := 31) hx hb dX8_againstWord_11 (by decide) (fun c5 => ?_) (fun c5 => ?_)
    · rw [if_pos c5] at hE hp
      exact B_Y8_againstWord_31 x1 x2 x3 x4 (f_Y6_motion S ((grC S x0 2).getD 0)) _ _ _ hE hp hP hD hS (lv_sub hl [1, 2, 3, 4, 5, 0] rfl)
    · rw [if_neg c5] at hE hp
      refine cAload (ad := ad) (r := (f_Y6_motion S ((grC S x0 2).getD 0))) hx hb dX8_againstWord_14 (lv_at hl 0 rfl) ?_
      obtain ⟨hy6, hp⟩ := hp
      refine cTop (r := (f_Y6_motion S ((grC S x0 2).getD 0))) hy6.1 ?_
      refine va_get (D := G) (ci := 3) (v := .int (giC S ((f_Y6_motion S ((grC S x0 2).getD 0)).getD 0) 2)) (C := RX4) (T := TX4) (N := 16) hx hb hts iX4 hown hK hP ((f_Y6_motion S ((grC S x0 2).getD 0)).getD 0) (at_3 hy6.2) rfl 2 (by decide) (hw (.fieldLink RX8 128 "MotionFloor$Motion" "kind" "I") (List.mem_of_getElem? (i := 5) rfl)) (fun _ h9 => h9) rfl dX8_againstWord_16 ?_
      refine lv_iconst (v := 5) hx hb dX8_againstWord_19 (by decide) ?_
      refine lv_icmp_gt (tgt := 31) hx hb dX8_againstWord_20 (by decide) (fun c7 => ?_) (fun c7 => ?_)
      · rw [if_pos c7] at hE hp
        exact B_Y8_againstWord_31 x1 x2 x3 x4 (f_Y6_motion S ((grC S x0 2).getD 0)) _ _ _ hE hp hP hD hS (lv_sub hl [1, 2, 3, 4, 5, 0] rfl)
      · rw [if_neg c7] at hE hp
        refine cAload (ad := ad) (r := (f_Y6_motion S ((grC S x0 2).getD 0))) hx hb dX8_againstWord_23 (lv_at hl 0 rfl) ?_
        obtain ⟨hy8, hp⟩ := hp
        refine cTop (r := (f_Y6_motion S ((grC S x0 2).getD 0))) hy8.1 ?_
        refine va_get (D := G) (ci := 3) (v := .int (giC S ((f_Y6_motion S ((grC S x0 2).getD 0)).getD 0) 10)) (C := RX4) (T := TX4) (N := 16) hx hb hts iX4 hown hK hP ((f_Y6_motion S ((grC S x0 2).getD 0)).getD 0) (at_3 hy8.2) rfl 10 (by decide) (hw (.fieldLink RX8 153 "MotionFloor$Motion" "laid" "Z") (List.mem_of_getElem? (i := 6) rfl)) (fun _ h9 => h9) rfl dX8_againstWord_25 ?_
        refine lv_if_eq (tgt := 34) hx hb dX8_againstWord_28 (by decide) (fun c9 => ?_) (fun c9 => ?_)
        · rw [if_pos c9] at hE hp
          refine lv_iload_n hx hb dX8_againstWord_34 rfl (lv_at hl 2 rfl) ?_
          refine lv_if_eq (tgt := 67) hx hb dX8_againstWord_35 (by decide) (fun c10 => ?_) (fun c10 => ?_)
          · rw [if_pos c10] at hE hp
            exact B_Y8_againstWord_67 x1 x2 x3 x4 (f_Y6_motion S ((grC S x0 2).getD 0)) _ _ _ hE hp hP hD hS (lv_sub hl [1, 2, 3, 4, 5, 0] rfl)
          · rw [if_neg c10] at hE hp
            refine lv_iload_n hx hb dX8_againstWord_38 rfl (lv_at hl 2 rfl) ?_
            obtain ⟨hy11, hp⟩ := hp
            refine cGoi (va_runS (As := [.int x1]) (rest := []) ⟨hx, hb, hml, hown, hts⟩ (c_Y8_isWordOrZero l G K ad S x1 _) (va_cwS 1 hts (wGS t_ (mw (.methodLink RX8 156 yX8_isWordOrZero) (List.mem_of_getElem? (i := 7) rfl)) (mw (.static yX8_isWordOrZero) (List.mem_of_getElem? (i := 8) rfl)) (mw (.initialized RX8) (List.mem_of_getElem? (i := 9) rfl)) j_Y8_isWordOrZero) rfl rfl rfl (by decide +kernel) ⟨Nat.le_of_ble_eq_true rfl, Nat.le_of_ble_eq_true rfl⟩) (cPS hK hTE hP hD hy11) rfl rfl hl.1 rfl (lv_room (Nat.le_of_ble_eq_true rfl)) dX8_againstWord_39 ⟨Nat.le_of_ble_eq_true rfl, Nat.le_of_ble_eq_true rfl⟩) hP hD hS hA (fun r13 u12 H locs hv hP hD hS => ?_)
            have h1 := congrArg Prod.fst hv
            have h2 := (congrArg Prod.snd hv).symm
            dsimp only at h1 h2
            subst h1
            subst h2
            refine lv_if_eq (tgt := 67) hx hb dX8_againstWord_42 (by decide) (fun c14 => ?_) (fun c14 => ?_)
            · rw [if_pos c14] at hE hp
              exact B_Y8_againstWord_67 x1 x2 x3 x4 (f_Y6_motion S ((grC S x0 2).getD 0)) _ _ _ hE hp hP hD hS (lv_sub hl [1, 2, 3, 4, 5, 0] rfl)
            · rw [if_neg c14] at hE hp
              refine lv_iload_n hx hb dX8_againstWord_45 rfl (lv_at hl 3 rfl) ?_
              obtain ⟨hy15, hp⟩ := hp
              refine cGoi (va_runS (As := [.int x2]) (rest := []) ⟨hx, hb, hml, hown, hts⟩ (c_Y8_isWordOrZero l G K ad S x2 _) (va_cwS 1 hts (wGS t_ (mw (.methodLink RX8 156 yX8_isWordOrZero) (List.mem_of_getElem? (i := 7) rfl)) (mw (.static yX8_isWordOrZero) (List.mem_of_getElem? (i := 8) rfl)) (mw (.initialized RX8) (List.mem_of_getElem? (i := 9) rfl)) j_Y8_isWordOrZero) rfl rfl rfl (by decide +kernel) ⟨Nat.le_of_ble_eq_true rfl, Nat.le_of_ble_eq_true rfl⟩) (cPS hK hTE hP hD hy15) rfl rfl hl.1 rfl (lv_room (Nat.le_of_ble_eq_true rfl)) dX8_againstWord_46 ⟨Nat.le_of_ble_eq_true rfl, Nat.le_of_ble_eq_true rfl⟩) hP hD hS hA (fun r17 u16 H locs hv hP hD hS => ?_)
              have h1 := congrArg Prod.fst hv
              have h2 := (congrArg Prod.snd hv).symm
              dsimp only at h1 h2
              subst h1
              subst h2
              refine lv_if_eq (tgt := 67) hx hb dX8_againstWord_49 (by decide) (fun c18 => ?_) (fun c18 => ?_)
              · rw [if_pos c18] at hE hp
                exact B_Y8_againstWord_67 x1 x2 x3 x4 (f_Y6_motion S ((grC S x0 2).getD 0)) _ _ _ hE hp hP hD hS (lv_sub hl [1, 2, 3, 4, 5, 0] rfl)
              · rw [if_neg c18] at hE hp
                refine lv_iload_n hx hb dX8_againstWord_52 rfl (lv_at hl 4 rfl) ?_
                obtain ⟨hy19, hp⟩ := hp
                refine cGoi (va_runS (As := [.int x3]) (rest := []) ⟨hx, hb, hml, hown, hts⟩ (c_Y8_isWordOrZero l G K ad S x3 _) (va_cwS 1 hts (wGS t_ (mw (.methodLink RX8 156 yX8_isWordOrZero) (List.mem_of_getElem? (i := 7) rfl)) (mw (.static yX8_isWordOrZero) (List.mem_of_getElem? (i := 8) rfl)) (mw (.initialized RX8) (List.mem_of_getElem? (i := 9) rfl)) j_Y8_isWordOrZero) rfl rfl rfl (by decide +kernel) ⟨Nat.le_of_ble_eq_true rfl, Nat.le_of_ble_eq_true rfl⟩) (cPS hK hTE hP hD hy19) rfl rfl hl.1 rfl (lv_room (Nat.le_of_ble_eq_true rfl)) dX8_againstWord_53 ⟨Nat.le_of_ble_eq_true rfl, Nat.le_of_ble_eq_true rfl⟩) hP hD hS hA (fun r21 u20 H locs hv hP hD hS => ?_)
                have h1 := congrArg Prod.fst hv
                have h2 := (congrArg Prod.snd hv).symm
                dsimp only at h1 h2
                subst h1
                subst h2
                refine lv_if_eq (tgt := 67) hx hb dX8_againstWord_56 (by decide) (fun c22 => ?_) (fun c22 => ?_)
                · rw [if_pos c22] at hE hp
                  exact B_Y8_againstWord_67 x1 x2 x3 x4 (f_Y6_motion S ((grC S x0 2).getD 0)) _ _ _ hE hp hP hD hS (lv_sub hl [1, 2, 3, 4, 5, 0] rfl)
                · rw [if_neg c22] at hE hp
                  refine lv_iload hx hb dX8_againstWord_59 (lv_at hl 5 rfl) ?_
                  obtain ⟨hy23, hp⟩ := hp
                  refine cGoi (va_runS (As := [.int x4]) (rest := []) ⟨hx, hb, hml, hown, hts⟩ (c_Y8_isWordOrZero l G K ad S x4 _) (va_cwS 1 hts (wGS t_ (mw (.methodLink RX8 156 yX8_isWordOrZero) (List.mem_of_getElem? (i := 7) rfl)) (mw (.static yX8_isWordOrZero) (List.mem_of_getElem? (i := 8) rfl)) (mw (.initialized RX8) (List.mem_of_getElem? (i := 9) rfl)) j_Y8_isWordOrZero) rfl rfl rfl (by decide +kernel) ⟨Nat.le_of_ble_eq_true rfl, Nat.le_of_ble_eq_true rfl⟩) (cPS hK hTE hP hD hy23) rfl rfl hl.1 rfl (lv_room (Nat.le_of_ble_eq_true rfl)) dX8_againstWord_61 ⟨Nat.le_of_ble_eq_true rfl, Nat.le_of_ble_eq_true rfl⟩) hP hD hS hA (fun r25 u24 H locs hv hP hD hS => ?_)
                  have h1 := congrArg Prod.fst hv
                  have h2 := (congrArg Prod.snd hv).symm
                  dsimp only at h1 h2
                  subst h1
                  subst h2
                  refine lv_if_ne (tgt := 70) hx hb dX8_againstWord_64 (by decide) (fun c26 => ?_) (fun c26 => ?_)
                  · rw [if_neg c26] at hE hp
                    refine lv_iconst (v := 1) hx hb dX8_againstWord_70 (by decide) ?_
                    refine lv_iload_n hx hb dX8_againstWord_71 rfl (lv_at hl 3 rfl) ?_
                    refine lv_if_ne (tgt := 79) hx hb dX8_againstWord_72 (by decide) (fun c27 => ?_) (fun c27 => ?_)
                    · rw [if_neg c27] at hE hp
                      refine lv_iconst (v := 1) hx hb dX8_againstWord_79 (by decide) ?_
                      exact B_Y8_againstWord_80 x1 x2 x3 x4 (f_Y6_motion S ((grC S x0 2).getD 0)) 1 1 _ _ _ hE hp hP hD hS (lv_sub hl [1, 2, 3, 4, 5, 0] rfl)
                    · rw [if_pos c27] at hE hp
                      refine lv_iconst (v := 0) hx hb dX8_againstWord_75 (by decide) ?_
                      refine lv_goto (tgt := 80) hx hb dX8_againstWord_76 (by decide) ?_
                      exact B_Y8_againstWord_80 x1 x2 x3 x4 (f_Y6_motion S ((grC S x0 2).getD 0)) 0 1 _ _ _ hE hp hP hD hS (lv_sub hl [1, 2, 3, 4, 5, 0] rfl)
                  · rw [if_pos c26] at hE hp
                    exact B_Y8_againstWord_67 x1 x2 x3 x4 (f_Y6_motion S ((grC S x0 2).getD 0)) _ _ _ hE hp hP hD hS (lv_sub hl [1, 2, 3, 4, 5, 0] rfl)
        · rw [if_neg c9] at hE hp
          exact B_Y8_againstWord_31 x1 x2 x3 x4 (f_Y6_motion S ((grC S x0 2).getD 0)) _ _ _ hE hp hP hD hS (lv_sub hl [1, 2, 3, 4, 5, 0] rfl)
  exact B_M a1 a2 a3 a4 _ _ _ hX hp hP hD hS hl
theorem gdX8_againstLay_0 : ckS (List.drop 0 cX8_againstLay.data.toList) 0 [(0, .aload_n 0, 1), (1, .iload_n 1, 1), (2, .invokevirtual 166, 3), (5, .astore_n 2, 1), (6, .aload_n 2, 1), (7, .ifnonnull 6, 3), (10, .bipush 9, 2), (12, .ireturn, 1), (13, .aload_n 0, 1), (14, .getfield 141, 3), (17, .invokevirtual 170, 3), (20, .ifCond .ne 10, 3), (23, .aload_n 2, 1), (24, .invokevirtual 170, 3), (27, .ifCond .ne 6, 3), (30, .bipush 11, 2), (32, .ireturn, 1), (33, .aload_n 0, 1), (34, .getfield 141, 3), (37, .invokevirtual 145, 3), (40, .astore_n 3, 1), (41, .aload_n 3, 1), (42, .ifnull 59, 3), (45, .aload_n 3, 1), (46, .invokevirtual 150, 3), (49, .ifCond .eq 52, 3), (52, .aload_n 3, 1), (53, .getfield 153, 3), (56, .ifCond .ne 45, 3), (59, .aload_n 0, 1), (60, .getfield 86, 3), (63, .invokevirtual 90, 3), (66, .astore 4, 2), (68, .aload 4, 2), (70, .ifnull 12, 3), (73, .aload_n 3, 1), (74, .aload 4, 2), (76, .invokevirtual 173, 3), (79, .ifCond .ne 5, 3), (82, .iconst 1, 1)] = true := by decide +kernel
theorem dX8_againstLay_0 : decode cX8_againstLay 0 = .ok (.aload_n 0, 1) := ckS_g gdX8_againstLay_0 0 rfl
theorem dX8_againstLay_1 : decode cX8_againstLay 1 = .ok (.iload_n 1, 1) := ckS_g gdX8_againstLay_0 1 rfl
theorem dX8_againstLay_2 : decode cX8_againstLay 2 = .ok (.invokevirtual 166, 3) := ckS_g gdX8_againstLay_0 2 rfl
theorem dX8_againstLay_5 : decode cX8_againstLay 5 = .ok (.astore_n 2, 1) := ckS_g gdX8_againstLay_0 3 rfl
theorem dX8_againstLay_6 : decode cX8_againstLay 6 = .ok (.aload_n 2, 1) := ckS_g gdX8_againstLay_0 4 rfl
theorem dX8_againstLay_7 : decode cX8_againstLay 7 = .ok (.ifnonnull 6, 3) := ckS_g gdX8_againstLay_0 5 rfl
theorem dX8_againstLay_10 : decode cX8_againstLay 10 = .ok (.bipush 9, 2) := ckS_g gdX8_againstLay_0 6 rfl
theorem dX8_againstLay_12 : decode cX8_againstLay 12 = .ok (.ireturn, 1) := ckS_g gdX8_againstLay_0 7 rfl
theorem dX8_againstLay_13 : decode cX8_againstLay 13 = .ok (.aload_n 0, 1) := ckS_g gdX8_againstLay_0 8 rfl
theorem dX8_againstLay_14 : decode cX8_againstLay 14 = .ok (.getfield 141, 3) := ckS_g gdX8_againstLay_0 9 rfl
theorem dX8_againstLay_17 : decode cX8_againstLay 17 = .ok (.invokevirtual 170, 3) := ckS_g gdX8_againstLay_0 10 rfl
theorem dX8_againstLay_20 : decode cX8_againstLay 20 = .ok (.ifCond .ne 10, 3) := ckS_g gdX8_againstLay_0 11 rfl
theorem dX8_againstLay_23 : decode cX8_againstLay 23 = .ok (.aload_n 2, 1) := ckS_g gdX8_againstLay_0 12 rfl
theorem dX8_againstLay_24 : decode cX8_againstLay 24 = .ok (.invokevirtual 170, 3) := ckS_g gdX8_againstLay_0 13 rfl
theorem dX8_againstLay_27 : decode cX8_againstLay 27 = .ok (.ifCond .ne 6, 3) := ckS_g gdX8_againstLay_0 14 rfl
theorem dX8_againstLay_30 : decode cX8_againstLay 30 = .ok (.bipush 11, 2) := ckS_g gdX8_againstLay_0 15 rfl
theorem dX8_againstLay_32 : decode cX8_againstLay 32 = .ok (.ireturn, 1) := ckS_g gdX8_againstLay_0 16 rfl
theorem dX8_againstLay_33 : decode cX8_againstLay 33 = .ok (.aload_n 0, 1) := ckS_g gdX8_againstLay_0 17 rfl
theorem dX8_againstLay_34 : decode cX8_againstLay 34 = .ok (.getfield 141, 3) := ckS_g gdX8_againstLay_0 18 rfl
theorem dX8_againstLay_37 : decode cX8_againstLay 37 = .ok (.invokevirtual 145, 3) := ckS_g gdX8_againstLay_0 19 rfl
theorem dX8_againstLay_40 : decode cX8_againstLay 40 = .ok (.astore_n 3, 1) := ckS_g gdX8_againstLay_0 20 rfl
theorem dX8_againstLay_41 : decode cX8_againstLay 41 = .ok (.aload_n 3, 1) := ckS_g gdX8_againstLay_0 21 rfl
theorem dX8_againstLay_42 : decode cX8_againstLay 42 = .ok (.ifnull 59, 3) := ckS_g gdX8_againstLay_0 22 rfl
theorem dX8_againstLay_45 : decode cX8_againstLay 45 = .ok (.aload_n 3, 1) := ckS_g gdX8_againstLay_0 23 rfl
theorem dX8_againstLay_46 : decode cX8_againstLay 46 = .ok (.invokevirtual 150, 3) := ckS_g gdX8_againstLay_0 24 rfl
theorem dX8_againstLay_49 : decode cX8_againstLay 49 = .ok (.ifCond .eq 52, 3) := ckS_g gdX8_againstLay_0 25 rfl
theorem dX8_againstLay_52 : decode cX8_againstLay 52 = .ok (.aload_n 3, 1) := ckS_g gdX8_againstLay_0 26 rfl
theorem dX8_againstLay_53 : decode cX8_againstLay 53 = .ok (.getfield 153, 3) := ckS_g gdX8_againstLay_0 27 rfl
theorem dX8_againstLay_56 : decode cX8_againstLay 56 = .ok (.ifCond .ne 45, 3) := ckS_g gdX8_againstLay_0 28 rfl
theorem dX8_againstLay_59 : decode cX8_againstLay 59 = .ok (.aload_n 0, 1) := ckS_g gdX8_againstLay_0 29 rfl
theorem dX8_againstLay_60 : decode cX8_againstLay 60 = .ok (.getfield 86, 3) := ckS_g gdX8_againstLay_0 30 rfl
theorem dX8_againstLay_63 : decode cX8_againstLay 63 = .ok (.invokevirtual 90, 3) := ckS_g gdX8_againstLay_0 31 rfl
theorem dX8_againstLay_66 : decode cX8_againstLay 66 = .ok (.astore 4, 2) := ckS_g gdX8_againstLay_0 32 rfl
theorem dX8_againstLay_68 : decode cX8_againstLay 68 = .ok (.aload 4, 2) := ckS_g gdX8_againstLay_0 33 rfl
theorem dX8_againstLay_70 : decode cX8_againstLay 70 = .ok (.ifnull 12, 3) := ckS_g gdX8_againstLay_0 34 rfl
theorem dX8_againstLay_73 : decode cX8_againstLay 73 = .ok (.aload_n 3, 1) := ckS_g gdX8_againstLay_0 35 rfl
theorem dX8_againstLay_74 : decode cX8_againstLay 74 = .ok (.aload 4, 2) := ckS_g gdX8_againstLay_0 36 rfl
theorem dX8_againstLay_76 : decode cX8_againstLay 76 = .ok (.invokevirtual 173, 3) := ckS_g gdX8_againstLay_0 37 rfl
theorem dX8_againstLay_79 : decode cX8_againstLay 79 = .ok (.ifCond .ne 5, 3) := ckS_g gdX8_againstLay_0 38 rfl
theorem dX8_againstLay_82 : decode cX8_againstLay 82 = .ok (.iconst 1, 1) := ckS_g gdX8_againstLay_0 39 rfl
theorem gdX8_againstLay_83 : ckS (List.drop 83 cX8_againstLay.data.toList) 83 [(83, .ireturn, 1), (84, .aload_n 3, 1), (85, .getfield 177, 3), (88, .aload 4, 2), (90, .getfield 159, 3), (93, .getfield 163, 3), (96, .if_icmp .le 5, 3), (99, .iconst 5, 1), (100, .ireturn, 1), (101, .aload_n 0, 1), (102, .invokevirtual 180, 3), (105, .iconst 1, 1), (106, .if_icmp .ne 18, 3), (109, .aload_n 0, 1), (110, .getfield 86, 3), (113, .invokevirtual 184, 3), (116, .ifCond .eq 8, 3), (119, .bipush 10, 2), (121, .goto 4, 3), (124, .iconst 0, 1), (125, .ireturn, 1)] = true := by decide +kernel
theorem dX8_againstLay_83 : decode cX8_againstLay 83 = .ok (.ireturn, 1) := ckS_g gdX8_againstLay_83 0 rfl
theorem dX8_againstLay_84 : decode cX8_againstLay 84 = .ok (.aload_n 3, 1) := ckS_g gdX8_againstLay_83 1 rfl
theorem dX8_againstLay_85 : decode cX8_againstLay 85 = .ok (.getfield 177, 3) := ckS_g gdX8_againstLay_83 2 rfl
theorem dX8_againstLay_88 : decode cX8_againstLay 88 = .ok (.aload 4, 2) := ckS_g gdX8_againstLay_83 3 rfl
theorem dX8_againstLay_90 : decode cX8_againstLay 90 = .ok (.getfield 159, 3) := ckS_g gdX8_againstLay_83 4 rfl
theorem dX8_againstLay_93 : decode cX8_againstLay 93 = .ok (.getfield 163, 3) := ckS_g gdX8_againstLay_83 5 rfl
theorem dX8_againstLay_96 : decode cX8_againstLay 96 = .ok (.if_icmp .le 5, 3) := ckS_g gdX8_againstLay_83 6 rfl
theorem dX8_againstLay_99 : decode cX8_againstLay 99 = .ok (.iconst 5, 1) := ckS_g gdX8_againstLay_83 7 rfl
theorem dX8_againstLay_100 : decode cX8_againstLay 100 = .ok (.ireturn, 1) := ckS_g gdX8_againstLay_83 8 rfl
theorem dX8_againstLay_101 : decode cX8_againstLay 101 = .ok (.aload_n 0, 1) := ckS_g gdX8_againstLay_83 9 rfl
theorem dX8_againstLay_102 : decode cX8_againstLay 102 = .ok (.invokevirtual 180, 3) := ckS_g gdX8_againstLay_83 10 rfl
theorem dX8_againstLay_105 : decode cX8_againstLay 105 = .ok (.iconst 1, 1) := ckS_g gdX8_againstLay_83 11 rfl
theorem dX8_againstLay_106 : decode cX8_againstLay 106 = .ok (.if_icmp .ne 18, 3) := ckS_g gdX8_againstLay_83 12 rfl
theorem dX8_againstLay_109 : decode cX8_againstLay 109 = .ok (.aload_n 0, 1) := ckS_g gdX8_againstLay_83 13 rfl
theorem dX8_againstLay_110 : decode cX8_againstLay 110 = .ok (.getfield 86, 3) := ckS_g gdX8_againstLay_83 14 rfl
theorem dX8_againstLay_113 : decode cX8_againstLay 113 = .ok (.invokevirtual 184, 3) := ckS_g gdX8_againstLay_83 15 rfl
theorem dX8_againstLay_116 : decode cX8_againstLay 116 = .ok (.ifCond .eq 8, 3) := ckS_g gdX8_againstLay_83 16 rfl
theorem dX8_againstLay_119 : decode cX8_againstLay 119 = .ok (.bipush 10, 2) := ckS_g gdX8_againstLay_83 17 rfl
theorem dX8_againstLay_121 : decode cX8_againstLay 121 = .ok (.goto 4, 3) := ckS_g gdX8_againstLay_83 18 rfl
theorem dX8_againstLay_124 : decode cX8_againstLay 124 = .ok (.iconst 0, 1) := ckS_g gdX8_againstLay_83 19 rfl
theorem dX8_againstLay_125 : decode cX8_againstLay 125 = .ok (.ireturn, 1) := ckS_g gdX8_againstLay_83 20 rfl
theorem gdX8_againstOnPaper_71 : ckS (List.drop 71 cX8_againstOnPaper.data.toList) 71 [(71, .ireturn, 1), (72, .aload_n 0, 1), (73, .iload_n 2, 1), (74, .invokestatic 70, 3)] = true := by decide +kernel
theorem dX8_againstOnPaper_71 : decode cX8_againstOnPaper 71 = .ok (.ireturn, 1) := ckS_g gdX8_againstOnPaper_71 0 rfl
theorem dX8_againstOnPaper_72 : decode cX8_againstOnPaper 72 = .ok (.aload_n 0, 1) := ckS_g gdX8_againstOnPaper_71 1 rfl
theorem dX8_againstOnPaper_73 : decode cX8_againstOnPaper 73 = .ok (.iload_n 2, 1) := ckS_g gdX8_againstOnPaper_71 2 rfl
theorem dX8_againstOnPaper_74 : decode cX8_againstOnPaper 74 = .ok (.invokestatic 70, 3) := ckS_g gdX8_againstOnPaper_71 3 rfl
set_option maxRecDepth 100000 in
theorem zc444 : wZ (.selects RX5 yX5_needsPlace yX5_needsPlace) := ⟨wT2 (List.mem_of_getElem? (i := 133) (by decide +kernel)), Or.inl rfl⟩
set_option maxRecDepth 100000 in
theorem zc445 : wZ (.instanceMethod yX5_needsPlace) := ⟨wT2 (List.mem_of_getElem? (i := 132) (by decide +kernel)), Or.inl rfl⟩
set_option maxRecDepth 100000 in
theorem zc446 : wZ (.methodLink RX8 184 yX5_needsPlace) := ⟨wT2 (List.mem_of_getElem? (i := 131) (by decide +kernel)), Or.inl rfl⟩
set_option maxRecDepth 100000 in
theorem zc447 : wZ (.methodLink RX8 166 yX0_placeAt) := ⟨wT2 (List.mem_of_getElem? (i := 114) (by decide +kernel)), Or.inl rfl⟩
set_option maxRecDepth 100000 in
theorem zc448 : wZ (.code yX8_againstLay cX8_againstLay 5 (some .int)) := ⟨wT2 (List.mem_of_getElem? (i := 113) rfl), Or.inl rfl⟩
def b_Y8_againstLay_30 (S : Cst) (x0 : Nat) (x1 : Int32) (x2 : Option Nat) : Int32 := (11 : Int32)
def q_Y8_againstLay_30 (S : Cst) (x0 : Nat) (x1 : Int32) (x2 : Option Nat) : Prop := True
def b_Y8_againstLay_125 (S : Cst) (x0 : Nat) (x1 : Int32) (x2 : Option Nat) (x3 : Option Nat) (y0 : Int32) : Int32 := y0
def q_Y8_againstLay_125 (S : Cst) (x0 : Nat) (x1 : Int32) (x2 : Option Nat) (x3 : Option Nat) (y0 : Int32) : Prop := True
def b_Y8_againstLay_124 (S : Cst) (x0 : Nat) (x1 : Int32) (x2 : Option Nat) (x3 : Option Nat) : Int32 := (b_Y8_againstLay_125 S x0 x1 x2 x3 0)
def q_Y8_againstLay_124 (S : Cst) (x0 : Nat) (x1 : Int32) (x2 : Option Nat) (x3 : Option Nat) : Prop := (q_Y8_againstLay_125 S x0 x1 x2 x3 0)
def b_Y8_againstLay_101 (S : Cst) (x0 : Nat) (x1 : Int32) (x2 : Option Nat) (x3 : Option Nat) : Int32 := if (f_Y0_freePlaces S x0) = 1 then if (f_Y5_needsPlace S ((grC S x0 1).getD 0)) = 0 then (b_Y8_againstLay_124 S x0 x1 x2 x3) else (b_Y8_againstLay_125 S x0 x1 x2 x3 10) else (b_Y8_againstLay_124 S x0 x1 x2 x3)
def q_Y8_againstLay_101 (S : Cst) (x0 : Nat) (x1 : Int32) (x2 : Option Nat) (x3 : Option Nat) : Prop := (p_Y0_freePlaces S x0) ∧ (if (f_Y0_freePlaces S x0) = 1 then (iR S (grC S x0 1) 4) ∧ (p_Y5_needsPlace S ((grC S x0 1).getD 0)) ∧ (if (f_Y5_needsPlace S ((grC S x0 1).getD 0)) = 0 then (q_Y8_againstLay_124 S x0 x1 x2 x3) else (q_Y8_againstLay_125 S x0 x1 x2 x3 10)) else (q_Y8_againstLay_124 S x0 x1 x2 x3))
def b_Y8_againstLay_82 (S : Cst) (x0 : Nat) (x1 : Int32) (x2 : Option Nat) (x3 : Option Nat) (x4 : Option Nat) : Int32 := (1 : Int32)
def q_Y8_againstLay_82 (S : Cst) (x0 : Nat) (x1 : Int32) (x2 : Option Nat) (x3 : Option Nat) (x4 : Option Nat) : Prop := True
def b_Y8_againstLay_79a (S : Cst) (x0 : Nat) (x1 : Int32) (x2 : Option Nat) (x3 : Option Nat) (x4 : Option Nat) (y0 : Int32) : Int32 := if y0 = 0 then (b_Y8_againstLay_82 S x0 x1 x2 x3 x4) else if (giC S (x3.getD 0) 9) ≤ (giC S ((grC S (x4.getD 0) 12).getD 0) 1) then (b_Y8_againstLay_101 S x0 x1 x2 x3) else (5 : Int32)
def q_Y8_againstLay_79a (S : Cst) (x0 : Nat) (x1 : Int32) (x2 : Option Nat) (x3 : Option Nat) (x4 : Option Nat) (y0 : Int32) : Prop := (if y0 = 0 then (q_Y8_againstLay_82 S x0 x1 x2 x3 x4) else (iR S x3 3) ∧ (iR S x4 3) ∧ (iR S (grC S (x4.getD 0) 12) 6) ∧ (if (giC S (x3.getD 0) 9) ≤ (giC S ((grC S (x4.getD 0) 12).getD 0) 1) then (q_Y8_againstLay_101 S x0 x1 x2 x3) else True))
def f_Y8_againstLay (S : Cst) (x0 : Nat) (x1 : Int32) : Int32 := if (f_Y0_placeAt S x0 x1) = none then (9 : Int32) else if (f_Y6_isEmpty S ((grC S x0 2).getD 0)) = 0 then if (f_Y6_isEmpty S ((f_Y0_placeAt S x0 x1).getD 0)) = 0 then (b_Y8_againstLay_30 S x0 x1 (f_Y0_placeAt S x0 x1)) else if (f_Y6_motion S ((grC S x0 2).getD 0)) = none then (b_Y8_againstLay_101 S x0 x1 (f_Y0_placeAt S x0 x1) (f_Y6_motion S ((grC S x0 2).getD 0))) else if (f_Y4_amends S ((f_Y6_motion S ((grC S x0 2).getD 0)).getD 0)) = 0 then (b_Y8_againstLay_101 S x0 x1 (f_Y0_placeAt S x0 x1) (f_Y6_motion S ((grC S x0 2).getD 0))) else if (giC S ((f_Y6_motion S ((grC S x0 2).getD 0)).getD 0) 10) = 0 then if (f_Y5_top S ((grC S x0 1).getD 0)) = none then (b_Y8_againstLay_82 S x0 x1 (f_Y0_placeAt S x0 x1) (f_Y6_motion S ((grC S x0 2).getD 0)) (f_Y5_top S ((grC S x0 1).getD 0))) else (b_Y8_againstLay_79a S x0 x1 (f_Y0_placeAt S x0 x1) (f_Y6_motion S ((grC S x0 2).getD 0)) (f_Y5_top S ((grC S x0 1).getD 0)) (f_Y4_canBeAbout S ((f_Y6_motion S ((grC S x0 2).getD 0)).getD 0) (f_Y5_top S ((grC S x0 1).getD 0)))) else (b_Y8_againstLay_101 S x0 x1 (f_Y0_placeAt S x0 x1) (f_Y6_motion S ((grC S x0 2).getD 0))) else (b_Y8_againstLay_30 S x0 x1 (f_Y0_placeAt S x0 x1))
def p_Y8_againstLay (S : Cst) (x0 : Nat) (x1 : Int32) : Prop := (p_Y0_placeAt S x0 x1) ∧ (if (f_Y0_placeAt S x0 x1) = none then True else (iR S (grC S x0 2) 5) ∧ (p_Y6_isEmpty S ((grC S x0 2).getD 0)) ∧ (if (f_Y6_isEmpty S ((grC S x0 2).getD 0)) = 0 then (iR S (f_Y0_placeAt S x0 x1) 5) ∧ (p_Y6_isEmpty S ((f_Y0_placeAt S x0 x1).getD 0)) ∧ (if (f_Y6_isEmpty S ((f_Y0_placeAt S x0 x1).getD 0)) = 0 then (q_Y8_againstLay_30 S x0 x1 (f_Y0_placeAt S x0 x1)) else (iR S (grC S x0 2) 5) ∧ (p_Y6_motion S ((grC S x0 2).getD 0)) ∧ (if (f_Y6_motion S ((grC S x0 2).getD 0)) = none then (q_Y8_againstLay_101 S x0 x1 (f_Y0_placeAt S x0 x1) (f_Y6_motion S ((grC S x0 2).getD 0))) else (iR S (f_Y6_motion S ((grC S x0 2).getD 0)) 3) ∧ (p_Y4_amends S ((f_Y6_motion S ((grC S x0 2).getD 0)).getD 0)) ∧ (if (f_Y4_amends S ((f_Y6_motion S ((grC S x0 2).getD 0)).getD 0)) = 0 then (q_Y8_againstLay_101 S x0 x1 (f_Y0_placeAt S x0 x1) (f_Y6_motion S ((grC S x0 2).getD 0))) else (iR S (f_Y6_motion S ((grC S x0 2).getD 0)) 3) ∧ (if (giC S ((f_Y6_motion S ((grC S x0 2).getD 0)).getD 0) 10) = 0 then (iR S (grC S x0 1) 4) ∧ (p_Y5_top S ((grC S x0 1).getD 0)) ∧ (if (f_Y5_top S ((grC S x0 1).getD 0)) = none then (q_Y8_againstLay_82 S x0 x1 (f_Y0_placeAt S x0 x1) (f_Y6_motion S ((grC S x0 2).getD 0)) (f_Y5_top S ((grC S x0 1).getD 0))) else (iR S (f_Y6_motion S ((grC S x0 2).getD 0)) 3) ∧ (p_Y4_canBeAbout S ((f_Y6_motion S ((grC S x0 2).getD 0)).getD 0) (f_Y5_top S ((grC S x0 1).getD 0))) ∧ (q_Y8_againstLay_79a S x0 x1 (f_Y0_placeAt S x0 x1) (f_Y6_motion S ((grC S x0 2).getD 0)) (f_Y5_top S ((grC S x0 1).getD 0)) (f_Y4_canBeAbout S ((f_Y6_motion S ((grC S x0 2).getD 0)).getD 0) (f_Y5_top S ((grC S x0 1).getD 0))))) else (q_Y8_againstLay_101 S x0 x1 (f_Y0_placeAt S x0 x1) (f_Y6_motion S ((grC S x0 2).getD 0))))))) else (q_Y8_againstLay_30 S x0 x1 (f_Y0_placeAt S x0 x1))))
def e_Y8_againstLay : List Cond := [.methodLink RX8 166 yX0_placeAt, .instanceMethod yX0_placeAt, .selects RX0 yX0_placeAt yX0_placeAt, .initialized RX0, .fieldLink RX8 141 "MotionFloor$Assembly" "draft" "LMotionFloor$Place;", .methodLink RX8 170 yX6_isEmpty, .instanceMethod yX6_isEmpty, .selects RX6 yX6_isEmpty yX6_isEmpty, .initialized RX6, .methodLink RX8 145 yX6_motion, .instanceMethod yX6_motion, .selects RX6 yX6_motion yX6_motion, .methodLink RX8 180 yX0_freePlaces, .instanceMethod yX0_freePlaces, .selects RX0 yX0_freePlaces yX0_freePlaces, .fieldLink RX8 86 "MotionFloor$Assembly" "pending" "LMotionFloor$Pile;", .methodLink RX8 184 yX5_needsPlace, .instanceMethod yX5_needsPlace, .selects RX5 yX5_needsPlace yX5_needsPlace, .initialized RX5, .methodLink RX8 150 yX4_amends, .instanceMethod yX4_amends, .selects RX4 yX4_amends yX4_amends, .initialized RX4, .fieldLink RX8 153 "MotionFloor$Motion" "laid" "Z", .methodLink RX8 90 yX5_top, .instanceMethod yX5_top, .selects RX5 yX5_top yX5_top, .methodLink RX8 173 yX4_canBeAbout, .instanceMethod yX4_canBeAbout, .selects RX4 yX4_canBeAbout yX4_canBeAbout, .fieldLink RX8 177 "MotionFloor$Motion" "to" "I", .fieldLink RX8 159 "MotionFloor$Motion" "text" "LMotionFloor$Text;", .fieldLink RX8 163 "MotionFloor$Text" "size" "I"]
def v_Y8_againstLay : List Cond := .code yX8_againstLay cX8_againstLay 5 (some .int) :: (e_Y8_againstLay ++ (wsX00 ++ (wsX40 ++ (wsX90 ++ (v_Y0_placeAt ++ (v_Y6_isEmpty ++ (v_Y6_motion ++ (v_Y0_freePlaces ++ (v_Y5_needsPlace ++ (v_Y4_amends ++ (v_Y5_top ++ (v_Y4_canBeAbout ++ []))))))))))))
theorem te_Y8_againstLay : GoodIn lw_tbl e_Y8_againstLay := wGc zc447 (wGc zc183 (wGc zc182 (wGc zc39 (wGc zc424 (wGc zc423 (wGc zc114 (wGc zc113 (wGc zc112 (wGc zc422 (wGc zc128 (wGc zc127 (wGc zc400 (wGc zc399 (wGc zc398 (wGc zc380 (wGc zc446 (wGc zc445 (wGc zc444 (wGc zc34 (wGc zc389 (wGc zc172 (wGc zc171 (wGc zc170 (wGc zc407 (wGc zc421 (wGc zc179 (wGc zc178 (wGc zc385 (wGc zc384 (wGc zc383 (wGc zc394 (wGc zc396 (wGc zc393 (wG0))))))))))))))))))))))))))))))))))
theorem t_Y8_againstLay : GoodIn lw_tbl v_Y8_againstLay := wGc zc448 (wGa te_Y8_againstLay (wGa zcX0 (wGa zcX4 (wGa zcX9 (wGa t_Y0_placeAt (wGa t_Y6_isEmpty (wGa t_Y6_motion (wGa t_Y0_freePlaces (wGa t_Y5_needsPlace (wGa t_Y4_amends (wGa t_Y5_top (wGa t_Y4_canBeAbout (wG0)))))))))))))
set_option maxHeartbeats 4000000 in
set_option maxRecDepth 100000 in
theorem c_Y8_againstLay (l : Launch) (G : va_G) (K : Nat → ClassId) (ad : Nat → Nat) (S : Cst) (x0 : Nat) (a1 : Int32) (sz : Nat) : Met l yX8_againstLay v_Y8_againstLay ({ frames := 2, cells := 0, slots := 0, locals := 43 }) (va_Pc [.ref (ad x0), .int a1] (cSt G K ad sz S (iK S x0 0 ∧ p_Y8_againstLay S x0 a1))) (va_Qi (fun (r : Int32) (u : Cst) => (r, u) = (f_Y8_againstLay S x0 a1, S)) (cBt G K ad (va_A (wsC K ad S) sz)) (va_A (wsC K ad S) sz)) 0 0 (va_A (wsC K ad S) sz) := by
  refine Met.ofW (cc := cX8_againstLay) (maxL := 5) (ret := (some .int)) (by decide) rfl ?_
  intro p e s m args below meth c s₁ B hml hv
  obtain ⟨rfl, ⟨hsz, hP, hK, hD0, hTE⟩, hp⟩ := hv
  obtain ⟨k_x0, hp⟩ := hp
  have hx := B.exec
  have hb := B.bytes
  have hr := B.returns
  have hts := atoms_spec (ws := v_Y8_againstLay) B.pre
  have t_ := t_Y8_againstLay
  have mw : ∀ w ∈ e_Y8_againstLay, w ∈ v_Y8_againstLay := fun w h => List.mem_cons_of_mem _ (List.mem_append_left _ h)
  have hw := fun w (h : w ∈ e_Y8_againstLay) => hts w (mw w h)
  have iX0 : ∀ w ∈ wsX00, w ∈ v_Y8_againstLay := fun w h => List.mem_cons_of_mem _ (List.mem_append_right _ (List.mem_append_left _ h))
  have iX4 : ∀ w ∈ wsX40, w ∈ v_Y8_againstLay := fun w h => List.mem_cons_of_mem _ (List.mem_append_right _ (List.mem_append_right _ (List.mem_append_left _ h)))
  have iX9 : ∀ w ∈ wsX90, w ∈ v_Y8_againstLay := fun w h => List.mem_cons_of_mem _ (List.mem_append_right _ (List.mem_append_right _ (List.mem_append_right _ (List.mem_append_left _ h))))
  have j_Y0_placeAt : ∀ w ∈ v_Y0_placeAt, w ∈ v_Y8_againstLay := fun w h => List.mem_cons_of_mem _ (List.mem_append_right _ (List.mem_append_right _ (List.mem_append_right _ (List.mem_append_right _ (List.mem_append_left _ h)))))
  have j_Y6_isEmpty : ∀ w ∈ v_Y6_isEmpty, w ∈ v_Y8_againstLay := fun w h => List.mem_cons_of_mem _ (List.mem_append_right _ (List.mem_append_right _ (List.mem_append_right _ (List.mem_append_right _ (List.mem_append_right _ (List.mem_append_left _ h))))))
  have j_Y6_motion : ∀ w ∈ v_Y6_motion, w ∈ v_Y8_againstLay := fun w h => List.mem_cons_of_mem _ (List.mem_append_right _ (List.mem_append_right _ (List.mem_append_right _ (List.mem_append_right _ (List.mem_append_right _ (List.mem_append_right _ (List.mem_append_left _ h)))))))
  have j_Y0_freePlaces : ∀ w ∈ v_Y0_freePlaces, w ∈ v_Y8_againstLay := fun w h => List.mem_cons_of_mem _ (List.mem_append_right _ (List.mem_append_right _ (List.mem_append_right _ (List.mem_append_right _ (List.mem_append_right _ (List.mem_append_right _ (List.mem_append_right _ (List.mem_append_left _ h))))))))
  have j_Y5_needsPlace : ∀ w ∈ v_Y5_needsPlace, w ∈ v_Y8_againstLay := fun w h => List.mem_cons_of_mem _ (List.mem_append_right _ (List.mem_append_right _ (List.mem_append_right _ (List.mem_append_right _ (List.mem_append_right _ (List.mem_append_right _ (List.mem_append_right _ (List.mem_append_right _ (List.mem_append_left _ h)))))))))
  have j_Y4_amends : ∀ w ∈ v_Y4_amends, w ∈ v_Y8_againstLay := fun w h => List.mem_cons_of_mem _ (List.mem_append_right _ (List.mem_append_right _ (List.mem_append_right _ (List.mem_append_right _ (List.mem_append_right _ (List.mem_append_right _ (List.mem_append_right _ (List.mem_append_right _ (List.mem_append_right _ (List.mem_append_left _ h))))))))))
  have j_Y5_top : ∀ w ∈ v_Y5_top, w ∈ v_Y8_againstLay := fun w h => List.mem_cons_of_mem _ (List.mem_append_right _ (List.mem_append_right _ (List.mem_append_right _ (List.mem_append_right _ (List.mem_append_right _ (List.mem_append_right _ (List.mem_append_right _ (List.mem_append_right _ (List.mem_append_right _ (List.mem_append_right _ (List.mem_append_left _ h)))))))))))
  have j_Y4_canBeAbout : ∀ w ∈ v_Y4_canBeAbout, w ∈ v_Y8_againstLay := fun w h => List.mem_cons_of_mem _ (List.mem_append_right _ (List.mem_append_right _ (List.mem_append_right _ (List.mem_append_right _ (List.mem_append_right _ (List.mem_append_right _ (List.mem_append_right _ (List.mem_append_right _ (List.mem_append_right _ (List.mem_append_right _ (List.mem_append_right _ (List.mem_append_left _ h))))))))))))
  have hown : s.vm.findClass RX8 = some m.cls := findClass_of_methodNamed B.named
  have hlocks := B.notSynchronized
  subst hsz
  have hD := hD0.self (sz := s.heap.size)
  generalize hAe : va_A (wsC K ad S) s.heap.size = A at hD ⊢
  have hA : ∀ q : Nat, s.heap.size ≤ q → A q := fun q h => by rw [← hAe]; exact Or.inr h
  have hS : va_S A s.heap s.heap [] := va_S.rf
  have hl : lv_has (lg_sl ([.ref (ad x0), .int a1]) ++ List.replicate (5 - (lg_sl ([.ref (ad x0), .int a1])).length) Slot.unset).toArray 5 [(0, .ref (ad x0)), (1, .int a1)] := by
    exact lv_entry ([.ref (ad x0), .int a1]) (n := 5) (Nat.le_of_ble_eq_true rfl)
  rw [lg_entry_eq]
  generalize (lg_sl ([.ref (ad x0), .int a1]) ++ List.replicate (5 - (lg_sl ([.ref (ad x0), .int a1])).length) Slot.unset).toArray = ls_ at hl ⊢
  refine wGen (fun Q hQ => ?_)
  obtain ⟨X, hX⟩ : ∃ X, f_Y8_againstLay S x0 a1 = X := ⟨_, rfl⟩
  have B_Y8_againstLay_30 : ∀ (x1 : Int32) (x2 : Option Nat) (H : Heap) (locs : List Loc) (ls_ : Array Slot), b_Y8_againstLay_30 S x0 x1 x2 = X → q_Y8_againstLay_30 S x0 x1 x2 → va_P G vwCl (wsC K ad S) H → va_D A (wsC K ad S) → va_S A s.heap H locs → lv_has ls_ 5 [(0, .ref (ad x0)), (1, .int x1), (2, va_re ad x2)] → W p l e ({ frames := 2, cells := 0, slots := 0, locals := 43 } : Room) s m #[Value.ref (ad x0), Value.int a1] below meth c H locs 0 0 Q (F0 m 30 ls_ []) := by
    intro x1 x2 H locs ls_ hE hp hP hD hS hl
    unfold b_Y8_againstLay_30 at hE
    unfold q_Y8_againstLay_30 at hp
    refine lv_bipush (v := 11) hx hb dX8_againstLay_30 (by decide) ?_
    subst hQ
    exact W.iret (v := (11 : Int32)) hx hb hr (fun t ht hW => ⟨⟨(11 : Int32), S, rfl, (pair_i (hE.trans hX.symm)), by rw [ht]; exact hP, hD⟩, hS.F ht⟩) hS.2.2 dX8_againstLay_32
  have B_Y8_againstLay_125 : ∀ (x1 : Int32) (x2 : Option Nat) (x3 : Option Nat) (y0 : Int32) (H : Heap) (locs : List Loc) (ls_ : Array Slot), b_Y8_againstLay_125 S x0 x1 x2 x3 y0 = X → q_Y8_againstLay_125 S x0 x1 x2 x3 y0 → va_P G vwCl (wsC K ad S) H → va_D A (wsC K ad S) → va_S A s.heap H locs → lv_has ls_ 5 [(0, .ref (ad x0)), (1, .int x1), (2, va_re ad x2), (3, va_re ad x3)] → W p l e ({ frames := 2, cells := 0, slots := 0, locals := 43 } : Room) s m #[Value.ref (ad x0), Value.int a1] below meth c H locs 0 0 Q (F0 m 125 ls_ [.int y0]) := by
    intro x1 x2 x3 y0 H locs ls_ hE hp hP hD hS hl
    unfold b_Y8_againstLay_125 at hE
    unfold q_Y8_againstLay_125 at hp
    subst hQ
    exact W.iret (v := y0) hx hb hr (fun t ht hW => ⟨⟨y0, S, rfl, (pair_i (hE.trans hX.symm)), by rw [ht]; exact hP, hD⟩, hS.F ht⟩) hS.2.2 dX8_againstLay_125
  have B_Y8_againstLay_124 : ∀ (x1 : Int32) (x2 : Option Nat) (x3 : Option Nat) (H : Heap) (locs : List Loc) (ls_ : Array Slot), b_Y8_againstLay_124 S x0 x1 x2 x3 = X → q_Y8_againstLay_124 S x0 x1 x2 x3 → va_P G vwCl (wsC K ad S) H → va_D A (wsC K ad S) → va_S A s.heap H locs → lv_has ls_ 5 [(0, .ref (ad x0)), (1, .int x1), (2, va_re ad x2), (3, va_re ad x3)] → W p l e ({ frames := 2, cells := 0, slots := 0, locals := 43 } : Room) s m #[Value.ref (ad x0), Value.int a1] below meth c H locs 0 0 Q (F0 m 124 ls_ []) := by
    intro x1 x2 x3 H locs ls_ hE hp hP hD hS hl
    unfold b_Y8_againstLay_124 at hE
    unfold q_Y8_againstLay_124 at hp
    refine lv_iconst (v := 0) hx hb dX8_againstLay_124 (by decide) ?_
    exact B_Y8_againstLay_125 x1 x2 x3 0 _ _ _ hE hp hP hD hS (lv_sub hl [0, 1, 2, 3] rfl)
  have B_Y8_againstLay_101 : ∀ (x1 : Int32) (x2 : Option Nat) (x3 : Option Nat) (H : Heap) (locs : List Loc) (ls_ : Array Slot), b_Y8_againstLay_101 S x0 x1 x2 x3 = X → q_Y8_againstLay_101 S x0 x1 x2 x3 → va_P G vwCl (wsC K ad S) H → va_D A (wsC K ad S) → va_S A s.heap H locs → lv_has ls_ 5 [(0, .ref (ad x0)), (1, .int x1), (2, va_re ad x2), (3, va_re ad x3)] → W p l e ({ frames := 2, cells := 0, slots := 0, locals := 43 } : Room) s m #[Value.ref (ad x0), Value.int a1] below meth c H locs 0 0 Q (F0 m 101 ls_ []) := by
    intro x1 x2 x3 H locs ls_ hE hp hP hD hS hl
    unfold b_Y8_againstLay_101 at hE
    unfold q_Y8_againstLay_101 at hp
    refine lv_aload_n hx hb dX8_againstLay_101 rfl (lv_at hl 0 rfl) ?_
    obtain ⟨hy20, hp⟩ := hp
    refine cGoi (va_runV (As := []) (rest := []) ⟨hx, hb, hml, hown, hts⟩ (c_Y0_freePlaces l G K ad S x0 _) (cwV 0 hts (wGV t_ (mw (.methodLink RX8 180 yX0_freePlaces) (List.mem_of_getElem? (i := 12) rfl)) (mw (.instanceMethod yX0_freePlaces) (List.mem_of_getElem? (i := 13) rfl)) (mw (.selects RX0 yX0_freePlaces yX0_freePlaces) (List.mem_of_getElem? (i := 14) rfl)) (mw (.initialized RX0) (List.mem_of_getElem? (i := 3) rfl)) j_Y0_freePlaces) rfl rfl rfl (by decide +kernel) ⟨Nat.le_of_ble_eq_true rfl, Nat.le_of_ble_eq_true rfl⟩) (cPV hK hTE hP hD 0 rfl (at_0 k_x0) ⟨k_x0, hy20⟩) rfl rfl hl.1 rfl (lv_room (Nat.le_of_ble_eq_true rfl)) dX8_againstLay_102 ⟨Nat.le_of_ble_eq_true rfl, Nat.le_of_ble_eq_true rfl⟩) hP hD hS hA (fun r22 u21 H locs hv hP hD hS => ?_)
    have h1 := congrArg Prod.fst hv
    have h2 := (congrArg Prod.snd hv).symm
    dsimp only at h1 h2
    subst h1
    subst h2
    refine lv_iconst (v := 1) hx hb dX8_againstLay_105 (by decide) ?_
    refine lv_icmp_ne (tgt := 124) hx hb dX8_againstLay_106 (by decide) (fun c23 => ?_) (fun c23 => ?_)
    · rw [if_neg c23] at hE hp
      exact B_Y8_againstLay_124 x1 x2 x3 _ _ _ hE hp hP hD hS (lv_sub hl [0, 1, 2, 3] rfl)
    · rw [if_pos c23] at hE hp
      refine lv_aload_n hx hb dX8_againstLay_109 rfl (lv_at hl 0 rfl) ?_
      refine va_get (D := G) (ci := 0) (v := va_re ad (grC S x0 1)) (C := RX0) (T := TX0) (N := 11) hx hb hts iX0 hown hK hP x0 (at_0 k_x0) rfl 1 (by decide) (hw (.fieldLink RX8 86 "MotionFloor$Assembly" "pending" "LMotionFloor$Pile;") (List.mem_of_getElem? (i := 15) rfl)) (fun _ h9 => h9) rfl dX8_againstLay_110 ?_
      obtain ⟨hy24, hp⟩ := hp
      refine cTop (r := (grC S x0 1)) hy24.1 ?_
      obtain ⟨hy25, hp⟩ := hp
      refine cGoi (va_runV (As := []) (rest := []) ⟨hx, hb, hml, hown, hts⟩ (c_Y5_needsPlace l G K ad S ((grC S x0 1).getD 0) _) (cwV 0 hts (wGV t_ (mw (.methodLink RX8 184 yX5_needsPlace) (List.mem_of_getElem? (i := 16) rfl)) (mw (.instanceMethod yX5_needsPlace) (List.mem_of_getElem? (i := 17) rfl)) (mw (.selects RX5 yX5_needsPlace yX5_needsPlace) (List.mem_of_getElem? (i := 18) rfl)) (mw (.initialized RX5) (List.mem_of_getElem? (i := 19) rfl)) j_Y5_needsPlace) rfl rfl rfl (by decide +kernel) ⟨Nat.le_of_ble_eq_true rfl, Nat.le_of_ble_eq_true rfl⟩) (cPV hK hTE hP hD 4 rfl (at_4 hy24.2) ⟨hy24.2, hy25⟩) rfl rfl hl.1 rfl (lv_room (Nat.le_of_ble_eq_true rfl)) dX8_againstLay_113 ⟨Nat.le_of_ble_eq_true rfl, Nat.le_of_ble_eq_true rfl⟩) hP hD hS hA (fun r27 u26 H locs hv hP hD hS => ?_)
      have h1 := congrArg Prod.fst hv
      have h2 := (congrArg Prod.snd hv).symm
      dsimp only at h1 h2
      subst h1
      subst h2
      refine lv_if_eq (tgt := 124) hx hb dX8_againstLay_116 (by decide) (fun c28 => ?_) (fun c28 => ?_)
      · rw [if_pos c28] at hE hp
        exact B_Y8_againstLay_124 x1 x2 x3 _ _ _ hE hp hP hD hS (lv_sub hl [0, 1, 2, 3] rfl)
      · rw [if_neg c28] at hE hp
        refine lv_bipush (v := 10) hx hb dX8_againstLay_119 (by decide) ?_
        refine lv_goto (tgt := 125) hx hb dX8_againstLay_121 (by decide) ?_
        exact B_Y8_againstLay_125 x1 x2 x3 10 _ _ _ hE hp hP hD hS (lv_sub hl [0, 1, 2, 3] rfl)
  have B_Y8_againstLay_82 : ∀ (x1 : Int32) (x2 : Option Nat) (x3 : Option Nat) (x4 : Option Nat) (H : Heap) (locs : List Loc) (ls_ : Array Slot), b_Y8_againstLay_82 S x0 x1 x2 x3 x4 = X → q_Y8_againstLay_82 S x0 x1 x2 x3 x4 → va_P G vwCl (wsC K ad S) H → va_D A (wsC K ad S) → va_S A s.heap H locs → lv_has ls_ 5 [(0, .ref (ad x0)), (1, .int x1), (2, va_re ad x2), (3, va_re ad x3), (4, va_re ad x4)] → W p l e ({ frames := 2, cells := 0, slots := 0, locals := 43 } : Room) s m #[Value.ref (ad x0), Value.int a1] below meth c H locs 0 0 Q (F0 m 82 ls_ []) := by
    intro x1 x2 x3 x4 H locs ls_ hE hp hP hD hS hl
    unfold b_Y8_againstLay_82 at hE
    unfold q_Y8_againstLay_82 at hp
    refine lv_iconst (v := 1) hx hb dX8_againstLay_82 (by decide) ?_
    subst hQ
    exact W.iret (v := (1 : Int32)) hx hb hr (fun t ht hW => ⟨⟨(1 : Int32), S, rfl, (pair_i (hE.trans hX.symm)), by rw [ht]; exact hP, hD⟩, hS.F ht⟩) hS.2.2 dX8_againstLay_83
  have B_Y8_againstLay_79a : ∀ (x1 : Int32) (x2 : Option Nat) (x3 : Option Nat) (x4 : Option Nat) (y0 : Int32) (H : Heap) (locs : List Loc) (ls_ : Array Slot), b_Y8_againstLay_79a S x0 x1 x2 x3 x4 y0 = X → q_Y8_againstLay_79a S x0 x1 x2 x3 x4 y0 → va_P G vwCl (wsC K ad S) H → va_D A (wsC K ad S) → va_S A s.heap H locs → lv_has ls_ 5 [(0, .ref (ad x0)), (1, .int x1), (2, va_re ad x2), (3, va_re ad x3), (4, va_re ad x4)] → W p l e ({ frames := 2, cells := 0, slots := 0, locals := 43 } : Room) s m #[Value.ref (ad x0), Value.int a1] below meth c H locs 0 0 Q (F0 m 79 ls_ [.int y0]) := by
    intro x1 x2 x3 x4 y0 H locs ls_ hE hp hP hD hS hl
    unfold b_Y8_againstLay_79a at hE
    unfold q_Y8_againstLay_79a at hp
    refine lv_if_ne (tgt := 84) hx hb dX8_againstLay_79 (by decide) (fun c45 => ?_) (fun c45 => ?_)
    · rw [if_neg c45] at hE hp
      refine cAload_n (ad := ad) (r := x3) hx hb dX8_againstLay_84 rfl (lv_at hl 3 rfl) ?_
      obtain ⟨hy46, hp⟩ := hp
      refine cTop (r := x3) hy46.1 ?_
      refine va_get (D := G) (ci := 3) (v := .int (giC S (x3.getD 0) 9)) (C := RX4) (T := TX4) (N := 16) hx hb hts iX4 hown hK hP (x3.getD 0) (at_3 hy46.2) rfl 9 (by decide) (hw (.fieldLink RX8 177 "MotionFloor$Motion" "to" "I") (List.mem_of_getElem? (i := 31) rfl)) (fun _ h9 => h9) rfl dX8_againstLay_85 ?_
      refine cAload (ad := ad) (r := x4) hx hb dX8_againstLay_88 (lv_at hl 4 rfl) ?_
      obtain ⟨hy47, hp⟩ := hp
      refine cTop (r := x4) hy47.1 ?_
      refine va_get (D := G) (ci := 3) (v := va_re ad (grC S (x4.getD 0) 12)) (C := RX4) (T := TX4) (N := 16) hx hb hts iX4 hown hK hP (x4.getD 0) (at_3 hy47.2) rfl 12 (by decide) (hw (.fieldLink RX8 159 "MotionFloor$Motion" "text" "LMotionFloor$Text;") (List.mem_of_getElem? (i := 32) rfl)) (fun _ h9 => h9) rfl dX8_againstLay_90 ?_
      obtain ⟨hy48, hp⟩ := hp
      refine cTop (r := (grC S (x4.getD 0) 12)) hy48.1 ?_
      refine va_get (D := G) (ci := 6) (v := .int (giC S ((grC S (x4.getD 0) 12).getD 0) 1)) (C := RX9) (T := TX9) (N := 2) hx hb hts iX9 hown hK hP ((grC S (x4.getD 0) 12).getD 0) (at_6 hy48.2) rfl 1 (by decide) (hw (.fieldLink RX8 163 "MotionFloor$Text" "size" "I") (List.mem_of_getElem? (i := 33) rfl)) (fun _ h9 => h9) rfl dX8_againstLay_93 ?_
      refine lv_icmp_le (tgt := 101) hx hb dX8_againstLay_96 (by decide) (fun c49 => ?_) (fun c49 => ?_)
      · rw [if_pos c49] at hE hp
        exact B_Y8_againstLay_101 x1 x2 x3 _ _ _ hE hp hP hD hS (lv_sub hl [0, 1, 2, 3] rfl)
      · rw [if_neg c49] at hE hp
        refine lv_iconst (v := 5) hx hb dX8_againstLay_99 (by decide) ?_
        subst hQ
        exact W.iret (v := (5 : Int32)) hx hb hr (fun t ht hW => ⟨⟨(5 : Int32), S, rfl, (pair_i (hE.trans hX.symm)), by rw [ht]; exact hP, hD⟩, hS.F ht⟩) hS.2.2 dX8_againstLay_100
    · rw [if_pos c45] at hE hp
      exact B_Y8_againstLay_82 x1 x2 x3 x4 _ _ _ hE hp hP hD hS (lv_sub hl [0, 1, 2, 3, 4] rfl)
  have B_M : ∀ (x1 : Int32) (H : Heap) (locs : List Loc) (ls_ : Array Slot), f_Y8_againstLay S x0 x1 = X → p_Y8_againstLay S x0 x1 → va_P G vwCl (wsC K ad S) H → va_D A (wsC K ad S) → va_S A s.heap H locs → lv_has ls_ 5 [(0, .ref (ad x0)), (1, .int x1)] → W p l e ({ frames := 2, cells := 0, slots := 0, locals := 43 } : Room) s m #[Value.ref (ad x0), Value.int a1] below meth c H locs 0 0 Q (F0 m 0 ls_ []) := by
    intro x1 H locs ls_ hE hp hP hD hS hl
    unfold f_Y8_againstLay at hE
    unfold p_Y8_againstLay at hp
    refine lv_aload_n hx hb dX8_againstLay_0 rfl (lv_at hl 0 rfl) ?_
    refine lv_iload_n hx hb dX8_againstLay_1 rfl (lv_at hl 1 rfl) ?_
    obtain ⟨hy1, hp⟩ := hp
    refine cGoq (va_runV (As := [.int x1]) (rest := []) ⟨hx, hb, hml, hown, hts⟩ (c_Y0_placeAt l G K ad S x0 x1 _) (cwV 1 hts (wGV t_ (mw (.methodLink RX8 166 yX0_placeAt) (List.mem_of_getElem? (i := 0) rfl)) (mw (.instanceMethod yX0_placeAt) (List.mem_of_getElem? (i := 1) rfl)) (mw (.selects RX0 yX0_placeAt yX0_placeAt) (List.mem_of_getElem? (i := 2) rfl)) (mw (.initialized RX0) (List.mem_of_getElem? (i := 3) rfl)) j_Y0_placeAt) rfl rfl rfl (by decide +kernel) ⟨Nat.le_of_ble_eq_true rfl, Nat.le_of_ble_eq_true rfl⟩) (cPV hK hTE hP hD 0 rfl (at_0 k_x0) ⟨k_x0, hy1⟩) rfl rfl hl.1 rfl (lv_room (Nat.le_of_ble_eq_true rfl)) dX8_againstLay_2 ⟨Nat.le_of_ble_eq_true rfl, Nat.le_of_ble_eq_true rfl⟩) hP hD hS hA (fun r3 u2 H locs hv hP hD hS => ?_)
    have h1 := congrArg Prod.fst hv
    have h2 := (congrArg Prod.snd hv).symm
    dsimp only at h1 h2
    subst h1
    subst h2
    refine cAstore_n (ad := ad) (r := (f_Y0_placeAt S x0 x1)) (i := 2) (lv' := [(2, va_re ad (f_Y0_placeAt S x0 x1)), (0, .ref (ad x0)), (1, .int x1)]) hx hb dX8_againstLay_5 rfl hl (by decide) rfl (fun ls_ hl => ?_)
    refine cAload_n (ad := ad) (r := (f_Y0_placeAt S x0 x1)) hx hb dX8_againstLay_6 rfl (lv_at hl 0 rfl) ?_
    refine cIfnonnull (ad := ad) (r := (f_Y0_placeAt S x0 x1)) (tgt := 13) hx hb dX8_againstLay_7 (by decide) (fun c4 => ?_) (fun c4 => ?_)
    · rw [if_pos c4] at hE hp
      refine lv_bipush (v := 9) hx hb dX8_againstLay_10 (by decide) ?_
      subst hQ
      exact W.iret (v := (9 : Int32)) hx hb hr (fun t ht hW => ⟨⟨(9 : Int32), S, rfl, (pair_i (hE.trans hX.symm)), by rw [ht]; exact hP, hD⟩, hS.F ht⟩) hS.2.2 dX8_againstLay_12
    · rw [if_neg c4] at hE hp
      refine lv_aload_n hx hb dX8_againstLay_13 rfl (lv_at hl 1 rfl) ?_
      refine va_get (D := G) (ci := 0) (v := va_re ad (grC S x0 2)) (C := RX0) (T := TX0) (N := 11) hx hb hts iX0 hown hK hP x0 (at_0 k_x0) rfl 2 (by decide) (hw (.fieldLink RX8 141 "MotionFloor$Assembly" "draft" "LMotionFloor$Place;") (List.mem_of_getElem? (i := 4) rfl)) (fun _ h9 => h9) rfl dX8_againstLay_14 ?_
      obtain ⟨hy5, hp⟩ := hp
      refine cTop (r := (grC S x0 2)) hy5.1 ?_
      obtain ⟨hy6, hp⟩ := hp
      refine cGoi (va_runV (As := []) (rest := []) ⟨hx, hb, hml, hown, hts⟩ (c_Y6_isEmpty l G K ad S ((grC S x0 2).getD 0) _) (cwV 0 hts (wGV t_ (mw (.methodLink RX8 170 yX6_isEmpty) (List.mem_of_getElem? (i := 5) rfl)) (mw (.instanceMethod yX6_isEmpty) (List.mem_of_getElem? (i := 6) rfl)) (mw (.selects RX6 yX6_isEmpty yX6_isEmpty) (List.mem_of_getElem? (i := 7) rfl)) (mw (.initialized RX6) (List.mem_of_getElem? (i := 8) rfl)) j_Y6_isEmpty) rfl rfl rfl (by decide +kernel) ⟨Nat.le_of_ble_eq_true rfl, Nat.le_of_ble_eq_true rfl⟩) (cPV hK hTE hP hD 5 rfl (at_5 hy5.2) ⟨hy5.2, hy6⟩) rfl rfl hl.1 rfl (lv_room (Nat.le_of_ble_eq_true rfl)) dX8_againstLay_17 ⟨Nat.le_of_ble_eq_true rfl, Nat.le_of_ble_eq_true rfl⟩) hP hD hS hA (fun r8 u7 H locs hv hP hD hS => ?_)
      have h1 := congrArg Prod.fst hv
      have h2 := (congrArg Prod.snd hv).symm
      dsimp only at h1 h2
      subst h1
      subst h2
      refine lv_if_ne (tgt := 30) hx hb dX8_againstLay_20 (by decide) (fun c9 => ?_) (fun c9 => ?_)
      · rw [if_neg c9] at hE hp
        exact B_Y8_againstLay_30 x1 (f_Y0_placeAt S x0 x1) _ _ _ hE hp hP hD hS (lv_sub hl [1, 2, 0] rfl)
      · rw [if_pos c9] at hE hp
        refine cAload_n (ad := ad) (r := (f_Y0_placeAt S x0 x1)) hx hb dX8_againstLay_23 rfl (lv_at hl 0 rfl) ?_
        obtain ⟨hy10, hp⟩ := hp
        refine cTop (r := (f_Y0_placeAt S x0 x1)) hy10.1 ?_
        obtain ⟨hy11, hp⟩ := hp
        refine cGoi (va_runV (As := []) (rest := []) ⟨hx, hb, hml, hown, hts⟩ (c_Y6_isEmpty l G K ad S ((f_Y0_placeAt S x0 x1).getD 0) _) (cwV 0 hts (wGV t_ (mw (.methodLink RX8 170 yX6_isEmpty) (List.mem_of_getElem? (i := 5) rfl)) (mw (.instanceMethod yX6_isEmpty) (List.mem_of_getElem? (i := 6) rfl)) (mw (.selects RX6 yX6_isEmpty yX6_isEmpty) (List.mem_of_getElem? (i := 7) rfl)) (mw (.initialized RX6) (List.mem_of_getElem? (i := 8) rfl)) j_Y6_isEmpty) rfl rfl rfl (by decide +kernel) ⟨Nat.le_of_ble_eq_true rfl, Nat.le_of_ble_eq_true rfl⟩) (cPV hK hTE hP hD 5 rfl (at_5 hy10.2) ⟨hy10.2, hy11⟩) rfl rfl hl.1 rfl (lv_room (Nat.le_of_ble_eq_true rfl)) dX8_againstLay_24 ⟨Nat.le_of_ble_eq_true rfl, Nat.le_of_ble_eq_true rfl⟩) hP hD hS hA (fun r13 u12 H locs hv hP hD hS => ?_)
        have h1 := congrArg Prod.fst hv
        have h2 := (congrArg Prod.snd hv).symm
        dsimp only at h1 h2
        subst h1
        subst h2
        refine lv_if_ne (tgt := 33) hx hb dX8_againstLay_27 (by decide) (fun c14 => ?_) (fun c14 => ?_)
        · rw [if_neg c14] at hE hp
          refine lv_aload_n hx hb dX8_againstLay_33 rfl (lv_at hl 1 rfl) ?_
          refine va_get (D := G) (ci := 0) (v := va_re ad (grC S x0 2)) (C := RX0) (T := TX0) (N := 11) hx hb hts iX0 hown hK hP x0 (at_0 k_x0) rfl 2 (by decide) (hw (.fieldLink RX8 141 "MotionFloor$Assembly" "draft" "LMotionFloor$Place;") (List.mem_of_getElem? (i := 4) rfl)) (fun _ h9 => h9) rfl dX8_againstLay_34 ?_
          obtain ⟨hy15, hp⟩ := hp
          refine cTop (r := (grC S x0 2)) hy15.1 ?_
          obtain ⟨hy16, hp⟩ := hp
          refine cGoq (va_runV (As := []) (rest := []) ⟨hx, hb, hml, hown, hts⟩ (c_Y6_motion l G K ad S ((grC S x0 2).getD 0) _) (cwV 0 hts (wGV t_ (mw (.methodLink RX8 145 yX6_motion) (List.mem_of_getElem? (i := 9) rfl)) (mw (.instanceMethod yX6_motion) (List.mem_of_getElem? (i := 10) rfl)) (mw (.selects RX6 yX6_motion yX6_motion) (List.mem_of_getElem? (i := 11) rfl)) (mw (.initialized RX6) (List.mem_of_getElem? (i := 8) rfl)) j_Y6_motion) rfl rfl rfl (by decide +kernel) ⟨Nat.le_of_ble_eq_true rfl, Nat.le_of_ble_eq_true rfl⟩) (cPV hK hTE hP hD 5 rfl (at_5 hy15.2) ⟨hy15.2, hy16⟩) rfl rfl hl.1 rfl (lv_room (Nat.le_of_ble_eq_true rfl)) dX8_againstLay_37 ⟨Nat.le_of_ble_eq_true rfl, Nat.le_of_ble_eq_true rfl⟩) hP hD hS hA (fun r18 u17 H locs hv hP hD hS => ?_)
          have h1 := congrArg Prod.fst hv
          have h2 := (congrArg Prod.snd hv).symm
          dsimp only at h1 h2
          subst h1
          subst h2
          refine cAstore_n (ad := ad) (r := (f_Y6_motion S ((grC S x0 2).getD 0))) (i := 3) (lv' := [(3, va_re ad (f_Y6_motion S ((grC S x0 2).getD 0))), (2, va_re ad (f_Y0_placeAt S x0 x1)), (0, .ref (ad x0)), (1, .int x1)]) hx hb dX8_againstLay_40 rfl hl (by decide) (by simp [List.filter, re_cat]) (fun ls_ hl => ?_)
          refine cAload_n (ad := ad) (r := (f_Y6_motion S ((grC S x0 2).getD 0))) hx hb dX8_againstLay_41 rfl (lv_at hl 0 rfl) ?_
          refine cIfnull (ad := ad) (r := (f_Y6_motion S ((grC S x0 2).getD 0))) (tgt := 101) hx hb dX8_againstLay_42 (by decide) (fun c19 => ?_) (fun c19 => ?_)
          · rw [if_pos c19] at hE hp
            exact B_Y8_againstLay_101 x1 (f_Y0_placeAt S x0 x1) (f_Y6_motion S ((grC S x0 2).getD 0)) _ _ _ hE hp hP hD hS (lv_sub hl [2, 3, 1, 0] rfl)
          · rw [if_neg c19] at hE hp
            refine cAload_n (ad := ad) (r := (f_Y6_motion S ((grC S x0 2).getD 0))) hx hb dX8_againstLay_45 rfl (lv_at hl 0 rfl) ?_
            obtain ⟨hy29, hp⟩ := hp
            refine cTop (r := (f_Y6_motion S ((grC S x0 2).getD 0))) hy29.1 ?_
            obtain ⟨hy30, hp⟩ := hp
            refine cGoi (va_runV (As := []) (rest := []) ⟨hx, hb, hml, hown, hts⟩ (c_Y4_amends l G K ad S ((f_Y6_motion S ((grC S x0 2).getD 0)).getD 0) _) (cwV 0 hts (wGV t_ (mw (.methodLink RX8 150 yX4_amends) (List.mem_of_getElem? (i := 20) rfl)) (mw (.instanceMethod yX4_amends) (List.mem_of_getElem? (i := 21) rfl)) (mw (.selects RX4 yX4_amends yX4_amends) (List.mem_of_getElem? (i := 22) rfl)) (mw (.initialized RX4) (List.mem_of_getElem? (i := 23) rfl)) j_Y4_amends) rfl rfl rfl (by decide +kernel) ⟨Nat.le_of_ble_eq_true rfl, Nat.le_of_ble_eq_true rfl⟩) (cPV hK hTE hP hD 3 rfl (at_3 hy29.2) ⟨hy29.2, hy30⟩) rfl rfl hl.1 rfl (lv_room (Nat.le_of_ble_eq_true rfl)) dX8_againstLay_46 ⟨Nat.le_of_ble_eq_true rfl, Nat.le_of_ble_eq_true rfl⟩) hP hD hS hA (fun r32 u31 H locs hv hP hD hS => ?_)
            have h1 := congrArg Prod.fst hv
            have h2 := (congrArg Prod.snd hv).symm
            dsimp only at h1 h2
            subst h1
            subst h2
            refine lv_if_eq (tgt := 101) hx hb dX8_againstLay_49 (by decide) (fun c33 => ?_) (fun c33 => ?_)
            · rw [if_pos c33] at hE hp
              exact B_Y8_againstLay_101 x1 (f_Y0_placeAt S x0 x1) (f_Y6_motion S ((grC S x0 2).getD 0)) _ _ _ hE hp hP hD hS (lv_sub hl [2, 3, 1, 0] rfl)
            · rw [if_neg c33] at hE hp
              refine cAload_n (ad := ad) (r := (f_Y6_motion S ((grC S x0 2).getD 0))) hx hb dX8_againstLay_52 rfl (lv_at hl 0 rfl) ?_
              obtain ⟨hy34, hp⟩ := hp
              refine cTop (r := (f_Y6_motion S ((grC S x0 2).getD 0))) hy34.1 ?_
              refine va_get (D := G) (ci := 3) (v := .int (giC S ((f_Y6_motion S ((grC S x0 2).getD 0)).getD 0) 10)) (C := RX4) (T := TX4) (N := 16) hx hb hts iX4 hown hK hP ((f_Y6_motion S ((grC S x0 2).getD 0)).getD 0) (at_3 hy34.2) rfl 10 (by decide) (hw (.fieldLink RX8 153 "MotionFloor$Motion" "laid" "Z") (List.mem_of_getElem? (i := 24) rfl)) (fun _ h9 => h9) rfl dX8_againstLay_53 ?_
              refine lv_if_ne (tgt := 101) hx hb dX8_againstLay_56 (by decide) (fun c35 => ?_) (fun c35 => ?_)
              · rw [if_neg c35] at hE hp
                exact B_Y8_againstLay_101 x1 (f_Y0_placeAt S x0 x1) (f_Y6_motion S ((grC S x0 2).getD 0)) _ _ _ hE hp hP hD hS (lv_sub hl [2, 3, 1, 0] rfl)
              · rw [if_pos c35] at hE hp
                refine lv_aload_n hx hb dX8_againstLay_59 rfl (lv_at hl 2 rfl) ?_
                refine va_get (D := G) (ci := 0) (v := va_re ad (grC S x0 1)) (C := RX0) (T := TX0) (N := 11) hx hb hts iX0 hown hK hP x0 (at_0 k_x0) rfl 1 (by decide) (hw (.fieldLink RX8 86 "MotionFloor$Assembly" "pending" "LMotionFloor$Pile;") (List.mem_of_getElem? (i := 15) rfl)) (fun _ h9 => h9) rfl dX8_againstLay_60 ?_
                obtain ⟨hy36, hp⟩ := hp
                refine cTop (r := (grC S x0 1)) hy36.1 ?_
                obtain ⟨hy37, hp⟩ := hp
                refine cGoq (va_runV (As := []) (rest := []) ⟨hx, hb, hml, hown, hts⟩ (c_Y5_top l G K ad S ((grC S x0 1).getD 0) _) (cwV 0 hts (wGV t_ (mw (.methodLink RX8 90 yX5_top) (List.mem_of_getElem? (i := 25) rfl)) (mw (.instanceMethod yX5_top) (List.mem_of_getElem? (i := 26) rfl)) (mw (.selects RX5 yX5_top yX5_top) (List.mem_of_getElem? (i := 27) rfl)) (mw (.initialized RX5) (List.mem_of_getElem? (i := 19) rfl)) j_Y5_top) rfl rfl rfl (by decide +kernel) ⟨Nat.le_of_ble_eq_true rfl, Nat.le_of_ble_eq_true rfl⟩) (cPV hK hTE hP hD 4 rfl (at_4 hy36.2) ⟨hy36.2, hy37⟩) rfl rfl hl.1 rfl (lv_room (Nat.le_of_ble_eq_true rfl)) dX8_againstLay_63 ⟨Nat.le_of_ble_eq_true rfl, Nat.le_of_ble_eq_true rfl⟩) hP hD hS hA (fun r39 u38 H locs hv hP hD hS => ?_)
                have h1 := congrArg Prod.fst hv
                have h2 := (congrArg Prod.snd hv).symm
                dsimp only at h1 h2
                subst h1
                subst h2
                refine cAstore (ad := ad) (r := (f_Y5_top S ((grC S x0 1).getD 0))) (i := 4) (lv' := [(4, va_re ad (f_Y5_top S ((grC S x0 1).getD 0))), (3, va_re ad (f_Y6_motion S ((grC S x0 2).getD 0))), (2, va_re ad (f_Y0_placeAt S x0 x1)), (0, .ref (ad x0)), (1, .int x1)]) hx hb dX8_againstLay_66 hl (by decide) (by simp [List.filter, re_cat]) (fun ls_ hl => ?_)
                refine cAload (ad := ad) (r := (f_Y5_top S ((grC S x0 1).getD 0))) hx hb dX8_againstLay_68 (lv_at hl 0 rfl) ?_
                refine cIfnull (ad := ad) (r := (f_Y5_top S ((grC S x0 1).getD 0))) (tgt := 82) hx hb dX8_againstLay_70 (by decide) (fun c40 => ?_) (fun c40 => ?_)
                · rw [if_pos c40] at hE hp
                  exact B_Y8_againstLay_82 x1 (f_Y0_placeAt S x0 x1) (f_Y6_motion S ((grC S x0 2).getD 0)) (f_Y5_top S ((grC S x0 1).getD 0)) _ _ _ hE hp hP hD hS (lv_sub hl [3, 4, 2, 1, 0] rfl)
                · rw [if_neg c40] at hE hp
                  refine cAload_n (ad := ad) (r := (f_Y6_motion S ((grC S x0 2).getD 0))) hx hb dX8_againstLay_73 rfl (lv_at hl 1 rfl) ?_
                  refine cAload (ad := ad) (r := (f_Y5_top S ((grC S x0 1).getD 0))) hx hb dX8_againstLay_74 (lv_at hl 0 rfl) ?_
                  obtain ⟨hy41, hp⟩ := hp
                  refine cTop2 (r := (f_Y6_motion S ((grC S x0 2).getD 0))) hy41.1 ?_
                  obtain ⟨hy42, hp⟩ := hp
                  refine cGoi (va_runV (As := [va_re ad (f_Y5_top S ((grC S x0 1).getD 0))]) (rest := []) ⟨hx, hb, hml, hown, hts⟩ (c_Y4_canBeAbout l G K ad S ((f_Y6_motion S ((grC S x0 2).getD 0)).getD 0) (f_Y5_top S ((grC S x0 1).getD 0)) _) (cwV 1 hts (wGV t_ (mw (.methodLink RX8 173 yX4_canBeAbout) (List.mem_of_getElem? (i := 28) rfl)) (mw (.instanceMethod yX4_canBeAbout) (List.mem_of_getElem? (i := 29) rfl)) (mw (.selects RX4 yX4_canBeAbout yX4_canBeAbout) (List.mem_of_getElem? (i := 30) rfl)) (mw (.initialized RX4) (List.mem_of_getElem? (i := 23) rfl)) j_Y4_canBeAbout) rfl rfl rfl (by decide +kernel) ⟨Nat.le_of_ble_eq_true rfl, Nat.le_of_ble_eq_true rfl⟩) (cPV hK hTE hP hD 3 rfl (at_3 hy41.2) ⟨hy41.2, hy42⟩) rfl rfl hl.1 rfl (lv_room (Nat.le_of_ble_eq_true rfl)) dX8_againstLay_76 ⟨Nat.le_of_ble_eq_true rfl, Nat.le_of_ble_eq_true rfl⟩) hP hD hS hA (fun r44 u43 H locs hv hP hD hS => ?_)
                  have h1 := congrArg Prod.fst hv
                  have h2 := (congrArg Prod.snd hv).symm
                  dsimp only at h1 h2
                  subst h1
                  subst h2
                  exact B_Y8_againstLay_79a x1 (f_Y0_placeAt S x0 x1) (f_Y6_motion S ((grC S x0 2).getD 0)) (f_Y5_top S ((grC S x0 1).getD 0)) (f_Y4_canBeAbout S ((f_Y6_motion S ((grC S x0 2).getD 0)).getD 0) (f_Y5_top S ((grC S x0 1).getD 0))) _ _ _ hE hp hP hD hS (lv_sub hl [3, 4, 2, 1, 0] rfl)
        · rw [if_pos c14] at hE hp
          exact B_Y8_againstLay_30 x1 (f_Y0_placeAt S x0 x1) _ _ _ hE hp hP hD hS (lv_sub hl [1, 2, 0] rfl)
  exact B_M a1 _ _ _ hX hp hP hD hS hl
theorem gdX8_againstOnPaper_77 : ckS (List.drop 77 cX8_againstOnPaper.data.toList) 77 [(77, .ireturn, 1), (78, .aload_n 0, 1), (79, .iload_n 2, 1), (80, .invokestatic 73, 3)] = true := by decide +kernel
theorem dX8_againstOnPaper_77 : decode cX8_againstOnPaper 77 = .ok (.ireturn, 1) := ckS_g gdX8_againstOnPaper_77 0 rfl
theorem dX8_againstOnPaper_78 : decode cX8_againstOnPaper 78 = .ok (.aload_n 0, 1) := ckS_g gdX8_againstOnPaper_77 1 rfl
theorem dX8_againstOnPaper_79 : decode cX8_againstOnPaper 79 = .ok (.iload_n 2, 1) := ckS_g gdX8_againstOnPaper_77 2 rfl
theorem dX8_againstOnPaper_80 : decode cX8_againstOnPaper 80 = .ok (.invokestatic 73, 3) := ckS_g gdX8_againstOnPaper_77 3 rfl
theorem gdX8_againstTake_0 : ckS (List.drop 0 cX8_againstTake.data.toList) 0 [(0, .aload_n 0, 1), (1, .iload_n 1, 1), (2, .invokevirtual 166, 3), (5, .astore_n 2, 1), (6, .aload_n 2, 1), (7, .ifnonnull 6, 3), (10, .bipush 9, 2), (12, .ireturn, 1), (13, .aload_n 0, 1), (14, .getfield 141, 3), (17, .invokevirtual 170, 3), (20, .ifCond .eq 10, 3), (23, .aload_n 2, 1), (24, .invokevirtual 170, 3), (27, .ifCond .eq 8, 3), (30, .bipush 11, 2), (32, .goto 4, 3), (35, .iconst 0, 1), (36, .ireturn, 1)] = true := by decide +kernel
theorem dX8_againstTake_0 : decode cX8_againstTake 0 = .ok (.aload_n 0, 1) := ckS_g gdX8_againstTake_0 0 rfl
theorem dX8_againstTake_1 : decode cX8_againstTake 1 = .ok (.iload_n 1, 1) := ckS_g gdX8_againstTake_0 1 rfl
theorem dX8_againstTake_2 : decode cX8_againstTake 2 = .ok (.invokevirtual 166, 3) := ckS_g gdX8_againstTake_0 2 rfl
theorem dX8_againstTake_5 : decode cX8_againstTake 5 = .ok (.astore_n 2, 1) := ckS_g gdX8_againstTake_0 3 rfl
theorem dX8_againstTake_6 : decode cX8_againstTake 6 = .ok (.aload_n 2, 1) := ckS_g gdX8_againstTake_0 4 rfl
theorem dX8_againstTake_7 : decode cX8_againstTake 7 = .ok (.ifnonnull 6, 3) := ckS_g gdX8_againstTake_0 5 rfl
theorem dX8_againstTake_10 : decode cX8_againstTake 10 = .ok (.bipush 9, 2) := ckS_g gdX8_againstTake_0 6 rfl
theorem dX8_againstTake_12 : decode cX8_againstTake 12 = .ok (.ireturn, 1) := ckS_g gdX8_againstTake_0 7 rfl
theorem dX8_againstTake_13 : decode cX8_againstTake 13 = .ok (.aload_n 0, 1) := ckS_g gdX8_againstTake_0 8 rfl
theorem dX8_againstTake_14 : decode cX8_againstTake 14 = .ok (.getfield 141, 3) := ckS_g gdX8_againstTake_0 9 rfl
theorem dX8_againstTake_17 : decode cX8_againstTake 17 = .ok (.invokevirtual 170, 3) := ckS_g gdX8_againstTake_0 10 rfl
theorem dX8_againstTake_20 : decode cX8_againstTake 20 = .ok (.ifCond .eq 10, 3) := ckS_g gdX8_againstTake_0 11 rfl
theorem dX8_againstTake_23 : decode cX8_againstTake 23 = .ok (.aload_n 2, 1) := ckS_g gdX8_againstTake_0 12 rfl
theorem dX8_againstTake_24 : decode cX8_againstTake 24 = .ok (.invokevirtual 170, 3) := ckS_g gdX8_againstTake_0 13 rfl
theorem dX8_againstTake_27 : decode cX8_againstTake 27 = .ok (.ifCond .eq 8, 3) := ckS_g gdX8_againstTake_0 14 rfl
theorem dX8_againstTake_30 : decode cX8_againstTake 30 = .ok (.bipush 11, 2) := ckS_g gdX8_againstTake_0 15 rfl
theorem dX8_againstTake_32 : decode cX8_againstTake 32 = .ok (.goto 4, 3) := ckS_g gdX8_againstTake_0 16 rfl
theorem dX8_againstTake_35 : decode cX8_againstTake 35 = .ok (.iconst 0, 1) := ckS_g gdX8_againstTake_0 17 rfl
theorem dX8_againstTake_36 : decode cX8_againstTake 36 = .ok (.ireturn, 1) := ckS_g gdX8_againstTake_0 18 rfl
set_option maxRecDepth 100000 in
theorem zc449 : wZ (.code yX8_againstTake cX8_againstTake 3 (some .int)) := ⟨wT2 (List.mem_of_getElem? (i := 141) rfl), Or.inl rfl⟩
def b_Y8_againstTake_36 (S : Cst) (x0 : Nat) (x1 : Int32) (x2 : Option Nat) (y0 : Int32) : Int32 := y0
def q_Y8_againstTake_36 (S : Cst) (x0 : Nat) (x1 : Int32) (x2 : Option Nat) (y0 : Int32) : Prop := True
def b_Y8_againstTake_30 (S : Cst) (x0 : Nat) (x1 : Int32) (x2 : Option Nat) : Int32 := (b_Y8_againstTake_36 S x0 x1 x2 11)
def q_Y8_againstTake_30 (S : Cst) (x0 : Nat) (x1 : Int32) (x2 : Option Nat) : Prop := (q_Y8_againstTake_36 S x0 x1 x2 11)
def f_Y8_againstTake (S : Cst) (x0 : Nat) (x1 : Int32) : Int32 := if (f_Y0_placeAt S x0 x1) = none then (9 : Int32) else if (f_Y6_isEmpty S ((grC S x0 2).getD 0)) = 0 then (b_Y8_againstTake_30 S x0 x1 (f_Y0_placeAt S x0 x1)) else if (f_Y6_isEmpty S ((f_Y0_placeAt S x0 x1).getD 0)) = 0 then (b_Y8_againstTake_36 S x0 x1 (f_Y0_placeAt S x0 x1) 0) else (b_Y8_againstTake_30 S x0 x1 (f_Y0_placeAt S x0 x1))
def p_Y8_againstTake (S : Cst) (x0 : Nat) (x1 : Int32) : Prop := (p_Y0_placeAt S x0 x1) ∧ (if (f_Y0_placeAt S x0 x1) = none then True else (iR S (grC S x0 2) 5) ∧ (p_Y6_isEmpty S ((grC S x0 2).getD 0)) ∧ (if (f_Y6_isEmpty S ((grC S x0 2).getD 0)) = 0 then (q_Y8_againstTake_30 S x0 x1 (f_Y0_placeAt S x0 x1)) else (iR S (f_Y0_placeAt S x0 x1) 5) ∧ (p_Y6_isEmpty S ((f_Y0_placeAt S x0 x1).getD 0)) ∧ (if (f_Y6_isEmpty S ((f_Y0_placeAt S x0 x1).getD 0)) = 0 then (q_Y8_againstTake_36 S x0 x1 (f_Y0_placeAt S x0 x1) 0) else (q_Y8_againstTake_30 S x0 x1 (f_Y0_placeAt S x0 x1)))))
def e_Y8_againstTake : List Cond := [.methodLink RX8 166 yX0_placeAt, .instanceMethod yX0_placeAt, .selects RX0 yX0_placeAt yX0_placeAt, .initialized RX0, .fieldLink RX8 141 "MotionFloor$Assembly" "draft" "LMotionFloor$Place;", .methodLink RX8 170 yX6_isEmpty, .instanceMethod yX6_isEmpty, .selects RX6 yX6_isEmpty yX6_isEmpty, .initialized RX6]
def v_Y8_againstTake : List Cond := .code yX8_againstTake cX8_againstTake 3 (some .int) :: (e_Y8_againstTake ++ (wsX00 ++ (v_Y0_placeAt ++ (v_Y6_isEmpty ++ []))))
theorem te_Y8_againstTake : GoodIn lw_tbl e_Y8_againstTake := wGc zc447 (wGc zc183 (wGc zc182 (wGc zc39 (wGc zc424 (wGc zc423 (wGc zc114 (wGc zc113 (wGc zc112 (wG0)))))))))
theorem t_Y8_againstTake : GoodIn lw_tbl v_Y8_againstTake := wGc zc449 (wGa te_Y8_againstTake (wGa zcX0 (wGa t_Y0_placeAt (wGa t_Y6_isEmpty (wG0)))))
set_option maxHeartbeats 4000000 in
set_option maxRecDepth 100000 in
theorem c_Y8_againstTake (l : Launch) (G : va_G) (K : Nat → ClassId) (ad : Nat → Nat) (S : Cst) (x0 : Nat) (a1 : Int32) (sz : Nat) : Met l yX8_againstTake v_Y8_againstTake ({ frames := 1, cells := 0, slots := 0, locals := 21 }) (va_Pc [.ref (ad x0), .int a1] (cSt G K ad sz S (iK S x0 0 ∧ p_Y8_againstTake S x0 a1))) (va_Qi (fun (r : Int32) (u : Cst) => (r, u) = (f_Y8_againstTake S x0 a1, S)) (cBt G K ad (va_A (wsC K ad S) sz)) (va_A (wsC K ad S) sz)) 0 0 (va_A (wsC K ad S) sz) := by
  refine Met.ofW (cc := cX8_againstTake) (maxL := 3) (ret := (some .int)) (by decide) rfl ?_
  intro p e s m args below meth c s₁ B hml hv
  obtain ⟨rfl, ⟨hsz, hP, hK, hD0, hTE⟩, hp⟩ := hv
  obtain ⟨k_x0, hp⟩ := hp
  have hx := B.exec
  have hb := B.bytes
  have hr := B.returns
  have hts := atoms_spec (ws := v_Y8_againstTake) B.pre
  have t_ := t_Y8_againstTake
  have mw : ∀ w ∈ e_Y8_againstTake, w ∈ v_Y8_againstTake := fun w h => List.mem_cons_of_mem _ (List.mem_append_left _ h)
  have hw := fun w (h : w ∈ e_Y8_againstTake) => hts w (mw w h)
  have iX0 : ∀ w ∈ wsX00, w ∈ v_Y8_againstTake := fun w h => List.mem_cons_of_mem _ (List.mem_append_right _ (List.mem_append_left _ h))
  have j_Y0_placeAt : ∀ w ∈ v_Y0_placeAt, w ∈ v_Y8_againstTake := fun w h => List.mem_cons_of_mem _ (List.mem_append_right _ (List.mem_append_right _ (List.mem_append_left _ h)))
  have j_Y6_isEmpty : ∀ w ∈ v_Y6_isEmpty, w ∈ v_Y8_againstTake := fun w h => List.mem_cons_of_mem _ (List.mem_append_right _ (List.mem_append_right _ (List.mem_append_right _ (List.mem_append_left _ h))))
  have hown : s.vm.findClass RX8 = some m.cls := findClass_of_methodNamed B.named
  have hlocks := B.notSynchronized
  subst hsz
  have hD := hD0.self (sz := s.heap.size)
  generalize hAe : va_A (wsC K ad S) s.heap.size = A at hD ⊢
  have hA : ∀ q : Nat, s.heap.size ≤ q → A q := fun q h => by rw [← hAe]; exact Or.inr h
  have hS : va_S A s.heap s.heap [] := va_S.rf
  have hl : lv_has (lg_sl ([.ref (ad x0), .int a1]) ++ List.replicate (3 - (lg_sl ([.ref (ad x0), .int a1])).length) Slot.unset).toArray 3 [(0, .ref (ad x0)), (1, .int a1)] := by
    exact lv_entry ([.ref (ad x0), .int a1]) (n := 3) (Nat.le_of_ble_eq_true rfl)
  rw [lg_entry_eq]
  generalize (lg_sl ([.ref (ad x0), .int a1]) ++ List.replicate (3 - (lg_sl ([.ref (ad x0), .int a1])).length) Slot.unset).toArray = ls_ at hl ⊢
  refine wGen (fun Q hQ => ?_)
  obtain ⟨X, hX⟩ : ∃ X, f_Y8_againstTake S x0 a1 = X := ⟨_, rfl⟩
  have B_Y8_againstTake_36 : ∀ (x1 : Int32) (x2 : Option Nat) (y0 : Int32) (H : Heap) (locs : List Loc) (ls_ : Array Slot), b_Y8_againstTake_36 S x0 x1 x2 y0 = X → q_Y8_againstTake_36 S x0 x1 x2 y0 → va_P G vwCl (wsC K ad S) H → va_D A (wsC K ad S) → va_S A s.heap H locs → lv_has ls_ 3 [(0, .ref (ad x0)), (1, .int x1), (2, va_re ad x2)] → W p l e ({ frames := 1, cells := 0, slots := 0, locals := 21 } : Room) s m #[Value.ref (ad x0), Value.int a1] below meth c H locs 0 0 Q (F0 m 36 ls_ [.int y0]) := by
    intro x1 x2 y0 H locs ls_ hE hp hP hD hS hl
    unfold b_Y8_againstTake_36 at hE
    unfold q_Y8_againstTake_36 at hp
    subst hQ
    exact W.iret (v := y0) hx hb hr (fun t ht hW => ⟨⟨y0, S, rfl, (pair_i (hE.trans hX.symm)), by rw [ht]; exact hP, hD⟩, hS.F ht⟩) hS.2.2 dX8_againstTake_36
  have B_Y8_againstTake_30 : ∀ (x1 : Int32) (x2 : Option Nat) (H : Heap) (locs : List Loc) (ls_ : Array Slot), b_Y8_againstTake_30 S x0 x1 x2 = X → q_Y8_againstTake_30 S x0 x1 x2 → va_P G vwCl (wsC K ad S) H → va_D A (wsC K ad S) → va_S A s.heap H locs → lv_has ls_ 3 [(0, .ref (ad x0)), (1, .int x1), (2, va_re ad x2)] → W p l e ({ frames := 1, cells := 0, slots := 0, locals := 21 } : Room) s m #[Value.ref (ad x0), Value.int a1] below meth c H locs 0 0 Q (F0 m 30 ls_ []) := by
    intro x1 x2 H locs ls_ hE hp hP hD hS hl
    unfold b_Y8_againstTake_30 at hE
    unfold q_Y8_againstTake_30 at hp
    refine lv_bipush (v := 11) hx hb dX8_againstTake_30 (by decide) ?_
    refine lv_goto (tgt := 36) hx hb dX8_againstTake_32 (by decide) ?_
    exact B_Y8_againstTake_36 x1 x2 11 _ _ _ hE hp hP hD hS (lv_sub hl [0, 1, 2] rfl)
  have B_M : ∀ (x1 : Int32) (H : Heap) (locs : List Loc) (ls_ : Array Slot), f_Y8_againstTake S x0 x1 = X → p_Y8_againstTake S x0 x1 → va_P G vwCl (wsC K ad S) H → va_D A (wsC K ad S) → va_S A s.heap H locs → lv_has ls_ 3 [(0, .ref (ad x0)), (1, .int x1)] → W p l e ({ frames := 1, cells := 0, slots := 0, locals := 21 } : Room) s m #[Value.ref (ad x0), Value.int a1] below meth c H locs 0 0 Q (F0 m 0 ls_ []) := by
    intro x1 H locs ls_ hE hp hP hD hS hl
    unfold f_Y8_againstTake at hE
    unfold p_Y8_againstTake at hp
    refine lv_aload_n hx hb dX8_againstTake_0 rfl (lv_at hl 0 rfl) ?_
    refine lv_iload_n hx hb dX8_againstTake_1 rfl (lv_at hl 1 rfl) ?_
    obtain ⟨hy1, hp⟩ := hp
    refine cGoq (va_runV (As := [.int x1]) (rest := []) ⟨hx, hb, hml, hown, hts⟩ (c_Y0_placeAt l G K ad S x0 x1 _) (cwV 1 hts (wGV t_ (mw (.methodLink RX8 166 yX0_placeAt) (List.mem_of_getElem? (i := 0) rfl)) (mw (.instanceMethod yX0_placeAt) (List.mem_of_getElem? (i := 1) rfl)) (mw (.selects RX0 yX0_placeAt yX0_placeAt) (List.mem_of_getElem? (i := 2) rfl)) (mw (.initialized RX0) (List.mem_of_getElem? (i := 3) rfl)) j_Y0_placeAt) rfl rfl rfl (by decide +kernel) ⟨Nat.le_of_ble_eq_true rfl, Nat.le_of_ble_eq_true rfl⟩) (cPV hK hTE hP hD 0 rfl (at_0 k_x0) ⟨k_x0, hy1⟩) rfl rfl hl.1 rfl (lv_room (Nat.le_of_ble_eq_true rfl)) dX8_againstTake_2 ⟨Nat.le_of_ble_eq_true rfl, Nat.le_of_ble_eq_true rfl⟩) hP hD hS hA (fun r3 u2 H locs hv hP hD hS => ?_)
    have h1 := congrArg Prod.fst hv
    have h2 := (congrArg Prod.snd hv).symm
    dsimp only at h1 h2
    subst h1
    subst h2
    refine cAstore_n (ad := ad) (r := (f_Y0_placeAt S x0 x1)) (i := 2) (lv' := [(2, va_re ad (f_Y0_placeAt S x0 x1)), (0, .ref (ad x0)), (1, .int x1)]) hx hb dX8_againstTake_5 rfl hl (by decide) rfl (fun ls_ hl => ?_)
    refine cAload_n (ad := ad) (r := (f_Y0_placeAt S x0 x1)) hx hb dX8_againstTake_6 rfl (lv_at hl 0 rfl) ?_
    refine cIfnonnull (ad := ad) (r := (f_Y0_placeAt S x0 x1)) (tgt := 13) hx hb dX8_againstTake_7 (by decide) (fun c4 => ?_) (fun c4 => ?_)
    · rw [if_pos c4] at hE hp
      refine lv_bipush (v := 9) hx hb dX8_againstTake_10 (by decide) ?_
      subst hQ
      exact W.iret (v := (9 : Int32)) hx hb hr (fun t ht hW => ⟨⟨(9 : Int32), S, rfl, (pair_i (hE.trans hX.symm)), by rw [ht]; exact hP, hD⟩, hS.F ht⟩) hS.2.2 dX8_againstTake_12
    · rw [if_neg c4] at hE hp
      refine lv_aload_n hx hb dX8_againstTake_13 rfl (lv_at hl 1 rfl) ?_
      refine va_get (D := G) (ci := 0) (v := va_re ad (grC S x0 2)) (C := RX0) (T := TX0) (N := 11) hx hb hts iX0 hown hK hP x0 (at_0 k_x0) rfl 2 (by decide) (hw (.fieldLink RX8 141 "MotionFloor$Assembly" "draft" "LMotionFloor$Place;") (List.mem_of_getElem? (i := 4) rfl)) (fun _ h9 => h9) rfl dX8_againstTake_14 ?_
      obtain ⟨hy5, hp⟩ := hp
      refine cTop (r := (grC S x0 2)) hy5.1 ?_
      obtain ⟨hy6, hp⟩ := hp
      refine cGoi (va_runV (As := []) (rest := []) ⟨hx, hb, hml, hown, hts⟩ (c_Y6_isEmpty l G K ad S ((grC S x0 2).getD 0) _) (cwV 0 hts (wGV t_ (mw (.methodLink RX8 170 yX6_isEmpty) (List.mem_of_getElem? (i := 5) rfl)) (mw (.instanceMethod yX6_isEmpty) (List.mem_of_getElem? (i := 6) rfl)) (mw (.selects RX6 yX6_isEmpty yX6_isEmpty) (List.mem_of_getElem? (i := 7) rfl)) (mw (.initialized RX6) (List.mem_of_getElem? (i := 8) rfl)) j_Y6_isEmpty) rfl rfl rfl (by decide +kernel) ⟨Nat.le_of_ble_eq_true rfl, Nat.le_of_ble_eq_true rfl⟩) (cPV hK hTE hP hD 5 rfl (at_5 hy5.2) ⟨hy5.2, hy6⟩) rfl rfl hl.1 rfl (lv_room (Nat.le_of_ble_eq_true rfl)) dX8_againstTake_17 ⟨Nat.le_of_ble_eq_true rfl, Nat.le_of_ble_eq_true rfl⟩) hP hD hS hA (fun r8 u7 H locs hv hP hD hS => ?_)
      have h1 := congrArg Prod.fst hv
      have h2 := (congrArg Prod.snd hv).symm
      dsimp only at h1 h2
      subst h1
      subst h2
      refine lv_if_eq (tgt := 30) hx hb dX8_againstTake_20 (by decide) (fun c9 => ?_) (fun c9 => ?_)
      · rw [if_pos c9] at hE hp
        exact B_Y8_againstTake_30 x1 (f_Y0_placeAt S x0 x1) _ _ _ hE hp hP hD hS (lv_sub hl [1, 2, 0] rfl)
      · rw [if_neg c9] at hE hp
        refine cAload_n (ad := ad) (r := (f_Y0_placeAt S x0 x1)) hx hb dX8_againstTake_23 rfl (lv_at hl 0 rfl) ?_
        obtain ⟨hy10, hp⟩ := hp
        refine cTop (r := (f_Y0_placeAt S x0 x1)) hy10.1 ?_
        obtain ⟨hy11, hp⟩ := hp
        refine cGoi (va_runV (As := []) (rest := []) ⟨hx, hb, hml, hown, hts⟩ (c_Y6_isEmpty l G K ad S ((f_Y0_placeAt S x0 x1).getD 0) _) (cwV 0 hts (wGV t_ (mw (.methodLink RX8 170 yX6_isEmpty) (List.mem_of_getElem? (i := 5) rfl)) (mw (.instanceMethod yX6_isEmpty) (List.mem_of_getElem? (i := 6) rfl)) (mw (.selects RX6 yX6_isEmpty yX6_isEmpty) (List.mem_of_getElem? (i := 7) rfl)) (mw (.initialized RX6) (List.mem_of_getElem? (i := 8) rfl)) j_Y6_isEmpty) rfl rfl rfl (by decide +kernel) ⟨Nat.le_of_ble_eq_true rfl, Nat.le_of_ble_eq_true rfl⟩) (cPV hK hTE hP hD 5 rfl (at_5 hy10.2) ⟨hy10.2, hy11⟩) rfl rfl hl.1 rfl (lv_room (Nat.le_of_ble_eq_true rfl)) dX8_againstTake_24 ⟨Nat.le_of_ble_eq_true rfl, Nat.le_of_ble_eq_true rfl⟩) hP hD hS hA (fun r13 u12 H locs hv hP hD hS => ?_)
        have h1 := congrArg Prod.fst hv
        have h2 := (congrArg Prod.snd hv).symm
        dsimp only at h1 h2
        subst h1
        subst h2
        refine lv_if_eq (tgt := 35) hx hb dX8_againstTake_27 (by decide) (fun c14 => ?_) (fun c14 => ?_)
        · rw [if_pos c14] at hE hp
          refine lv_iconst (v := 0) hx hb dX8_againstTake_35 (by decide) ?_
          exact B_Y8_againstTake_36 x1 (f_Y0_placeAt S x0 x1) 0 _ _ _ hE hp hP hD hS (lv_sub hl [1, 2, 0] rfl)
        · rw [if_neg c14] at hE hp
          exact B_Y8_againstTake_30 x1 (f_Y0_placeAt S x0 x1) _ _ _ hE hp hP hD hS (lv_sub hl [1, 2, 0] rfl)
  exact B_M a1 _ _ _ hX hp hP hD hS hl
theorem gdX8_againstOnPaper_83 : ckS (List.drop 83 cX8_againstOnPaper.data.toList) 83 [(83, .ireturn, 1), (84, .bipush 11, 2), (86, .ireturn, 1)] = true := by decide +kernel
theorem dX8_againstOnPaper_83 : decode cX8_againstOnPaper 83 = .ok (.ireturn, 1) := ckS_g gdX8_againstOnPaper_83 0 rfl
theorem dX8_againstOnPaper_84 : decode cX8_againstOnPaper 84 = .ok (.bipush 11, 2) := ckS_g gdX8_againstOnPaper_83 1 rfl
theorem dX8_againstOnPaper_86 : decode cX8_againstOnPaper 86 = .ok (.ireturn, 1) := ckS_g gdX8_againstOnPaper_83 2 rfl
set_option maxRecDepth 100000 in
theorem zc450 : wZ (.static yX8_againstTake) := ⟨wT2 (List.mem_of_getElem? (i := 140) (by decide +kernel)), Or.inl rfl⟩
set_option maxRecDepth 100000 in
theorem zc451 : wZ (.methodLink RX8 73 yX8_againstTake) := ⟨wT2 (List.mem_of_getElem? (i := 139) (by decide +kernel)), Or.inl rfl⟩
set_option maxRecDepth 100000 in
theorem zc452 : wZ (.static yX8_againstLay) := ⟨wT2 (List.mem_of_getElem? (i := 112) (by decide +kernel)), Or.inl rfl⟩
set_option maxRecDepth 100000 in
theorem zc453 : wZ (.methodLink RX8 70 yX8_againstLay) := ⟨wT2 (List.mem_of_getElem? (i := 111) (by decide +kernel)), Or.inl rfl⟩
set_option maxRecDepth 100000 in
theorem zc454 : wZ (.static yX8_againstWord) := ⟨wT2 (List.mem_of_getElem? (i := 106) (by decide +kernel)), Or.inl rfl⟩
set_option maxRecDepth 100000 in
theorem zc455 : wZ (.methodLink RX8 66 yX8_againstWord) := ⟨wT2 (List.mem_of_getElem? (i := 105) (by decide +kernel)), Or.inl rfl⟩
set_option maxRecDepth 100000 in
theorem zc456 : wZ (.static yX8_againstSpan) := ⟨wT2 (List.mem_of_getElem? (i := 94) (by decide +kernel)), Or.inl rfl⟩
set_option maxRecDepth 100000 in
theorem zc457 : wZ (.methodLink RX8 62 yX8_againstSpan) := ⟨wT2 (List.mem_of_getElem? (i := 93) (by decide +kernel)), Or.inl rfl⟩
set_option maxRecDepth 100000 in
theorem zc458 : wZ (.code yX8_againstOnPaper cX8_againstOnPaper 6 (some .int)) := ⟨wT2 (List.mem_of_getElem? (i := 92) rfl), Or.inl rfl⟩
def b_Y8_againstOnPaper_53 (S : Cst) (x0 : Nat) (x1 : Int32) (x2 : Int32) (x3 : Int32) (x4 : Int32) (x5 : Int32) (y0 : Int32) : Int32 := y0
def q_Y8_againstOnPaper_53 (S : Cst) (x0 : Nat) (x1 : Int32) (x2 : Int32) (x3 : Int32) (x4 : Int32) (x5 : Int32) (y0 : Int32) : Prop := True
def b_Y8_againstOnPaper_47 (S : Cst) (x0 : Nat) (x1 : Int32) (x2 : Int32) (x3 : Int32) (x4 : Int32) (x5 : Int32) : Int32 := (b_Y8_againstOnPaper_53 S x0 x1 x2 x3 x4 x5 9)
def q_Y8_againstOnPaper_47 (S : Cst) (x0 : Nat) (x1 : Int32) (x2 : Int32) (x3 : Int32) (x4 : Int32) (x5 : Int32) : Prop := (q_Y8_againstOnPaper_53 S x0 x1 x2 x3 x4 x5 9)
def f_Y8_againstOnPaper (S : Cst) (x0 : Nat) (x1 : Int32) (x2 : Int32) (x3 : Int32) (x4 : Int32) (x5 : Int32) : Int32 := if x1 = 10 then if x2 < 1 then (b_Y8_againstOnPaper_47 S x0 x1 x2 x3 x4 x5) else if x2 ≤ 8 then (b_Y8_againstOnPaper_53 S x0 x1 x2 x3 x4 x5 0) else (b_Y8_againstOnPaper_47 S x0 x1 x2 x3 x4 x5) else if x1 = 11 then (f_Y8_againstSpan S x0 x2 x3) else if x1 = 12 then (f_Y8_againstWord S x0 x2 x3 x4 x5) else if x1 = 13 then (f_Y8_againstLay S x0 x2) else if x1 = 14 then (f_Y8_againstTake S x0 x2) else (11 : Int32)
def p_Y8_againstOnPaper (S : Cst) (x0 : Nat) (x1 : Int32) (x2 : Int32) (x3 : Int32) (x4 : Int32) (x5 : Int32) : Prop := (if x1 = 10 then (if x2 < 1 then (q_Y8_againstOnPaper_47 S x0 x1 x2 x3 x4 x5) else (if x2 ≤ 8 then (q_Y8_againstOnPaper_53 S x0 x1 x2 x3 x4 x5 0) else (q_Y8_againstOnPaper_47 S x0 x1 x2 x3 x4 x5))) else (if x1 = 11 then (p_Y8_againstSpan S x0 x2 x3) ∧ True else (if x1 = 12 then (p_Y8_againstWord S x0 x2 x3 x4 x5) ∧ True else (if x1 = 13 then (p_Y8_againstLay S x0 x2) ∧ True else (if x1 = 14 then (p_Y8_againstTake S x0 x2) ∧ True else True)))))
def e_Y8_againstOnPaper : List Cond := [.methodLink RX8 62 yX8_againstSpan, .static yX8_againstSpan, .initialized RX8, .methodLink RX8 66 yX8_againstWord, .static yX8_againstWord, .methodLink RX8 70 yX8_againstLay, .static yX8_againstLay, .methodLink RX8 73 yX8_againstTake, .static yX8_againstTake]
def v_Y8_againstOnPaper : List Cond := .code yX8_againstOnPaper cX8_againstOnPaper 6 (some .int) :: (e_Y8_againstOnPaper ++ (v_Y8_againstSpan ++ (v_Y8_againstWord ++ (v_Y8_againstLay ++ (v_Y8_againstTake ++ [])))))
theorem te_Y8_againstOnPaper : GoodIn lw_tbl e_Y8_againstOnPaper := wGc zc457 (wGc zc456 (wGc zc373 (wGc zc455 (wGc zc454 (wGc zc453 (wGc zc452 (wGc zc451 (wGc zc450 (wG0)))))))))
theorem t_Y8_againstOnPaper : GoodIn lw_tbl v_Y8_againstOnPaper := wGc zc458 (wGa te_Y8_againstOnPaper (wGa t_Y8_againstSpan (wGa t_Y8_againstWord (wGa t_Y8_againstLay (wGa t_Y8_againstTake (wG0))))))
set_option maxHeartbeats 4000000 in
set_option maxRecDepth 100000 in
theorem c_Y8_againstOnPaper (l : Launch) (G : va_G) (K : Nat → ClassId) (ad : Nat → Nat) (S : Cst) (x0 : Nat) (a1 : Int32) (a2 : Int32) (a3 : Int32) (a4 : Int32) (a5 : Int32) (sz : Nat) : Met l yX8_againstOnPaper v_Y8_againstOnPaper ({ frames := 3, cells := 0, slots := 0, locals := 67 }) (va_Pc [.ref (ad x0), .int a1, .int a2, .int a3, .int a4, .int a5] (cSt G K ad sz S (iK S x0 0 ∧ p_Y8_againstOnPaper S x0 a1 a2 a3 a4 a5))) (va_Qi (fun (r : Int32) (u : Cst) => (r, u) = (f_Y8_againstOnPaper S x0 a1 a2 a3 a4 a5, S)) (cBt G K ad (va_A (wsC K ad S) sz)) (va_A (wsC K ad S) sz)) 0 0 (va_A (wsC K ad S) sz) := by
  refine Met.ofW (cc := cX8_againstOnPaper) (maxL := 6) (ret := (some .int)) (by decide) rfl ?_
  intro p e s m args below meth c s₁ B hml hv
  obtain ⟨rfl, ⟨hsz, hP, hK, hD0, hTE⟩, hp⟩ := hv
  obtain ⟨k_x0, hp⟩ := hp
  have hx := B.exec
  have hb := B.bytes
  have hr := B.returns
  have hts := atoms_spec (ws := v_Y8_againstOnPaper) B.pre
  have t_ := t_Y8_againstOnPaper
  have mw : ∀ w ∈ e_Y8_againstOnPaper, w ∈ v_Y8_againstOnPaper := fun w h => List.mem_cons_of_mem _ (List.mem_append_left _ h)
  have hw := fun w (h : w ∈ e_Y8_againstOnPaper) => hts w (mw w h)
  have j_Y8_againstSpan : ∀ w ∈ v_Y8_againstSpan, w ∈ v_Y8_againstOnPaper := fun w h => List.mem_cons_of_mem _ (List.mem_append_right _ (List.mem_append_left _ h))
  have j_Y8_againstWord : ∀ w ∈ v_Y8_againstWord, w ∈ v_Y8_againstOnPaper := fun w h => List.mem_cons_of_mem _ (List.mem_append_right _ (List.mem_append_right _ (List.mem_append_left _ h)))
  have j_Y8_againstLay : ∀ w ∈ v_Y8_againstLay, w ∈ v_Y8_againstOnPaper := fun w h => List.mem_cons_of_mem _ (List.mem_append_right _ (List.mem_append_right _ (List.mem_append_right _ (List.mem_append_left _ h))))
  have j_Y8_againstTake : ∀ w ∈ v_Y8_againstTake, w ∈ v_Y8_againstOnPaper := fun w h => List.mem_cons_of_mem _ (List.mem_append_right _ (List.mem_append_right _ (List.mem_append_right _ (List.mem_append_right _ (List.mem_append_left _ h)))))
  have hown : s.vm.findClass RX8 = some m.cls := findClass_of_methodNamed B.named
  have hlocks := B.notSynchronized
  subst hsz
  have hD := hD0.self (sz := s.heap.size)
  generalize hAe : va_A (wsC K ad S) s.heap.size = A at hD ⊢
  have hA : ∀ q : Nat, s.heap.size ≤ q → A q := fun q h => by rw [← hAe]; exact Or.inr h
  have hS : va_S A s.heap s.heap [] := va_S.rf
  have hl : lv_has (lg_sl ([.ref (ad x0), .int a1, .int a2, .int a3, .int a4, .int a5]) ++ List.replicate (6 - (lg_sl ([.ref (ad x0), .int a1, .int a2, .int a3, .int a4, .int a5])).length) Slot.unset).toArray 6 [(0, .ref (ad x0)), (1, .int a1), (2, .int a2), (3, .int a3), (4, .int a4), (5, .int a5)] := by
    exact lv_entry ([.ref (ad x0), .int a1, .int a2, .int a3, .int a4, .int a5]) (n := 6) (Nat.le_of_ble_eq_true rfl)
  rw [lg_entry_eq]
  generalize (lg_sl ([.ref (ad x0), .int a1, .int a2, .int a3, .int a4, .int a5]) ++ List.replicate (6 - (lg_sl ([.ref (ad x0), .int a1, .int a2, .int a3, .int a4, .int a5])).length) Slot.unset).toArray = ls_ at hl ⊢
  refine wGen (fun Q hQ => ?_)
  obtain ⟨X, hX⟩ : ∃ X, f_Y8_againstOnPaper S x0 a1 a2 a3 a4 a5 = X := ⟨_, rfl⟩
  have B_Y8_againstOnPaper_53 : ∀ (x1 : Int32) (x2 : Int32) (x3 : Int32) (x4 : Int32) (x5 : Int32) (y0 : Int32) (H : Heap) (locs : List Loc) (ls_ : Array Slot), b_Y8_againstOnPaper_53 S x0 x1 x2 x3 x4 x5 y0 = X → q_Y8_againstOnPaper_53 S x0 x1 x2 x3 x4 x5 y0 → va_P G vwCl (wsC K ad S) H → va_D A (wsC K ad S) → va_S A s.heap H locs → lv_has ls_ 6 [(0, .ref (ad x0)), (1, .int x1), (2, .int x2), (3, .int x3), (4, .int x4), (5, .int x5)] → W p l e ({ frames := 3, cells := 0, slots := 0, locals := 67 } : Room) s m #[Value.ref (ad x0), Value.int a1, Value.int a2, Value.int a3, Value.int a4, Value.int a5] below meth c H locs 0 0 Q (F0 m 53 ls_ [.int y0]) := by
    intro x1 x2 x3 x4 x5 y0 H locs ls_ hE hp hP hD hS hl
    unfold b_Y8_againstOnPaper_53 at hE
    unfold q_Y8_againstOnPaper_53 at hp
    subst hQ
    exact W.iret (v := y0) hx hb hr (fun t ht hW => ⟨⟨y0, S, rfl, (pair_i (hE.trans hX.symm)), by rw [ht]; exact hP, hD⟩, hS.F ht⟩) hS.2.2 dX8_againstOnPaper_53
  have B_Y8_againstOnPaper_47 : ∀ (x1 : Int32) (x2 : Int32) (x3 : Int32) (x4 : Int32) (x5 : Int32) (H : Heap) (locs : List Loc) (ls_ : Array Slot), b_Y8_againstOnPaper_47 S x0 x1 x2 x3 x4 x5 = X → q_Y8_againstOnPaper_47 S x0 x1 x2 x3 x4 x5 → va_P G vwCl (wsC K ad S) H → va_D A (wsC K ad S) → va_S A s.heap H locs → lv_has ls_ 6 [(0, .ref (ad x0)), (1, .int x1), (2, .int x2), (3, .int x3), (4, .int x4), (5, .int x5)] → W p l e ({ frames := 3, cells := 0, slots := 0, locals := 67 } : Room) s m #[Value.ref (ad x0), Value.int a1, Value.int a2, Value.int a3, Value.int a4, Value.int a5] below meth c H locs 0 0 Q (F0 m 47 ls_ []) := by
    intro x1 x2 x3 x4 x5 H locs ls_ hE hp hP hD hS hl
    unfold b_Y8_againstOnPaper_47 at hE
    unfold q_Y8_againstOnPaper_47 at hp
    refine lv_bipush (v := 9) hx hb dX8_againstOnPaper_47 (by decide) ?_
    refine lv_goto (tgt := 53) hx hb dX8_againstOnPaper_49 (by decide) ?_
    exact B_Y8_againstOnPaper_53 x1 x2 x3 x4 x5 9 _ _ _ hE hp hP hD hS (lv_sub hl [0, 1, 2, 3, 4, 5] rfl)
  have B_M : ∀ (x1 : Int32) (x2 : Int32) (x3 : Int32) (x4 : Int32) (x5 : Int32) (H : Heap) (locs : List Loc) (ls_ : Array Slot), f_Y8_againstOnPaper S x0 x1 x2 x3 x4 x5 = X → p_Y8_againstOnPaper S x0 x1 x2 x3 x4 x5 → va_P G vwCl (wsC K ad S) H → va_D A (wsC K ad S) → va_S A s.heap H locs → lv_has ls_ 6 [(0, .ref (ad x0)), (1, .int x1), (2, .int x2), (3, .int x3), (4, .int x4), (5, .int x5)] → W p l e ({ frames := 3, cells := 0, slots := 0, locals := 67 } : Room) s m #[Value.ref (ad x0), Value.int a1, Value.int a2, Value.int a3, Value.int a4, Value.int a5] below meth c H locs 0 0 Q (F0 m 0 ls_ []) := by
    intro x1 x2 x3 x4 x5 H locs ls_ hE hp hP hD hS hl
    unfold f_Y8_againstOnPaper at hE
    unfold p_Y8_againstOnPaper at hp
    refine lv_iload_n hx hb dX8_againstOnPaper_0 rfl (lv_at hl 1 rfl) ?_
    by_cases s10 : x1 = 10
    · rw [if_pos s10] at hE hp
      refine lv_tableIn (off := 35) (tgt := 36) hx hb dX8_againstOnPaper_1 (by rw [s10]; decide) (by rw [s10]; decide) (by rw [s10]; decide) (by decide) ?_
      refine lv_iload_n hx hb dX8_againstOnPaper_36 rfl (lv_at hl 2 rfl) ?_
      refine lv_iconst (v := 1) hx hb dX8_againstOnPaper_37 (by decide) ?_
      refine lv_icmp_lt (tgt := 47) hx hb dX8_againstOnPaper_38 (by decide) (fun c1 => ?_) (fun c1 => ?_)
      · rw [if_pos c1] at hE hp
        exact B_Y8_againstOnPaper_47 x1 x2 x3 x4 x5 _ _ _ hE hp hP hD hS (lv_sub hl [0, 1, 2, 3, 4, 5] rfl)
      · rw [if_neg c1] at hE hp
        refine lv_iload_n hx hb dX8_againstOnPaper_41 rfl (lv_at hl 2 rfl) ?_
        refine lv_bipush (v := 8) hx hb dX8_againstOnPaper_42 (by decide) ?_
        refine lv_icmp_le (tgt := 52) hx hb dX8_againstOnPaper_44 (by decide) (fun c2 => ?_) (fun c2 => ?_)
        · rw [if_pos c2] at hE hp
          refine lv_iconst (v := 0) hx hb dX8_againstOnPaper_52 (by decide) ?_
          exact B_Y8_againstOnPaper_53 x1 x2 x3 x4 x5 0 _ _ _ hE hp hP hD hS (lv_sub hl [0, 1, 2, 3, 4, 5] rfl)
        · rw [if_neg c2] at hE hp
          exact B_Y8_againstOnPaper_47 x1 x2 x3 x4 x5 _ _ _ hE hp hP hD hS (lv_sub hl [0, 1, 2, 3, 4, 5] rfl)
    rw [if_neg s10] at hE hp
    have s10 := wNe (b := 10) rfl (by decide) s10
    by_cases s11 : x1 = 11
    · rw [if_pos s11] at hE hp
      refine lv_tableIn (off := 53) (tgt := 54) hx hb dX8_againstOnPaper_1 (by rw [s11]; decide) (by rw [s11]; decide) (by rw [s11]; decide) (by decide) ?_
      refine lv_aload_n hx hb dX8_againstOnPaper_54 rfl (lv_at hl 0 rfl) ?_
      refine lv_iload_n hx hb dX8_againstOnPaper_55 rfl (lv_at hl 2 rfl) ?_
      refine lv_iload_n hx hb dX8_againstOnPaper_56 rfl (lv_at hl 3 rfl) ?_
      obtain ⟨hy3, hp⟩ := hp
      refine cGoi (va_runS (As := [.ref (ad x0), .int x2, .int x3]) (rest := []) ⟨hx, hb, hml, hown, hts⟩ (c_Y8_againstSpan l G K ad S x0 x2 x3 _) (va_cwS 3 hts (wGS t_ (mw (.methodLink RX8 62 yX8_againstSpan) (List.mem_of_getElem? (i := 0) rfl)) (mw (.static yX8_againstSpan) (List.mem_of_getElem? (i := 1) rfl)) (mw (.initialized RX8) (List.mem_of_getElem? (i := 2) rfl)) j_Y8_againstSpan) rfl rfl rfl (by decide +kernel) ⟨Nat.le_of_ble_eq_true rfl, Nat.le_of_ble_eq_true rfl⟩) (cPS hK hTE hP hD ⟨k_x0, hy3⟩) rfl rfl hl.1 rfl (lv_room (Nat.le_of_ble_eq_true rfl)) dX8_againstOnPaper_57 ⟨Nat.le_of_ble_eq_true rfl, Nat.le_of_ble_eq_true rfl⟩) hP hD hS hA (fun r5 u4 H locs hv hP hD hS => ?_)
      have h1 := congrArg Prod.fst hv
      have h2 := (congrArg Prod.snd hv).symm
      dsimp only at h1 h2
      subst h1
      subst h2
      subst hQ
      exact W.iret (v := (f_Y8_againstSpan S x0 x2 x3)) hx hb hr (fun t ht hW => ⟨⟨(f_Y8_againstSpan S x0 x2 x3), S, rfl, (pair_i (hE.trans hX.symm)), by rw [ht]; exact hP, hD⟩, hS.F ht⟩) hS.2.2 dX8_againstOnPaper_60
    rw [if_neg s11] at hE hp
    have s11 := wNe (b := 11) rfl (by decide) s11
    by_cases s12 : x1 = 12
    · rw [if_pos s12] at hE hp
      refine lv_tableIn (off := 60) (tgt := 61) hx hb dX8_againstOnPaper_1 (by rw [s12]; decide) (by rw [s12]; decide) (by rw [s12]; decide) (by decide) ?_
      refine lv_aload_n hx hb dX8_againstOnPaper_61 rfl (lv_at hl 0 rfl) ?_
      refine lv_iload_n hx hb dX8_againstOnPaper_62 rfl (lv_at hl 2 rfl) ?_
      refine lv_iload_n hx hb dX8_againstOnPaper_63 rfl (lv_at hl 3 rfl) ?_
      refine lv_iload hx hb dX8_againstOnPaper_64 (lv_at hl 4 rfl) ?_
      refine lv_iload hx hb dX8_againstOnPaper_66 (lv_at hl 5 rfl) ?_
      obtain ⟨hy6, hp⟩ := hp
      refine cGoi (va_runS (As := [.ref (ad x0), .int x2, .int x3, .int x4, .int x5]) (rest := []) ⟨hx, hb, hml, hown, hts⟩ (c_Y8_againstWord l G K ad S x0 x2 x3 x4 x5 _) (va_cwS 5 hts (wGS t_ (mw (.methodLink RX8 66 yX8_againstWord) (List.mem_of_getElem? (i := 3) rfl)) (mw (.static yX8_againstWord) (List.mem_of_getElem? (i := 4) rfl)) (mw (.initialized RX8) (List.mem_of_getElem? (i := 2) rfl)) j_Y8_againstWord) rfl rfl rfl (by decide +kernel) ⟨Nat.le_of_ble_eq_true rfl, Nat.le_of_ble_eq_true rfl⟩) (cPS hK hTE hP hD ⟨k_x0, hy6⟩) rfl rfl hl.1 rfl (lv_room (Nat.le_of_ble_eq_true rfl)) dX8_againstOnPaper_68 ⟨Nat.le_of_ble_eq_true rfl, Nat.le_of_ble_eq_true rfl⟩) hP hD hS hA (fun r8 u7 H locs hv hP hD hS => ?_)
      have h1 := congrArg Prod.fst hv
      have h2 := (congrArg Prod.snd hv).symm
      dsimp only at h1 h2
      subst h1
      subst h2
      subst hQ
      exact W.iret (v := (f_Y8_againstWord S x0 x2 x3 x4 x5)) hx hb hr (fun t ht hW => ⟨⟨(f_Y8_againstWord S x0 x2 x3 x4 x5), S, rfl, (pair_i (hE.trans hX.symm)), by rw [ht]; exact hP, hD⟩, hS.F ht⟩) hS.2.2 dX8_againstOnPaper_71
    rw [if_neg s12] at hE hp
    have s12 := wNe (b := 12) rfl (by decide) s12
    by_cases s13 : x1 = 13
    · rw [if_pos s13] at hE hp
      refine lv_tableIn (off := 71) (tgt := 72) hx hb dX8_againstOnPaper_1 (by rw [s13]; decide) (by rw [s13]; decide) (by rw [s13]; decide) (by decide) ?_
      refine lv_aload_n hx hb dX8_againstOnPaper_72 rfl (lv_at hl 0 rfl) ?_
      refine lv_iload_n hx hb dX8_againstOnPaper_73 rfl (lv_at hl 2 rfl) ?_
      obtain ⟨hy9, hp⟩ := hp
      refine cGoi (va_runS (As := [.ref (ad x0), .int x2]) (rest := []) ⟨hx, hb, hml, hown, hts⟩ (c_Y8_againstLay l G K ad S x0 x2 _) (va_cwS 2 hts (wGS t_ (mw (.methodLink RX8 70 yX8_againstLay) (List.mem_of_getElem? (i := 5) rfl)) (mw (.static yX8_againstLay) (List.mem_of_getElem? (i := 6) rfl)) (mw (.initialized RX8) (List.mem_of_getElem? (i := 2) rfl)) j_Y8_againstLay) rfl rfl rfl (by decide +kernel) ⟨Nat.le_of_ble_eq_true rfl, Nat.le_of_ble_eq_true rfl⟩) (cPS hK hTE hP hD ⟨k_x0, hy9⟩) rfl rfl hl.1 rfl (lv_room (Nat.le_of_ble_eq_true rfl)) dX8_againstOnPaper_74 ⟨Nat.le_of_ble_eq_true rfl, Nat.le_of_ble_eq_true rfl⟩) hP hD hS hA (fun r11 u10 H locs hv hP hD hS => ?_)
      have h1 := congrArg Prod.fst hv
      have h2 := (congrArg Prod.snd hv).symm
      dsimp only at h1 h2
      subst h1
      subst h2
      subst hQ
      exact W.iret (v := (f_Y8_againstLay S x0 x2)) hx hb hr (fun t ht hW => ⟨⟨(f_Y8_againstLay S x0 x2), S, rfl, (pair_i (hE.trans hX.symm)), by rw [ht]; exact hP, hD⟩, hS.F ht⟩) hS.2.2 dX8_againstOnPaper_77
    rw [if_neg s13] at hE hp
    have s13 := wNe (b := 13) rfl (by decide) s13
    by_cases s14 : x1 = 14
    · rw [if_pos s14] at hE hp
      refine lv_tableIn (off := 77) (tgt := 78) hx hb dX8_againstOnPaper_1 (by rw [s14]; decide) (by rw [s14]; decide) (by rw [s14]; decide) (by decide) ?_
      refine lv_aload_n hx hb dX8_againstOnPaper_78 rfl (lv_at hl 0 rfl) ?_
      refine lv_iload_n hx hb dX8_againstOnPaper_79 rfl (lv_at hl 2 rfl) ?_
      obtain ⟨hy12, hp⟩ := hp
      refine cGoi (va_runS (As := [.ref (ad x0), .int x2]) (rest := []) ⟨hx, hb, hml, hown, hts⟩ (c_Y8_againstTake l G K ad S x0 x2 _) (va_cwS 2 hts (wGS t_ (mw (.methodLink RX8 73 yX8_againstTake) (List.mem_of_getElem? (i := 7) rfl)) (mw (.static yX8_againstTake) (List.mem_of_getElem? (i := 8) rfl)) (mw (.initialized RX8) (List.mem_of_getElem? (i := 2) rfl)) j_Y8_againstTake) rfl rfl rfl (by decide +kernel) ⟨Nat.le_of_ble_eq_true rfl, Nat.le_of_ble_eq_true rfl⟩) (cPS hK hTE hP hD ⟨k_x0, hy12⟩) rfl rfl hl.1 rfl (lv_room (Nat.le_of_ble_eq_true rfl)) dX8_againstOnPaper_80 ⟨Nat.le_of_ble_eq_true rfl, Nat.le_of_ble_eq_true rfl⟩) hP hD hS hA (fun r14 u13 H locs hv hP hD hS => ?_)
      have h1 := congrArg Prod.fst hv
      have h2 := (congrArg Prod.snd hv).symm
      dsimp only at h1 h2
      subst h1
      subst h2
      subst hQ
      exact W.iret (v := (f_Y8_againstTake S x0 x2)) hx hb hr (fun t ht hW => ⟨⟨(f_Y8_againstTake S x0 x2), S, rfl, (pair_i (hE.trans hX.symm)), by rw [ht]; exact hP, hD⟩, hS.F ht⟩) hS.2.2 dX8_againstOnPaper_83
    rw [if_neg s14] at hE hp
    have s14 := wNe (b := 14) rfl (by decide) s14
    refine lv_tableOut (tgt := 84) hx hb dX8_againstOnPaper_1 (by omega) (by decide) ?_
    refine lv_bipush (v := 11) hx hb dX8_againstOnPaper_84 (by decide) ?_
    subst hQ
    exact W.iret (v := (11 : Int32)) hx hb hr (fun t ht hW => ⟨⟨(11 : Int32), S, rfl, (pair_i (hE.trans hX.symm)), by rw [ht]; exact hP, hD⟩, hS.F ht⟩) hS.2.2 dX8_againstOnPaper_86
  exact B_M a1 a2 a3 a4 a5 _ _ _ hX hp hP hD hS hl
theorem gdX8_against_6 : ckS (List.drop 6 cX8_against.data.toList) 6 [(6, .aload_n 0, 1), (7, .iload_n 1, 1), (8, .iload_n 2, 1), (9, .iload_n 3, 1), (10, .invokestatic 9, 3), (35, .istore 6, 2), (37, .goto 12, 3)] = true := by decide +kernel
theorem dX8_against_6 : decode cX8_against 6 = .ok (.aload_n 0, 1) := ckS_g gdX8_against_6 0 rfl
theorem dX8_against_7 : decode cX8_against 7 = .ok (.iload_n 1, 1) := ckS_g gdX8_against_6 1 rfl
theorem dX8_against_8 : decode cX8_against 8 = .ok (.iload_n 2, 1) := ckS_g gdX8_against_6 2 rfl
theorem dX8_against_9 : decode cX8_against 9 = .ok (.iload_n 3, 1) := ckS_g gdX8_against_6 3 rfl
theorem dX8_against_10 : decode cX8_against 10 = .ok (.invokestatic 9, 3) := ckS_g gdX8_against_6 4 rfl
theorem dX8_against_35 : decode cX8_against 35 = .ok (.istore 6, 2) := ckS_g gdX8_against_6 5 rfl
theorem dX8_against_37 : decode cX8_against 37 = .ok (.goto 12, 3) := ckS_g gdX8_against_6 6 rfl
theorem dX8_againstOnFloor_1 : decode cX8_againstOnFloor 1 = .ok (.tableswitch 179 1 9 #[51, 60, 69, 90, 99, 130, 150, 156, 173], 51) := by decide +kernel
theorem gdX8_againstOnFloor_0 : ckS (List.drop 0 cX8_againstOnFloor.data.toList) 0 [(0, .iload_n 1, 1), (52, .aload_n 0, 1), (53, .getfield 34, 3), (56, .iload_n 2, 1), (57, .invokestatic 38, 3)] = true := by decide +kernel
theorem dX8_againstOnFloor_0 : decode cX8_againstOnFloor 0 = .ok (.iload_n 1, 1) := ckS_g gdX8_againstOnFloor_0 0 rfl
theorem dX8_againstOnFloor_52 : decode cX8_againstOnFloor 52 = .ok (.aload_n 0, 1) := ckS_g gdX8_againstOnFloor_0 1 rfl
theorem dX8_againstOnFloor_53 : decode cX8_againstOnFloor 53 = .ok (.getfield 34, 3) := ckS_g gdX8_againstOnFloor_0 2 rfl
theorem dX8_againstOnFloor_56 : decode cX8_againstOnFloor 56 = .ok (.iload_n 2, 1) := ckS_g gdX8_againstOnFloor_0 3 rfl
theorem dX8_againstOnFloor_57 : decode cX8_againstOnFloor 57 = .ok (.invokestatic 38, 3) := ckS_g gdX8_againstOnFloor_0 4 rfl
theorem gdX8_againstThere_0 : ckS (List.drop 0 cX8_againstThere.data.toList) 0 [(0, .aload_n 0, 1), (1, .iload_n 1, 1), (2, .invokevirtual 114, 3), (5, .ifCond .ne 6, 3), (8, .bipush 9, 2), (10, .ireturn, 1), (11, .aload_n 0, 1), (12, .iload_n 1, 1), (13, .invokevirtual 82, 3), (16, .ifCond .eq 8, 3), (19, .bipush 11, 2), (21, .goto 4, 3), (24, .iconst 0, 1), (25, .ireturn, 1)] = true := by decide +kernel
theorem dX8_againstThere_0 : decode cX8_againstThere 0 = .ok (.aload_n 0, 1) := ckS_g gdX8_againstThere_0 0 rfl
theorem dX8_againstThere_1 : decode cX8_againstThere 1 = .ok (.iload_n 1, 1) := ckS_g gdX8_againstThere_0 1 rfl
theorem dX8_againstThere_2 : decode cX8_againstThere 2 = .ok (.invokevirtual 114, 3) := ckS_g gdX8_againstThere_0 2 rfl
theorem dX8_againstThere_5 : decode cX8_againstThere 5 = .ok (.ifCond .ne 6, 3) := ckS_g gdX8_againstThere_0 3 rfl
theorem dX8_againstThere_8 : decode cX8_againstThere 8 = .ok (.bipush 9, 2) := ckS_g gdX8_againstThere_0 4 rfl
theorem dX8_againstThere_10 : decode cX8_againstThere 10 = .ok (.ireturn, 1) := ckS_g gdX8_againstThere_0 5 rfl
theorem dX8_againstThere_11 : decode cX8_againstThere 11 = .ok (.aload_n 0, 1) := ckS_g gdX8_againstThere_0 6 rfl
theorem dX8_againstThere_12 : decode cX8_againstThere 12 = .ok (.iload_n 1, 1) := ckS_g gdX8_againstThere_0 7 rfl
theorem dX8_againstThere_13 : decode cX8_againstThere 13 = .ok (.invokevirtual 82, 3) := ckS_g gdX8_againstThere_0 8 rfl
theorem dX8_againstThere_16 : decode cX8_againstThere 16 = .ok (.ifCond .eq 8, 3) := ckS_g gdX8_againstThere_0 9 rfl
theorem dX8_againstThere_19 : decode cX8_againstThere 19 = .ok (.bipush 11, 2) := ckS_g gdX8_againstThere_0 10 rfl
theorem dX8_againstThere_21 : decode cX8_againstThere 21 = .ok (.goto 4, 3) := ckS_g gdX8_againstThere_0 11 rfl
theorem dX8_againstThere_24 : decode cX8_againstThere 24 = .ok (.iconst 0, 1) := ckS_g gdX8_againstThere_0 12 rfl
theorem dX8_againstThere_25 : decode cX8_againstThere 25 = .ok (.ireturn, 1) := ckS_g gdX8_againstThere_0 13 rfl
set_option maxRecDepth 100000 in
theorem zc459 : wZ (.code yX8_againstThere cX8_againstThere 2 (some .int)) := ⟨wT2 (List.mem_of_getElem? (i := 57) rfl), Or.inl rfl⟩
def b_Y8_againstThere_25 (S : Cst) (x0 : Nat) (x1 : Int32) (y0 : Int32) : Int32 := y0
def q_Y8_againstThere_25 (S : Cst) (x0 : Nat) (x1 : Int32) (y0 : Int32) : Prop := True
def f_Y8_againstThere (S : Cst) (x0 : Nat) (x1 : Int32) : Int32 := if (f_Y2_has S x0 x1) = 0 then (9 : Int32) else if (f_Y2_isThere S x0 x1) = 0 then (b_Y8_againstThere_25 S x0 x1 0) else (b_Y8_againstThere_25 S x0 x1 11)
def p_Y8_againstThere (S : Cst) (x0 : Nat) (x1 : Int32) : Prop := (p_Y2_has S x0 x1) ∧ (if (f_Y2_has S x0 x1) = 0 then True else (p_Y2_isThere S x0 x1) ∧ (if (f_Y2_isThere S x0 x1) = 0 then (q_Y8_againstThere_25 S x0 x1 0) else (q_Y8_againstThere_25 S x0 x1 11)))
def e_Y8_againstThere : List Cond := [.methodLink RX8 114 yX2_has, .instanceMethod yX2_has, .selects RX2 yX2_has yX2_has, .initialized RX2, .methodLink RX8 82 yX2_isThere, .instanceMethod yX2_isThere, .selects RX2 yX2_isThere yX2_isThere]
def v_Y8_againstThere : List Cond := .code yX8_againstThere cX8_againstThere 2 (some .int) :: (e_Y8_againstThere ++ (v_Y2_has ++ (v_Y2_isThere ++ [])))
theorem te_Y8_againstThere : GoodIn lw_tbl e_Y8_againstThere := wGc zc367 (wGc zc215 (wGc zc214 (wGc zc77 (wGc zc366 (wGc zc226 (wGc zc225 (wG0)))))))
theorem t_Y8_againstThere : GoodIn lw_tbl v_Y8_againstThere := wGc zc459 (wGa te_Y8_againstThere (wGa t_Y2_has (wGa t_Y2_isThere (wG0))))
set_option maxHeartbeats 4000000 in
set_option maxRecDepth 100000 in
theorem c_Y8_againstThere (l : Launch) (G : va_G) (K : Nat → ClassId) (ad : Nat → Nat) (S : Cst) (x0 : Nat) (a1 : Int32) (sz : Nat) : Met l yX8_againstThere v_Y8_againstThere ({ frames := 1, cells := 0, slots := 0, locals := 21 }) (va_Pc [.ref (ad x0), .int a1] (cSt G K ad sz S (iK S x0 1 ∧ p_Y8_againstThere S x0 a1))) (va_Qi (fun (r : Int32) (u : Cst) => (r, u) = (f_Y8_againstThere S x0 a1, S)) (cBt G K ad (va_A (wsC K ad S) sz)) (va_A (wsC K ad S) sz)) 0 0 (va_A (wsC K ad S) sz) := by
  refine Met.ofW (cc := cX8_againstThere) (maxL := 2) (ret := (some .int)) (by decide) rfl ?_
  intro p e s m args below meth c s₁ B hml hv
  obtain ⟨rfl, ⟨hsz, hP, hK, hD0, hTE⟩, hp⟩ := hv
  obtain ⟨k_x0, hp⟩ := hp
  have hx := B.exec
  have hb := B.bytes
  have hr := B.returns
  have hts := atoms_spec (ws := v_Y8_againstThere) B.pre
  have t_ := t_Y8_againstThere
  have mw : ∀ w ∈ e_Y8_againstThere, w ∈ v_Y8_againstThere := fun w h => List.mem_cons_of_mem _ (List.mem_append_left _ h)
  have hw := fun w (h : w ∈ e_Y8_againstThere) => hts w (mw w h)
  have j_Y2_has : ∀ w ∈ v_Y2_has, w ∈ v_Y8_againstThere := fun w h => List.mem_cons_of_mem _ (List.mem_append_right _ (List.mem_append_left _ h))
  have j_Y2_isThere : ∀ w ∈ v_Y2_isThere, w ∈ v_Y8_againstThere := fun w h => List.mem_cons_of_mem _ (List.mem_append_right _ (List.mem_append_right _ (List.mem_append_left _ h)))
  have hown : s.vm.findClass RX8 = some m.cls := findClass_of_methodNamed B.named
  have hlocks := B.notSynchronized
  subst hsz
  have hD := hD0.self (sz := s.heap.size)
  generalize hAe : va_A (wsC K ad S) s.heap.size = A at hD ⊢
  have hA : ∀ q : Nat, s.heap.size ≤ q → A q := fun q h => by rw [← hAe]; exact Or.inr h
  have hS : va_S A s.heap s.heap [] := va_S.rf
  have hl : lv_has (lg_sl ([.ref (ad x0), .int a1]) ++ List.replicate (2 - (lg_sl ([.ref (ad x0), .int a1])).length) Slot.unset).toArray 2 [(0, .ref (ad x0)), (1, .int a1)] := by
    exact lv_entry ([.ref (ad x0), .int a1]) (n := 2) (Nat.le_of_ble_eq_true rfl)
  rw [lg_entry_eq]
  generalize (lg_sl ([.ref (ad x0), .int a1]) ++ List.replicate (2 - (lg_sl ([.ref (ad x0), .int a1])).length) Slot.unset).toArray = ls_ at hl ⊢
  refine wGen (fun Q hQ => ?_)
  obtain ⟨X, hX⟩ : ∃ X, f_Y8_againstThere S x0 a1 = X := ⟨_, rfl⟩
  have B_Y8_againstThere_25 : ∀ (x1 : Int32) (y0 : Int32) (H : Heap) (locs : List Loc) (ls_ : Array Slot), b_Y8_againstThere_25 S x0 x1 y0 = X → q_Y8_againstThere_25 S x0 x1 y0 → va_P G vwCl (wsC K ad S) H → va_D A (wsC K ad S) → va_S A s.heap H locs → lv_has ls_ 2 [(0, .ref (ad x0)), (1, .int x1)] → W p l e ({ frames := 1, cells := 0, slots := 0, locals := 21 } : Room) s m #[Value.ref (ad x0), Value.int a1] below meth c H locs 0 0 Q (F0 m 25 ls_ [.int y0]) := by
    intro x1 y0 H locs ls_ hE hp hP hD hS hl
    unfold b_Y8_againstThere_25 at hE
    unfold q_Y8_againstThere_25 at hp
    subst hQ
    exact W.iret (v := y0) hx hb hr (fun t ht hW => ⟨⟨y0, S, rfl, (pair_i (hE.trans hX.symm)), by rw [ht]; exact hP, hD⟩, hS.F ht⟩) hS.2.2 dX8_againstThere_25
  have B_M : ∀ (x1 : Int32) (H : Heap) (locs : List Loc) (ls_ : Array Slot), f_Y8_againstThere S x0 x1 = X → p_Y8_againstThere S x0 x1 → va_P G vwCl (wsC K ad S) H → va_D A (wsC K ad S) → va_S A s.heap H locs → lv_has ls_ 2 [(0, .ref (ad x0)), (1, .int x1)] → W p l e ({ frames := 1, cells := 0, slots := 0, locals := 21 } : Room) s m #[Value.ref (ad x0), Value.int a1] below meth c H locs 0 0 Q (F0 m 0 ls_ []) := by
    intro x1 H locs ls_ hE hp hP hD hS hl
    unfold f_Y8_againstThere at hE
    unfold p_Y8_againstThere at hp
    refine lv_aload_n hx hb dX8_againstThere_0 rfl (lv_at hl 0 rfl) ?_
    refine lv_iload_n hx hb dX8_againstThere_1 rfl (lv_at hl 1 rfl) ?_
    obtain ⟨hy1, hp⟩ := hp
    refine cGoi (va_runV (As := [.int x1]) (rest := []) ⟨hx, hb, hml, hown, hts⟩ (c_Y2_has l G K ad S x0 x1 _) (cwV 1 hts (wGV t_ (mw (.methodLink RX8 114 yX2_has) (List.mem_of_getElem? (i := 0) rfl)) (mw (.instanceMethod yX2_has) (List.mem_of_getElem? (i := 1) rfl)) (mw (.selects RX2 yX2_has yX2_has) (List.mem_of_getElem? (i := 2) rfl)) (mw (.initialized RX2) (List.mem_of_getElem? (i := 3) rfl)) j_Y2_has) rfl rfl rfl (by decide +kernel) ⟨Nat.le_of_ble_eq_true rfl, Nat.le_of_ble_eq_true rfl⟩) (cPV hK hTE hP hD 1 rfl (at_1 k_x0) ⟨k_x0, hy1⟩) rfl rfl hl.1 rfl (lv_room (Nat.le_of_ble_eq_true rfl)) dX8_againstThere_2 ⟨Nat.le_of_ble_eq_true rfl, Nat.le_of_ble_eq_true rfl⟩) hP hD hS hA (fun r3 u2 H locs hv hP hD hS => ?_)
    have h1 := congrArg Prod.fst hv
    have h2 := (congrArg Prod.snd hv).symm
    dsimp only at h1 h2
    subst h1
    subst h2
    refine lv_if_ne (tgt := 11) hx hb dX8_againstThere_5 (by decide) (fun c4 => ?_) (fun c4 => ?_)
    · rw [if_neg c4] at hE hp
      refine lv_aload_n hx hb dX8_againstThere_11 rfl (lv_at hl 0 rfl) ?_
      refine lv_iload_n hx hb dX8_againstThere_12 rfl (lv_at hl 1 rfl) ?_
      obtain ⟨hy5, hp⟩ := hp
      refine cGoi (va_runV (As := [.int x1]) (rest := []) ⟨hx, hb, hml, hown, hts⟩ (c_Y2_isThere l G K ad S x0 x1 _) (cwV 1 hts (wGV t_ (mw (.methodLink RX8 82 yX2_isThere) (List.mem_of_getElem? (i := 4) rfl)) (mw (.instanceMethod yX2_isThere) (List.mem_of_getElem? (i := 5) rfl)) (mw (.selects RX2 yX2_isThere yX2_isThere) (List.mem_of_getElem? (i := 6) rfl)) (mw (.initialized RX2) (List.mem_of_getElem? (i := 3) rfl)) j_Y2_isThere) rfl rfl rfl (by decide +kernel) ⟨Nat.le_of_ble_eq_true rfl, Nat.le_of_ble_eq_true rfl⟩) (cPV hK hTE hP hD 1 rfl (at_1 k_x0) ⟨k_x0, hy5⟩) rfl rfl hl.1 rfl (lv_room (Nat.le_of_ble_eq_true rfl)) dX8_againstThere_13 ⟨Nat.le_of_ble_eq_true rfl, Nat.le_of_ble_eq_true rfl⟩) hP hD hS hA (fun r7 u6 H locs hv hP hD hS => ?_)
      have h1 := congrArg Prod.fst hv
      have h2 := (congrArg Prod.snd hv).symm
      dsimp only at h1 h2
      subst h1
      subst h2
      refine lv_if_eq (tgt := 24) hx hb dX8_againstThere_16 (by decide) (fun c8 => ?_) (fun c8 => ?_)
      · rw [if_pos c8] at hE hp
        refine lv_iconst (v := 0) hx hb dX8_againstThere_24 (by decide) ?_
        exact B_Y8_againstThere_25 x1 0 _ _ _ hE hp hP hD hS (lv_sub hl [0, 1] rfl)
      · rw [if_neg c8] at hE hp
        refine lv_bipush (v := 11) hx hb dX8_againstThere_19 (by decide) ?_
        refine lv_goto (tgt := 25) hx hb dX8_againstThere_21 (by decide) ?_
        exact B_Y8_againstThere_25 x1 11 _ _ _ hE hp hP hD hS (lv_sub hl [0, 1] rfl)
    · rw [if_pos c4] at hE hp
      refine lv_bipush (v := 9) hx hb dX8_againstThere_8 (by decide) ?_
      subst hQ
      exact W.iret (v := (9 : Int32)) hx hb hr (fun t ht hW => ⟨⟨(9 : Int32), S, rfl, (pair_i (hE.trans hX.symm)), by rw [ht]; exact hP, hD⟩, hS.F ht⟩) hS.2.2 dX8_againstThere_10
  exact B_M a1 _ _ _ hX hp hP hD hS hl
