theorem gdX11_isPending_0 : ckS (List.drop 0 cX11_isPending.data.toList) 0 [(0, .iconst 0, 1), (1, .istore_n 2, 1), (2, .iload_n 2, 1), (3, .aload_n 0, 1), (4, .getfield 115, 3), (7, .if_icmp .ge 21, 3), (10, .aload_n 0, 1), (11, .getfield 72, 3), (14, .iload_n 2, 1), (15, .iaload, 1), (16, .iload_n 1, 1), (17, .if_icmp .ne 5, 3), (20, .iconst 1, 1), (21, .ireturn, 1), (22, .iinc 2 1, 3), (25, .goto (-23), 3), (28, .iconst 0, 1), (29, .ireturn, 1)] = true := by decide +kernel
theorem dX11_isPending_0 : decode cX11_isPending 0 = .ok (.iconst 0, 1) := ckS_g gdX11_isPending_0 0 rfl
theorem dX11_isPending_1 : decode cX11_isPending 1 = .ok (.istore_n 2, 1) := ckS_g gdX11_isPending_0 1 rfl
theorem dX11_isPending_2 : decode cX11_isPending 2 = .ok (.iload_n 2, 1) := ckS_g gdX11_isPending_0 2 rfl
theorem dX11_isPending_3 : decode cX11_isPending 3 = .ok (.aload_n 0, 1) := ckS_g gdX11_isPending_0 3 rfl
theorem dX11_isPending_4 : decode cX11_isPending 4 = .ok (.getfield 115, 3) := ckS_g gdX11_isPending_0 4 rfl
theorem dX11_isPending_7 : decode cX11_isPending 7 = .ok (.if_icmp .ge 21, 3) := ckS_g gdX11_isPending_0 5 rfl
theorem dX11_isPending_10 : decode cX11_isPending 10 = .ok (.aload_n 0, 1) := ckS_g gdX11_isPending_0 6 rfl
theorem dX11_isPending_11 : decode cX11_isPending 11 = .ok (.getfield 72, 3) := ckS_g gdX11_isPending_0 7 rfl
theorem dX11_isPending_14 : decode cX11_isPending 14 = .ok (.iload_n 2, 1) := ckS_g gdX11_isPending_0 8 rfl
theorem dX11_isPending_15 : decode cX11_isPending 15 = .ok (.iaload, 1) := ckS_g gdX11_isPending_0 9 rfl
theorem dX11_isPending_16 : decode cX11_isPending 16 = .ok (.iload_n 1, 1) := ckS_g gdX11_isPending_0 10 rfl
theorem dX11_isPending_17 : decode cX11_isPending 17 = .ok (.if_icmp .ne 5, 3) := ckS_g gdX11_isPending_0 11 rfl
theorem dX11_isPending_20 : decode cX11_isPending 20 = .ok (.iconst 1, 1) := ckS_g gdX11_isPending_0 12 rfl
theorem dX11_isPending_21 : decode cX11_isPending 21 = .ok (.ireturn, 1) := ckS_g gdX11_isPending_0 13 rfl
theorem dX11_isPending_22 : decode cX11_isPending 22 = .ok (.iinc 2 1, 3) := ckS_g gdX11_isPending_0 14 rfl
theorem dX11_isPending_25 : decode cX11_isPending 25 = .ok (.goto (-23), 3) := ckS_g gdX11_isPending_0 15 rfl
theorem dX11_isPending_28 : decode cX11_isPending 28 = .ok (.iconst 0, 1) := ckS_g gdX11_isPending_0 16 rfl
theorem dX11_isPending_29 : decode cX11_isPending 29 = .ok (.ireturn, 1) := ckS_g gdX11_isPending_0 17 rfl
set_option maxRecDepth 100000 in
theorem z145 : wZ (.code yX11_isPending cX11_isPending 3 (some .boolean)) := ⟨wT6 (List.mem_of_getElem? (i := 112) rfl), Or.inl rfl⟩
def st_X11_isPending_2 (S : HS) (x1 x2 : Int32) : (Int32 × HS) ⊕ (HS × Int32 × Int32) := if (S.1 6) ≤ x2 then Sum.inl ((0, S)) else if (S.2 31 x2.toNatClampNeg) = x1 then Sum.inl ((1, S)) else Sum.inr (S, x1, (x2 + 1))
def ps_X11_isPending_2 (S : HS) (x1 x2 : Int32) : Prop := (if (S.1 6) ≤ x2 then True else (vp_in x2 9) ∧ (if (S.2 31 x2.toNatClampNeg) = x1 then True else True))
def lp_X11_isPending_2 : Nat → HS → Int32 → Int32 → Int32 × HS
  | 0, S, _, _ => (0, S)
  | n + 1, S, x1, x2 => match st_X11_isPending_2 S x1 x2 with
    | Sum.inl r => r
    | Sum.inr q => lp_X11_isPending_2 n q.1 q.2.1 q.2.2
def lq_X11_isPending_2 : Nat → HS → Int32 → Int32 → Prop
  | 0, _, _, _ => False
  | n + 1, S, x1, x2 => ps_X11_isPending_2 S x1 x2 ∧ (match st_X11_isPending_2 S x1 x2 with
    | Sum.inl _ => True
    | Sum.inr q => lq_X11_isPending_2 n q.1 q.2.1 q.2.2)
def f_X11_isPending (S : HS) (x1 : Int32) : Int32 × HS := (lp_X11_isPending_2 100000 S x1 0)
def p_X11_isPending (S : HS) (x1 : Int32) : Prop := (lq_X11_isPending_2 100000 S x1 0)
def e_X11_isPending : List Cond := [.fieldLink RX11 115 "MotionFloorModel$Hall" "pending" "I", .fieldLink RX11 72 "MotionFloorModel$Hall" "row" "[I"]
def v_X11_isPending : List Cond := .code yX11_isPending cX11_isPending 3 (some .boolean) :: (e_X11_isPending ++ (wsX110 ++ []))
theorem te_X11_isPending : GoodIn lw_tbl e_X11_isPending := wGc z56 (wGc z57 (wG0))
theorem t_X11_isPending : GoodIn lw_tbl v_X11_isPending := wGc z145 (wGa te_X11_isPending (wGa zcX11 (wG0)))
set_option maxHeartbeats 4000000 in
set_option maxRecDepth 100000 in
theorem c_X11_isPending (l : Launch) (G : va_G) (K : Nat → ClassId) (h : Nat) (g : Nat → Nat) (S0 : HS) (a1 : Int32) (sz : Nat) : Met l yX11_isPending v_X11_isPending ({ frames := 0, cells := 0, slots := 0, locals := 0 }) (va_Pc [.ref h, .int a1] (hS G K h g sz S0 (p_X11_isPending S0 a1))) (va_Qi (fun (r : Int32) (u : HS) => (r, u) = f_X11_isPending S0 a1) (hB G K h g (va_A (hW K h g S0) sz)) (va_A (hW K h g S0) sz)) 0 0 (va_A (hW K h g S0) sz) := by
  refine Met.ofW (cc := cX11_isPending) (maxL := 3) (ret := (some .boolean)) (by decide) rfl ?_
  intro p e s m args below meth c s₁ B hml hv
  obtain ⟨rfl, ⟨hsz, hP, hK, hD0, hTE⟩, hp⟩ := hv
  have hx := B.exec
  have hb := B.bytes
  have hr := B.returns
  have hts := atoms_spec (ws := v_X11_isPending) B.pre
  have t_ := t_X11_isPending
  have mw : ∀ w ∈ e_X11_isPending, w ∈ v_X11_isPending := fun w h => List.mem_cons_of_mem _ (List.mem_append_left _ h)
  have hw := fun w (h : w ∈ e_X11_isPending) => hts w (mw w h)
  have iX11 : ∀ w ∈ wsX110, w ∈ v_X11_isPending := fun w h => List.mem_cons_of_mem _ (List.mem_append_right _ (List.mem_append_left _ h))
  have hown : s.vm.findClass RX11 = some m.cls := findClass_of_methodNamed B.named
  have hlocks := B.notSynchronized
  subst hsz
  have hD := hD0.self (sz := s.heap.size)
  generalize hAe : va_A (hW K h g S0) s.heap.size = A at hD ⊢
  have hA : ∀ q : Nat, s.heap.size ≤ q → A q := fun q h => by rw [← hAe]; exact Or.inr h
  have hS : va_S A s.heap s.heap [] := va_S.rf
  have hl := lv_entry ([.ref h, .int a1]) (n := 3) (Nat.le_of_ble_eq_true rfl)
  rw [lg_entry_eq]
  generalize (lg_sl ([.ref h, .int a1]) ++ List.replicate (3 - (lg_sl ([.ref h, .int a1])).length) Slot.unset).toArray = ls at hl ⊢
  have hl : lv_has ls 3 [(0, .ref h), (1, .int a1)] := hl
  refine wGen (fun Q hQ => ?_)
  obtain ⟨X, hX⟩ : ∃ X, f_X11_isPending S0 a1 = X := ⟨_, rfl⟩
  have L_2 : ∀ (n : Nat) (S : HS) (x1 x2 : Int32) (H : Heap) (locs : List Loc) (ls : Array Slot), lp_X11_isPending_2 n S x1 x2 = X → lq_X11_isPending_2 n S x1 x2 → va_P G vwCl (hW K h g S) H → va_D A (hW K h g S) → va_S A s.heap H locs → lv_has ls 3 [(0, .ref h), (1, .int x1), (2, .int x2)] → W p l e ({ frames := 0, cells := 0, slots := 0, locals := 0 } : Room) s m #[Value.ref h, Value.int a1] below meth c H locs 0 0 Q (F0 m 2 ls []) := by
    intro n1
    induction n1 with
    | zero => intro S x1 x2 H locs ls hE hp; exact False.elim hp
    | succ n1 ih1 =>
      intro S x1 x2 H locs ls hO1 hp hP hD hS hl
      rw [lp_X11_isPending_2] at hO1
      rw [lq_X11_isPending_2] at hp
      obtain ⟨hp, hq1⟩ := hp
      generalize hE : st_X11_isPending_2 S x1 x2 = Y1 at hO1 hq1
      unfold st_X11_isPending_2 at hE
      unfold ps_X11_isPending_2 at hp
      refine lv_iload_n hx hb dX11_isPending_2 rfl (lv_at hl 2 rfl) ?_
      refine lv_aload_n hx hb dX11_isPending_3 rfl (lv_at hl 0 rfl) ?_
      refine va_get (D := G) (ci := 8) (v := .int (S.1 6)) (C := RX11) (T := TX11) (N := 42) hx hb hts iX11 hown hK hP 0 rfl rfl 6 (by decide) (hw (.fieldLink RX11 115 "MotionFloorModel$Hall" "pending" "I") (List.mem_of_getElem? (i := 0) rfl)) (fun _ h9 => h9) rfl dX11_isPending_4 ?_
      refine lv_icmp_ge (tgt := 28) hx hb dX11_isPending_7 (by decide) (fun c1 => ?_) (fun c1 => ?_)
      · rw [if_pos c1] at hE hp
        subst hE
        have hE := hO1
        dsimp only at hE
        refine lv_iconst (v := 0) hx hb dX11_isPending_28 (by decide) ?_
        subst hQ
        exact W.zret (v := 0) (ty := .boolean) hx hb hr rfl (fun t ht hW => ⟨⟨0, S, rfl, hE.trans hX.symm, by rw [ht]; exact hP, hD⟩, hS.F ht⟩) hS.2.2 dX11_isPending_29
      · rw [if_neg c1] at hE hp
        refine lv_aload_n hx hb dX11_isPending_10 rfl (lv_at hl 0 rfl) ?_
        refine va_get (D := G) (ci := 8) (v := .ref (g 31)) (C := RX11) (T := TX11) (N := 42) hx hb hts iX11 hown hK hP 0 rfl rfl 31 (by decide) (hw (.fieldLink RX11 72 "MotionFloorModel$Hall" "row" "[I") (List.mem_of_getElem? (i := 1) rfl)) (fun _ h9 => h9) rfl dX11_isPending_11 ?_
        refine lv_iload_n hx hb dX11_isPending_14 rfl (lv_at hl 2 rfl) ?_
        obtain ⟨hy2, hp⟩ := hp
        refine va_iald hx hb hK hP 20 0 rfl rfl hy2 dX11_isPending_15 ?_
        refine lv_iload_n hx hb dX11_isPending_16 rfl (lv_at hl 1 rfl) ?_
        refine lv_icmp_ne (tgt := 22) hx hb dX11_isPending_17 (by decide) (fun c3 => ?_) (fun c3 => ?_)
        · rw [if_neg c3] at hE hp
          refine lv_iinc (v := (x2 + 1)) (lv' := [(2, .int (x2 + 1)), (0, .ref h), (1, .int x1)]) hx hb dX11_isPending_22 hl (k := 2) rfl rfl (by decide) rfl (fun ls hl => ?_)
          refine lv_goto (tgt := 2) hx hb dX11_isPending_25 (by decide) ?_
          subst hE
          dsimp only at hO1 hq1
          exact ih1 S x1 (x2 + 1) _ _ _ hO1 hq1 hP hD hS (lv_sub hl [1, 2, 0] rfl)
        · rw [if_pos c3] at hE hp
          subst hE
          have hE := hO1
          dsimp only at hE
          refine lv_iconst (v := 1) hx hb dX11_isPending_20 (by decide) ?_
          subst hQ
          exact W.zret (v := 1) (ty := .boolean) hx hb hr rfl (fun t ht hW => ⟨⟨1, S, rfl, hE.trans hX.symm, by rw [ht]; exact hP, hD⟩, hS.F ht⟩) hS.2.2 dX11_isPending_21
  have B_M : ∀ (S : HS) (x1 : Int32) (H : Heap) (locs : List Loc) (ls : Array Slot), f_X11_isPending S x1 = X → p_X11_isPending S x1 → va_P G vwCl (hW K h g S) H → va_D A (hW K h g S) → va_S A s.heap H locs → lv_has ls 3 [(0, .ref h), (1, .int x1)] → W p l e ({ frames := 0, cells := 0, slots := 0, locals := 0 } : Room) s m #[Value.ref h, Value.int a1] below meth c H locs 0 0 Q (F0 m 0 ls []) := by
    intro S x1 H locs ls hE hp hP hD hS hl
    unfold f_X11_isPending at hE
    unfold p_X11_isPending at hp
    refine lv_iconst (v := 0) hx hb dX11_isPending_0 (by decide) ?_
    refine lv_istore_n (lv' := [(2, .int 0), (0, .ref h), (1, .int x1)]) hx hb dX11_isPending_1 rfl hl (by decide) rfl (fun ls hl => ?_)
    exact L_2 100000 S x1 0 _ _ _ hE hp hP hD hS (lv_sub hl [1, 2, 0] rfl)
  exact B_M S0 a1 _ _ _ hX hp hP hD hS hl
theorem gdX11_change_0 : ckS (List.drop 0 cX11_change.data.toList) 0 [(0, .aload_n 0, 1), (1, .getfield 40, 3), (4, .iload_n 2, 1), (5, .iaload, 1), (6, .istore_n 3, 1), (7, .aload_n 0, 1), (8, .getfield 43, 3), (11, .iload_n 2, 1), (12, .iaload, 1), (13, .istore 4, 2), (15, .aload_n 0, 1), (16, .getfield 37, 3), (19, .iload_n 2, 1), (20, .iaload, 1), (21, .istore 5, 2), (23, .iload 5, 2), (25, .iload 4, 2), (27, .iload_n 3, 1), (28, .isub, 1), (29, .isub, 1), (30, .istore 6, 2), (32, .aload_n 0, 1), (33, .getfield 37, 3), (36, .iload_n 1, 1), (37, .iaload, 1), (38, .istore 7, 2), (40, .sipush 400, 3), (43, .iload_n 1, 1), (44, .imul, 1), (45, .istore 8, 2), (47, .iload 6, 2), (49, .ifCond .le 45, 3), (52, .iload 7, 2), (54, .iconst 1, 1), (55, .isub, 1), (56, .istore 9, 2), (58, .iload 9, 2), (60, .iload 4, 2), (62, .if_icmp .lt 32, 3), (65, .aload_n 0, 1)] = true := by decide +kernel
theorem dX11_change_0 : decode cX11_change 0 = .ok (.aload_n 0, 1) := ckS_g gdX11_change_0 0 rfl
theorem dX11_change_1 : decode cX11_change 1 = .ok (.getfield 40, 3) := ckS_g gdX11_change_0 1 rfl
theorem dX11_change_4 : decode cX11_change 4 = .ok (.iload_n 2, 1) := ckS_g gdX11_change_0 2 rfl
theorem dX11_change_5 : decode cX11_change 5 = .ok (.iaload, 1) := ckS_g gdX11_change_0 3 rfl
theorem dX11_change_6 : decode cX11_change 6 = .ok (.istore_n 3, 1) := ckS_g gdX11_change_0 4 rfl
theorem dX11_change_7 : decode cX11_change 7 = .ok (.aload_n 0, 1) := ckS_g gdX11_change_0 5 rfl
theorem dX11_change_8 : decode cX11_change 8 = .ok (.getfield 43, 3) := ckS_g gdX11_change_0 6 rfl
theorem dX11_change_11 : decode cX11_change 11 = .ok (.iload_n 2, 1) := ckS_g gdX11_change_0 7 rfl
theorem dX11_change_12 : decode cX11_change 12 = .ok (.iaload, 1) := ckS_g gdX11_change_0 8 rfl
theorem dX11_change_13 : decode cX11_change 13 = .ok (.istore 4, 2) := ckS_g gdX11_change_0 9 rfl
theorem dX11_change_15 : decode cX11_change 15 = .ok (.aload_n 0, 1) := ckS_g gdX11_change_0 10 rfl
theorem dX11_change_16 : decode cX11_change 16 = .ok (.getfield 37, 3) := ckS_g gdX11_change_0 11 rfl
theorem dX11_change_19 : decode cX11_change 19 = .ok (.iload_n 2, 1) := ckS_g gdX11_change_0 12 rfl
theorem dX11_change_20 : decode cX11_change 20 = .ok (.iaload, 1) := ckS_g gdX11_change_0 13 rfl
theorem dX11_change_21 : decode cX11_change 21 = .ok (.istore 5, 2) := ckS_g gdX11_change_0 14 rfl
theorem dX11_change_23 : decode cX11_change 23 = .ok (.iload 5, 2) := ckS_g gdX11_change_0 15 rfl
theorem dX11_change_25 : decode cX11_change 25 = .ok (.iload 4, 2) := ckS_g gdX11_change_0 16 rfl
theorem dX11_change_27 : decode cX11_change 27 = .ok (.iload_n 3, 1) := ckS_g gdX11_change_0 17 rfl
theorem dX11_change_28 : decode cX11_change 28 = .ok (.isub, 1) := ckS_g gdX11_change_0 18 rfl
theorem dX11_change_29 : decode cX11_change 29 = .ok (.isub, 1) := ckS_g gdX11_change_0 19 rfl
theorem dX11_change_30 : decode cX11_change 30 = .ok (.istore 6, 2) := ckS_g gdX11_change_0 20 rfl
theorem dX11_change_32 : decode cX11_change 32 = .ok (.aload_n 0, 1) := ckS_g gdX11_change_0 21 rfl
theorem dX11_change_33 : decode cX11_change 33 = .ok (.getfield 37, 3) := ckS_g gdX11_change_0 22 rfl
theorem dX11_change_36 : decode cX11_change 36 = .ok (.iload_n 1, 1) := ckS_g gdX11_change_0 23 rfl
theorem dX11_change_37 : decode cX11_change 37 = .ok (.iaload, 1) := ckS_g gdX11_change_0 24 rfl
theorem dX11_change_38 : decode cX11_change 38 = .ok (.istore 7, 2) := ckS_g gdX11_change_0 25 rfl
theorem dX11_change_40 : decode cX11_change 40 = .ok (.sipush 400, 3) := ckS_g gdX11_change_0 26 rfl
theorem dX11_change_43 : decode cX11_change 43 = .ok (.iload_n 1, 1) := ckS_g gdX11_change_0 27 rfl
theorem dX11_change_44 : decode cX11_change 44 = .ok (.imul, 1) := ckS_g gdX11_change_0 28 rfl
theorem dX11_change_45 : decode cX11_change 45 = .ok (.istore 8, 2) := ckS_g gdX11_change_0 29 rfl
theorem dX11_change_47 : decode cX11_change 47 = .ok (.iload 6, 2) := ckS_g gdX11_change_0 30 rfl
theorem dX11_change_49 : decode cX11_change 49 = .ok (.ifCond .le 45, 3) := ckS_g gdX11_change_0 31 rfl
theorem dX11_change_52 : decode cX11_change 52 = .ok (.iload 7, 2) := ckS_g gdX11_change_0 32 rfl
theorem dX11_change_54 : decode cX11_change 54 = .ok (.iconst 1, 1) := ckS_g gdX11_change_0 33 rfl
theorem dX11_change_55 : decode cX11_change 55 = .ok (.isub, 1) := ckS_g gdX11_change_0 34 rfl
theorem dX11_change_56 : decode cX11_change 56 = .ok (.istore 9, 2) := ckS_g gdX11_change_0 35 rfl
theorem dX11_change_58 : decode cX11_change 58 = .ok (.iload 9, 2) := ckS_g gdX11_change_0 36 rfl
theorem dX11_change_60 : decode cX11_change 60 = .ok (.iload 4, 2) := ckS_g gdX11_change_0 37 rfl
theorem dX11_change_62 : decode cX11_change 62 = .ok (.if_icmp .lt 32, 3) := ckS_g gdX11_change_0 38 rfl
theorem dX11_change_65 : decode cX11_change 65 = .ok (.aload_n 0, 1) := ckS_g gdX11_change_0 39 rfl
theorem gdX11_change_66 : ckS (List.drop 66 cX11_change.data.toList) 66 [(66, .getfield 65, 3), (69, .iload 8, 2), (71, .iload 9, 2), (73, .iadd, 1), (74, .iload 6, 2), (76, .iadd, 1), (77, .aload_n 0, 1), (78, .getfield 65, 3), (81, .iload 8, 2), (83, .iload 9, 2), (85, .iadd, 1), (86, .iaload, 1), (87, .iastore, 1), (88, .iinc 9 (-1), 3), (91, .goto (-33), 3), (94, .iload 6, 2), (96, .ifCond .ge 43, 3), (99, .iload 4, 2), (101, .istore 9, 2), (103, .iload 9, 2), (105, .iload 7, 2), (107, .if_icmp .ge 32, 3), (110, .aload_n 0, 1), (111, .getfield 65, 3), (114, .iload 8, 2), (116, .iload 9, 2), (118, .iadd, 1), (119, .iload 6, 2), (121, .iadd, 1), (122, .aload_n 0, 1), (123, .getfield 65, 3), (126, .iload 8, 2), (128, .iload 9, 2), (130, .iadd, 1), (131, .iaload, 1), (132, .iastore, 1), (133, .iinc 9 1, 3), (136, .goto (-33), 3), (139, .iconst 0, 1), (140, .istore 9, 2)] = true := by decide +kernel
theorem dX11_change_66 : decode cX11_change 66 = .ok (.getfield 65, 3) := ckS_g gdX11_change_66 0 rfl
theorem dX11_change_69 : decode cX11_change 69 = .ok (.iload 8, 2) := ckS_g gdX11_change_66 1 rfl
theorem dX11_change_71 : decode cX11_change 71 = .ok (.iload 9, 2) := ckS_g gdX11_change_66 2 rfl
theorem dX11_change_73 : decode cX11_change 73 = .ok (.iadd, 1) := ckS_g gdX11_change_66 3 rfl
theorem dX11_change_74 : decode cX11_change 74 = .ok (.iload 6, 2) := ckS_g gdX11_change_66 4 rfl
theorem dX11_change_76 : decode cX11_change 76 = .ok (.iadd, 1) := ckS_g gdX11_change_66 5 rfl
theorem dX11_change_77 : decode cX11_change 77 = .ok (.aload_n 0, 1) := ckS_g gdX11_change_66 6 rfl
theorem dX11_change_78 : decode cX11_change 78 = .ok (.getfield 65, 3) := ckS_g gdX11_change_66 7 rfl
theorem dX11_change_81 : decode cX11_change 81 = .ok (.iload 8, 2) := ckS_g gdX11_change_66 8 rfl
theorem dX11_change_83 : decode cX11_change 83 = .ok (.iload 9, 2) := ckS_g gdX11_change_66 9 rfl
theorem dX11_change_85 : decode cX11_change 85 = .ok (.iadd, 1) := ckS_g gdX11_change_66 10 rfl
theorem dX11_change_86 : decode cX11_change 86 = .ok (.iaload, 1) := ckS_g gdX11_change_66 11 rfl
theorem dX11_change_87 : decode cX11_change 87 = .ok (.iastore, 1) := ckS_g gdX11_change_66 12 rfl
theorem dX11_change_88 : decode cX11_change 88 = .ok (.iinc 9 (-1), 3) := ckS_g gdX11_change_66 13 rfl
theorem dX11_change_91 : decode cX11_change 91 = .ok (.goto (-33), 3) := ckS_g gdX11_change_66 14 rfl
theorem dX11_change_94 : decode cX11_change 94 = .ok (.iload 6, 2) := ckS_g gdX11_change_66 15 rfl
theorem dX11_change_96 : decode cX11_change 96 = .ok (.ifCond .ge 43, 3) := ckS_g gdX11_change_66 16 rfl
theorem dX11_change_99 : decode cX11_change 99 = .ok (.iload 4, 2) := ckS_g gdX11_change_66 17 rfl
theorem dX11_change_101 : decode cX11_change 101 = .ok (.istore 9, 2) := ckS_g gdX11_change_66 18 rfl
theorem dX11_change_103 : decode cX11_change 103 = .ok (.iload 9, 2) := ckS_g gdX11_change_66 19 rfl
theorem dX11_change_105 : decode cX11_change 105 = .ok (.iload 7, 2) := ckS_g gdX11_change_66 20 rfl
theorem dX11_change_107 : decode cX11_change 107 = .ok (.if_icmp .ge 32, 3) := ckS_g gdX11_change_66 21 rfl
theorem dX11_change_110 : decode cX11_change 110 = .ok (.aload_n 0, 1) := ckS_g gdX11_change_66 22 rfl
theorem dX11_change_111 : decode cX11_change 111 = .ok (.getfield 65, 3) := ckS_g gdX11_change_66 23 rfl
theorem dX11_change_114 : decode cX11_change 114 = .ok (.iload 8, 2) := ckS_g gdX11_change_66 24 rfl
theorem dX11_change_116 : decode cX11_change 116 = .ok (.iload 9, 2) := ckS_g gdX11_change_66 25 rfl
theorem dX11_change_118 : decode cX11_change 118 = .ok (.iadd, 1) := ckS_g gdX11_change_66 26 rfl
theorem dX11_change_119 : decode cX11_change 119 = .ok (.iload 6, 2) := ckS_g gdX11_change_66 27 rfl
theorem dX11_change_121 : decode cX11_change 121 = .ok (.iadd, 1) := ckS_g gdX11_change_66 28 rfl
theorem dX11_change_122 : decode cX11_change 122 = .ok (.aload_n 0, 1) := ckS_g gdX11_change_66 29 rfl
theorem dX11_change_123 : decode cX11_change 123 = .ok (.getfield 65, 3) := ckS_g gdX11_change_66 30 rfl
theorem dX11_change_126 : decode cX11_change 126 = .ok (.iload 8, 2) := ckS_g gdX11_change_66 31 rfl
theorem dX11_change_128 : decode cX11_change 128 = .ok (.iload 9, 2) := ckS_g gdX11_change_66 32 rfl
theorem dX11_change_130 : decode cX11_change 130 = .ok (.iadd, 1) := ckS_g gdX11_change_66 33 rfl
theorem dX11_change_131 : decode cX11_change 131 = .ok (.iaload, 1) := ckS_g gdX11_change_66 34 rfl
theorem dX11_change_132 : decode cX11_change 132 = .ok (.iastore, 1) := ckS_g gdX11_change_66 35 rfl
theorem dX11_change_133 : decode cX11_change 133 = .ok (.iinc 9 1, 3) := ckS_g gdX11_change_66 36 rfl
theorem dX11_change_136 : decode cX11_change 136 = .ok (.goto (-33), 3) := ckS_g gdX11_change_66 37 rfl
theorem dX11_change_139 : decode cX11_change 139 = .ok (.iconst 0, 1) := ckS_g gdX11_change_66 38 rfl
theorem dX11_change_140 : decode cX11_change 140 = .ok (.istore 9, 2) := ckS_g gdX11_change_66 39 rfl
theorem gdX11_change_142 : ckS (List.drop 142 cX11_change.data.toList) 142 [(142, .iload 9, 2), (144, .iload 5, 2), (146, .if_icmp .ge 34, 3), (149, .aload_n 0, 1), (150, .getfield 65, 3), (153, .iload 8, 2), (155, .iload_n 3, 1), (156, .iadd, 1), (157, .iload 9, 2), (159, .iadd, 1), (160, .aload_n 0, 1), (161, .getfield 65, 3), (164, .sipush 400, 3), (167, .iload_n 2, 1), (168, .imul, 1), (169, .iload 9, 2), (171, .iadd, 1), (172, .iaload, 1), (173, .iastore, 1), (174, .iinc 9 1, 3), (177, .goto (-35), 3), (180, .aload_n 0, 1), (181, .getfield 37, 3), (184, .iload_n 1, 1), (185, .iload 7, 2), (187, .iload 6, 2), (189, .iadd, 1), (190, .iastore, 1), (191, .iconst 0, 1), (192, .istore 9, 2), (194, .iload 9, 2), (196, .bipush 90, 2), (198, .if_icmp .ge 134, 3), (201, .aload_n 0, 1), (202, .getfield 19, 3), (205, .iload 9, 2), (207, .baload, 1), (208, .ifCond .eq 118, 3), (211, .iload 9, 2), (213, .iload_n 2, 1)] = true := by decide +kernel
theorem dX11_change_142 : decode cX11_change 142 = .ok (.iload 9, 2) := ckS_g gdX11_change_142 0 rfl
theorem dX11_change_144 : decode cX11_change 144 = .ok (.iload 5, 2) := ckS_g gdX11_change_142 1 rfl
theorem dX11_change_146 : decode cX11_change 146 = .ok (.if_icmp .ge 34, 3) := ckS_g gdX11_change_142 2 rfl
theorem dX11_change_149 : decode cX11_change 149 = .ok (.aload_n 0, 1) := ckS_g gdX11_change_142 3 rfl
theorem dX11_change_150 : decode cX11_change 150 = .ok (.getfield 65, 3) := ckS_g gdX11_change_142 4 rfl
theorem dX11_change_153 : decode cX11_change 153 = .ok (.iload 8, 2) := ckS_g gdX11_change_142 5 rfl
theorem dX11_change_155 : decode cX11_change 155 = .ok (.iload_n 3, 1) := ckS_g gdX11_change_142 6 rfl
theorem dX11_change_156 : decode cX11_change 156 = .ok (.iadd, 1) := ckS_g gdX11_change_142 7 rfl
theorem dX11_change_157 : decode cX11_change 157 = .ok (.iload 9, 2) := ckS_g gdX11_change_142 8 rfl
theorem dX11_change_159 : decode cX11_change 159 = .ok (.iadd, 1) := ckS_g gdX11_change_142 9 rfl
theorem dX11_change_160 : decode cX11_change 160 = .ok (.aload_n 0, 1) := ckS_g gdX11_change_142 10 rfl
theorem dX11_change_161 : decode cX11_change 161 = .ok (.getfield 65, 3) := ckS_g gdX11_change_142 11 rfl
theorem dX11_change_164 : decode cX11_change 164 = .ok (.sipush 400, 3) := ckS_g gdX11_change_142 12 rfl
theorem dX11_change_167 : decode cX11_change 167 = .ok (.iload_n 2, 1) := ckS_g gdX11_change_142 13 rfl
theorem dX11_change_168 : decode cX11_change 168 = .ok (.imul, 1) := ckS_g gdX11_change_142 14 rfl
theorem dX11_change_169 : decode cX11_change 169 = .ok (.iload 9, 2) := ckS_g gdX11_change_142 15 rfl
theorem dX11_change_171 : decode cX11_change 171 = .ok (.iadd, 1) := ckS_g gdX11_change_142 16 rfl
theorem dX11_change_172 : decode cX11_change 172 = .ok (.iaload, 1) := ckS_g gdX11_change_142 17 rfl
theorem dX11_change_173 : decode cX11_change 173 = .ok (.iastore, 1) := ckS_g gdX11_change_142 18 rfl
theorem dX11_change_174 : decode cX11_change 174 = .ok (.iinc 9 1, 3) := ckS_g gdX11_change_142 19 rfl
theorem dX11_change_177 : decode cX11_change 177 = .ok (.goto (-35), 3) := ckS_g gdX11_change_142 20 rfl
theorem dX11_change_180 : decode cX11_change 180 = .ok (.aload_n 0, 1) := ckS_g gdX11_change_142 21 rfl
theorem dX11_change_181 : decode cX11_change 181 = .ok (.getfield 37, 3) := ckS_g gdX11_change_142 22 rfl
theorem dX11_change_184 : decode cX11_change 184 = .ok (.iload_n 1, 1) := ckS_g gdX11_change_142 23 rfl
theorem dX11_change_185 : decode cX11_change 185 = .ok (.iload 7, 2) := ckS_g gdX11_change_142 24 rfl
theorem dX11_change_187 : decode cX11_change 187 = .ok (.iload 6, 2) := ckS_g gdX11_change_142 25 rfl
theorem dX11_change_189 : decode cX11_change 189 = .ok (.iadd, 1) := ckS_g gdX11_change_142 26 rfl
theorem dX11_change_190 : decode cX11_change 190 = .ok (.iastore, 1) := ckS_g gdX11_change_142 27 rfl
theorem dX11_change_191 : decode cX11_change 191 = .ok (.iconst 0, 1) := ckS_g gdX11_change_142 28 rfl
theorem dX11_change_192 : decode cX11_change 192 = .ok (.istore 9, 2) := ckS_g gdX11_change_142 29 rfl
theorem dX11_change_194 : decode cX11_change 194 = .ok (.iload 9, 2) := ckS_g gdX11_change_142 30 rfl
theorem dX11_change_196 : decode cX11_change 196 = .ok (.bipush 90, 2) := ckS_g gdX11_change_142 31 rfl
theorem dX11_change_198 : decode cX11_change 198 = .ok (.if_icmp .ge 134, 3) := ckS_g gdX11_change_142 32 rfl
theorem dX11_change_201 : decode cX11_change 201 = .ok (.aload_n 0, 1) := ckS_g gdX11_change_142 33 rfl
theorem dX11_change_202 : decode cX11_change 202 = .ok (.getfield 19, 3) := ckS_g gdX11_change_142 34 rfl
theorem dX11_change_205 : decode cX11_change 205 = .ok (.iload 9, 2) := ckS_g gdX11_change_142 35 rfl
theorem dX11_change_207 : decode cX11_change 207 = .ok (.baload, 1) := ckS_g gdX11_change_142 36 rfl
theorem dX11_change_208 : decode cX11_change 208 = .ok (.ifCond .eq 118, 3) := ckS_g gdX11_change_142 37 rfl
theorem dX11_change_211 : decode cX11_change 211 = .ok (.iload 9, 2) := ckS_g gdX11_change_142 38 rfl
theorem dX11_change_213 : decode cX11_change 213 = .ok (.iload_n 2, 1) := ckS_g gdX11_change_142 39 rfl
theorem gdX11_change_214 : ckS (List.drop 214 cX11_change.data.toList) 214 [(214, .if_icmp .eq 112, 3), (217, .aload_n 0, 1), (218, .getfield 55, 3), (221, .iload 9, 2), (223, .baload, 1), (224, .ifCond .eq 102, 3), (227, .aload_n 0, 1), (228, .getfield 58, 3), (231, .iload 9, 2), (233, .baload, 1), (234, .ifCond .ne 92, 3), (237, .aload_n 0, 1), (238, .getfield 49, 3), (241, .iload 9, 2), (243, .iaload, 1), (244, .aload_n 0, 1), (245, .getfield 46, 3), (248, .iload_n 1, 1), (249, .iaload, 1), (250, .if_icmp .ne 76, 3), (253, .aload_n 0, 1), (254, .iload 9, 2), (256, .invokevirtual 243, 3), (259, .ifCond .eq 6, 3), (262, .goto 64, 3), (265, .aload_n 0, 1), (266, .getfield 43, 3), (269, .iload 9, 2), (271, .iaload, 1), (272, .iload_n 3, 1), (273, .if_icmp .gt 6, 3), (276, .goto 50, 3), (279, .aload_n 0, 1), (280, .getfield 40, 3), (283, .iload 9, 2), (285, .iaload, 1), (286, .iload 4, 2), (288, .if_icmp .lt 30, 3), (291, .aload_n 0, 1), (292, .getfield 40, 3)] = true := by decide +kernel
theorem dX11_change_214 : decode cX11_change 214 = .ok (.if_icmp .eq 112, 3) := ckS_g gdX11_change_214 0 rfl
theorem dX11_change_217 : decode cX11_change 217 = .ok (.aload_n 0, 1) := ckS_g gdX11_change_214 1 rfl
theorem dX11_change_218 : decode cX11_change 218 = .ok (.getfield 55, 3) := ckS_g gdX11_change_214 2 rfl
theorem dX11_change_221 : decode cX11_change 221 = .ok (.iload 9, 2) := ckS_g gdX11_change_214 3 rfl
theorem dX11_change_223 : decode cX11_change 223 = .ok (.baload, 1) := ckS_g gdX11_change_214 4 rfl
theorem dX11_change_224 : decode cX11_change 224 = .ok (.ifCond .eq 102, 3) := ckS_g gdX11_change_214 5 rfl
theorem dX11_change_227 : decode cX11_change 227 = .ok (.aload_n 0, 1) := ckS_g gdX11_change_214 6 rfl
theorem dX11_change_228 : decode cX11_change 228 = .ok (.getfield 58, 3) := ckS_g gdX11_change_214 7 rfl
theorem dX11_change_231 : decode cX11_change 231 = .ok (.iload 9, 2) := ckS_g gdX11_change_214 8 rfl
theorem dX11_change_233 : decode cX11_change 233 = .ok (.baload, 1) := ckS_g gdX11_change_214 9 rfl
theorem dX11_change_234 : decode cX11_change 234 = .ok (.ifCond .ne 92, 3) := ckS_g gdX11_change_214 10 rfl
theorem dX11_change_237 : decode cX11_change 237 = .ok (.aload_n 0, 1) := ckS_g gdX11_change_214 11 rfl
theorem dX11_change_238 : decode cX11_change 238 = .ok (.getfield 49, 3) := ckS_g gdX11_change_214 12 rfl
theorem dX11_change_241 : decode cX11_change 241 = .ok (.iload 9, 2) := ckS_g gdX11_change_214 13 rfl
theorem dX11_change_243 : decode cX11_change 243 = .ok (.iaload, 1) := ckS_g gdX11_change_214 14 rfl
theorem dX11_change_244 : decode cX11_change 244 = .ok (.aload_n 0, 1) := ckS_g gdX11_change_214 15 rfl
theorem dX11_change_245 : decode cX11_change 245 = .ok (.getfield 46, 3) := ckS_g gdX11_change_214 16 rfl
theorem dX11_change_248 : decode cX11_change 248 = .ok (.iload_n 1, 1) := ckS_g gdX11_change_214 17 rfl
theorem dX11_change_249 : decode cX11_change 249 = .ok (.iaload, 1) := ckS_g gdX11_change_214 18 rfl
theorem dX11_change_250 : decode cX11_change 250 = .ok (.if_icmp .ne 76, 3) := ckS_g gdX11_change_214 19 rfl
theorem dX11_change_253 : decode cX11_change 253 = .ok (.aload_n 0, 1) := ckS_g gdX11_change_214 20 rfl
theorem dX11_change_254 : decode cX11_change 254 = .ok (.iload 9, 2) := ckS_g gdX11_change_214 21 rfl
theorem dX11_change_256 : decode cX11_change 256 = .ok (.invokevirtual 243, 3) := ckS_g gdX11_change_214 22 rfl
theorem dX11_change_259 : decode cX11_change 259 = .ok (.ifCond .eq 6, 3) := ckS_g gdX11_change_214 23 rfl
theorem dX11_change_262 : decode cX11_change 262 = .ok (.goto 64, 3) := ckS_g gdX11_change_214 24 rfl
theorem dX11_change_265 : decode cX11_change 265 = .ok (.aload_n 0, 1) := ckS_g gdX11_change_214 25 rfl
theorem dX11_change_266 : decode cX11_change 266 = .ok (.getfield 43, 3) := ckS_g gdX11_change_214 26 rfl
theorem dX11_change_269 : decode cX11_change 269 = .ok (.iload 9, 2) := ckS_g gdX11_change_214 27 rfl
theorem dX11_change_271 : decode cX11_change 271 = .ok (.iaload, 1) := ckS_g gdX11_change_214 28 rfl
theorem dX11_change_272 : decode cX11_change 272 = .ok (.iload_n 3, 1) := ckS_g gdX11_change_214 29 rfl
theorem dX11_change_273 : decode cX11_change 273 = .ok (.if_icmp .gt 6, 3) := ckS_g gdX11_change_214 30 rfl
theorem dX11_change_276 : decode cX11_change 276 = .ok (.goto 50, 3) := ckS_g gdX11_change_214 31 rfl
theorem dX11_change_279 : decode cX11_change 279 = .ok (.aload_n 0, 1) := ckS_g gdX11_change_214 32 rfl
theorem dX11_change_280 : decode cX11_change 280 = .ok (.getfield 40, 3) := ckS_g gdX11_change_214 33 rfl
theorem dX11_change_283 : decode cX11_change 283 = .ok (.iload 9, 2) := ckS_g gdX11_change_214 34 rfl
theorem dX11_change_285 : decode cX11_change 285 = .ok (.iaload, 1) := ckS_g gdX11_change_214 35 rfl
theorem dX11_change_286 : decode cX11_change 286 = .ok (.iload 4, 2) := ckS_g gdX11_change_214 36 rfl
theorem dX11_change_288 : decode cX11_change 288 = .ok (.if_icmp .lt 30, 3) := ckS_g gdX11_change_214 37 rfl
theorem dX11_change_291 : decode cX11_change 291 = .ok (.aload_n 0, 1) := ckS_g gdX11_change_214 38 rfl
theorem dX11_change_292 : decode cX11_change 292 = .ok (.getfield 40, 3) := ckS_g gdX11_change_214 39 rfl
theorem gdX11_change_295 : ckS (List.drop 295 cX11_change.data.toList) 295 [(295, .iload 9, 2), (297, .dup2, 1), (298, .iaload, 1), (299, .iload 6, 2), (301, .iadd, 1), (302, .iastore, 1), (303, .aload_n 0, 1), (304, .getfield 43, 3), (307, .iload 9, 2), (309, .dup2, 1), (310, .iaload, 1), (311, .iload 6, 2), (313, .iadd, 1), (314, .iastore, 1), (315, .goto 11, 3), (318, .aload_n 0, 1), (319, .getfield 58, 3), (322, .iload 9, 2), (324, .iconst 1, 1), (325, .bastore, 1), (326, .iinc 9 1, 3), (329, .goto (-135), 3), (332, .return_, 1)] = true := by decide +kernel
theorem dX11_change_295 : decode cX11_change 295 = .ok (.iload 9, 2) := ckS_g gdX11_change_295 0 rfl
theorem dX11_change_297 : decode cX11_change 297 = .ok (.dup2, 1) := ckS_g gdX11_change_295 1 rfl
theorem dX11_change_298 : decode cX11_change 298 = .ok (.iaload, 1) := ckS_g gdX11_change_295 2 rfl
theorem dX11_change_299 : decode cX11_change 299 = .ok (.iload 6, 2) := ckS_g gdX11_change_295 3 rfl
theorem dX11_change_301 : decode cX11_change 301 = .ok (.iadd, 1) := ckS_g gdX11_change_295 4 rfl
theorem dX11_change_302 : decode cX11_change 302 = .ok (.iastore, 1) := ckS_g gdX11_change_295 5 rfl
theorem dX11_change_303 : decode cX11_change 303 = .ok (.aload_n 0, 1) := ckS_g gdX11_change_295 6 rfl
theorem dX11_change_304 : decode cX11_change 304 = .ok (.getfield 43, 3) := ckS_g gdX11_change_295 7 rfl
theorem dX11_change_307 : decode cX11_change 307 = .ok (.iload 9, 2) := ckS_g gdX11_change_295 8 rfl
theorem dX11_change_309 : decode cX11_change 309 = .ok (.dup2, 1) := ckS_g gdX11_change_295 9 rfl
theorem dX11_change_310 : decode cX11_change 310 = .ok (.iaload, 1) := ckS_g gdX11_change_295 10 rfl
theorem dX11_change_311 : decode cX11_change 311 = .ok (.iload 6, 2) := ckS_g gdX11_change_295 11 rfl
theorem dX11_change_313 : decode cX11_change 313 = .ok (.iadd, 1) := ckS_g gdX11_change_295 12 rfl
theorem dX11_change_314 : decode cX11_change 314 = .ok (.iastore, 1) := ckS_g gdX11_change_295 13 rfl
theorem dX11_change_315 : decode cX11_change 315 = .ok (.goto 11, 3) := ckS_g gdX11_change_295 14 rfl
theorem dX11_change_318 : decode cX11_change 318 = .ok (.aload_n 0, 1) := ckS_g gdX11_change_295 15 rfl
theorem dX11_change_319 : decode cX11_change 319 = .ok (.getfield 58, 3) := ckS_g gdX11_change_295 16 rfl
theorem dX11_change_322 : decode cX11_change 322 = .ok (.iload 9, 2) := ckS_g gdX11_change_295 17 rfl
theorem dX11_change_324 : decode cX11_change 324 = .ok (.iconst 1, 1) := ckS_g gdX11_change_295 18 rfl
theorem dX11_change_325 : decode cX11_change 325 = .ok (.bastore, 1) := ckS_g gdX11_change_295 19 rfl
theorem dX11_change_326 : decode cX11_change 326 = .ok (.iinc 9 1, 3) := ckS_g gdX11_change_295 20 rfl
theorem dX11_change_329 : decode cX11_change 329 = .ok (.goto (-135), 3) := ckS_g gdX11_change_295 21 rfl
theorem dX11_change_332 : decode cX11_change 332 = .ok (.return_, 1) := ckS_g gdX11_change_295 22 rfl
set_option maxRecDepth 100000 in
theorem z146 : wZ (.selects RX11 yX11_isPending yX11_isPending) := ⟨List.mem_append_left _ (List.mem_of_getElem? (i := 26) (by decide +kernel)), Or.inl rfl⟩
set_option maxRecDepth 100000 in
theorem z147 : wZ (.instanceMethod yX11_isPending) := ⟨wT6 (List.mem_of_getElem? (i := 111) (by decide +kernel)), Or.inl rfl⟩
set_option maxRecDepth 100000 in
theorem z148 : wZ (.methodLink RX11 243 yX11_isPending) := ⟨wT6 (List.mem_of_getElem? (i := 109) (by decide +kernel)), Or.inl rfl⟩
set_option maxRecDepth 100000 in
theorem z149 : wZ (.code yX11_change cX11_change 10 none) := ⟨wT6 (List.mem_of_getElem? (i := 108) rfl), Or.inl rfl⟩
def b_X11_change_326 (S : HS) (x1 x2 x3 x4 x5 x6 x7 x8 x9 : Int32) : (Int32 × HS) ⊕ (HS × Int32 × Int32 × Int32 × Int32 × Int32 × Int32 × Int32 × Int32 × Int32) := Sum.inr (S, x1, x2, x3, x4, x5, x6, x7, x8, (x9 + 1))
def q_X11_change_326 (S : HS) (x1 x2 x3 x4 x5 x6 x7 x8 x9 : Int32) : Prop := True
def b_X11_change_a259 (S : HS) (x1 x2 x3 x4 x5 x6 x7 x8 x9 y0 : Int32) : (Int32 × HS) ⊕ (HS × Int32 × Int32 × Int32 × Int32 × Int32 × Int32 × Int32 × Int32 × Int32) := if y0 = 0 then if x3 < (S.2 21 x9.toNatClampNeg) then if (S.2 20 x9.toNatClampNeg) < x4 then (b_X11_change_326 (sA S 26 x9.toNatClampNeg (vp_nar .boolean 1)) x1 x2 x3 x4 x5 x6 x7 x8 x9) else (b_X11_change_326 (sA (sA S 20 x9.toNatClampNeg ((S.2 20 x9.toNatClampNeg) + x6)) 21 x9.toNatClampNeg (((sA S 20 x9.toNatClampNeg ((S.2 20 x9.toNatClampNeg) + x6)).2 21 x9.toNatClampNeg) + x6)) x1 x2 x3 x4 x5 x6 x7 x8 x9) else (b_X11_change_326 S x1 x2 x3 x4 x5 x6 x7 x8 x9) else (b_X11_change_326 S x1 x2 x3 x4 x5 x6 x7 x8 x9)
def q_X11_change_a259 (S : HS) (x1 x2 x3 x4 x5 x6 x7 x8 x9 y0 : Int32) : Prop := (if y0 = 0 then (vp_in x9 90) ∧ (if x3 < (S.2 21 x9.toNatClampNeg) then (vp_in x9 90) ∧ (if (S.2 20 x9.toNatClampNeg) < x4 then (vp_in x9 90) ∧ (q_X11_change_326 (sA S 26 x9.toNatClampNeg (vp_nar .boolean 1)) x1 x2 x3 x4 x5 x6 x7 x8 x9) else (vp_in x9 90) ∧ (vp_in x9 90) ∧ (vp_in x9 90) ∧ (vp_in x9 90) ∧ (q_X11_change_326 (sA (sA S 20 x9.toNatClampNeg ((S.2 20 x9.toNatClampNeg) + x6)) 21 x9.toNatClampNeg (((sA S 20 x9.toNatClampNeg ((S.2 20 x9.toNatClampNeg) + x6)).2 21 x9.toNatClampNeg) + x6)) x1 x2 x3 x4 x5 x6 x7 x8 x9)) else (q_X11_change_326 S x1 x2 x3 x4 x5 x6 x7 x8 x9)) else (q_X11_change_326 S x1 x2 x3 x4 x5 x6 x7 x8 x9))
def st_X11_change_194 (S : HS) (x1 x2 x3 x4 x5 x6 x7 x8 x9 : Int32) : (Int32 × HS) ⊕ (HS × Int32 × Int32 × Int32 × Int32 × Int32 × Int32 × Int32 × Int32 × Int32) := if 90 ≤ x9 then Sum.inl ((0, S)) else if (S.2 13 x9.toNatClampNeg) = 0 then (b_X11_change_326 S x1 x2 x3 x4 x5 x6 x7 x8 x9) else if x9 = x2 then (b_X11_change_326 S x1 x2 x3 x4 x5 x6 x7 x8 x9) else if (S.2 25 x9.toNatClampNeg) = 0 then (b_X11_change_326 S x1 x2 x3 x4 x5 x6 x7 x8 x9) else if (S.2 26 x9.toNatClampNeg) = 0 then if (S.2 23 x9.toNatClampNeg) = (S.2 22 x1.toNatClampNeg) then (b_X11_change_a259 (f_X11_isPending S x9).2 x1 x2 x3 x4 x5 x6 x7 x8 x9 (f_X11_isPending S x9).1) else (b_X11_change_326 S x1 x2 x3 x4 x5 x6 x7 x8 x9) else (b_X11_change_326 S x1 x2 x3 x4 x5 x6 x7 x8 x9)
def ps_X11_change_194 (S : HS) (x1 x2 x3 x4 x5 x6 x7 x8 x9 : Int32) : Prop := (if 90 ≤ x9 then True else (vp_in x9 90) ∧ (if (S.2 13 x9.toNatClampNeg) = 0 then (q_X11_change_326 S x1 x2 x3 x4 x5 x6 x7 x8 x9) else (if x9 = x2 then (q_X11_change_326 S x1 x2 x3 x4 x5 x6 x7 x8 x9) else (vp_in x9 90) ∧ (if (S.2 25 x9.toNatClampNeg) = 0 then (q_X11_change_326 S x1 x2 x3 x4 x5 x6 x7 x8 x9) else (vp_in x9 90) ∧ (if (S.2 26 x9.toNatClampNeg) = 0 then (vp_in x9 90) ∧ (vp_in x1 90) ∧ (if (S.2 23 x9.toNatClampNeg) = (S.2 22 x1.toNatClampNeg) then (p_X11_isPending S x9) ∧ (q_X11_change_a259 (f_X11_isPending S x9).2 x1 x2 x3 x4 x5 x6 x7 x8 x9 (f_X11_isPending S x9).1) else (q_X11_change_326 S x1 x2 x3 x4 x5 x6 x7 x8 x9)) else (q_X11_change_326 S x1 x2 x3 x4 x5 x6 x7 x8 x9))))))
def lp_X11_change_194 : Nat → HS → Int32 → Int32 → Int32 → Int32 → Int32 → Int32 → Int32 → Int32 → Int32 → Int32 × HS
  | 0, S, _, _, _, _, _, _, _, _, _ => (0, S)
  | n + 1, S, x1, x2, x3, x4, x5, x6, x7, x8, x9 => match st_X11_change_194 S x1 x2 x3 x4 x5 x6 x7 x8 x9 with
    | Sum.inl r => r
    | Sum.inr q => lp_X11_change_194 n q.1 q.2.1 q.2.2.1 q.2.2.2.1 q.2.2.2.2.1 q.2.2.2.2.2.1 q.2.2.2.2.2.2.1 q.2.2.2.2.2.2.2.1 q.2.2.2.2.2.2.2.2.1 q.2.2.2.2.2.2.2.2.2
def lq_X11_change_194 : Nat → HS → Int32 → Int32 → Int32 → Int32 → Int32 → Int32 → Int32 → Int32 → Int32 → Prop
  | 0, _, _, _, _, _, _, _, _, _, _ => False
  | n + 1, S, x1, x2, x3, x4, x5, x6, x7, x8, x9 => ps_X11_change_194 S x1 x2 x3 x4 x5 x6 x7 x8 x9 ∧ (match st_X11_change_194 S x1 x2 x3 x4 x5 x6 x7 x8 x9 with
    | Sum.inl _ => True
    | Sum.inr q => lq_X11_change_194 n q.1 q.2.1 q.2.2.1 q.2.2.2.1 q.2.2.2.2.1 q.2.2.2.2.2.1 q.2.2.2.2.2.2.1 q.2.2.2.2.2.2.2.1 q.2.2.2.2.2.2.2.2.1 q.2.2.2.2.2.2.2.2.2)
def st_X11_change_142 (S : HS) (x1 x2 x3 x4 x5 x6 x7 x8 x9 : Int32) : (Int32 × HS) ⊕ (HS × Int32 × Int32 × Int32 × Int32 × Int32 × Int32 × Int32 × Int32 × Int32) := if x5 ≤ x9 then Sum.inl ((lp_X11_change_194 100000 (sA S 19 x1.toNatClampNeg (x7 + x6)) x1 x2 x3 x4 x5 x6 x7 x8 0)) else Sum.inr ((sA S 28 ((x8 + x3) + x9).toNatClampNeg (S.2 28 ((400 * x2) + x9).toNatClampNeg)), x1, x2, x3, x4, x5, x6, x7, x8, (x9 + 1))
def ps_X11_change_142 (S : HS) (x1 x2 x3 x4 x5 x6 x7 x8 x9 : Int32) : Prop := (if x5 ≤ x9 then (vp_in x1 90) ∧ (lq_X11_change_194 100000 (sA S 19 x1.toNatClampNeg (x7 + x6)) x1 x2 x3 x4 x5 x6 x7 x8 0) else (vp_in ((400 * x2) + x9) 36000) ∧ (vp_in ((x8 + x3) + x9) 36000) ∧ True)
def lp_X11_change_142 : Nat → HS → Int32 → Int32 → Int32 → Int32 → Int32 → Int32 → Int32 → Int32 → Int32 → Int32 × HS
  | 0, S, _, _, _, _, _, _, _, _, _ => (0, S)
  | n + 1, S, x1, x2, x3, x4, x5, x6, x7, x8, x9 => match st_X11_change_142 S x1 x2 x3 x4 x5 x6 x7 x8 x9 with
    | Sum.inl r => r
    | Sum.inr q => lp_X11_change_142 n q.1 q.2.1 q.2.2.1 q.2.2.2.1 q.2.2.2.2.1 q.2.2.2.2.2.1 q.2.2.2.2.2.2.1 q.2.2.2.2.2.2.2.1 q.2.2.2.2.2.2.2.2.1 q.2.2.2.2.2.2.2.2.2
def lq_X11_change_142 : Nat → HS → Int32 → Int32 → Int32 → Int32 → Int32 → Int32 → Int32 → Int32 → Int32 → Prop
  | 0, _, _, _, _, _, _, _, _, _, _ => False
  | n + 1, S, x1, x2, x3, x4, x5, x6, x7, x8, x9 => ps_X11_change_142 S x1 x2 x3 x4 x5 x6 x7 x8 x9 ∧ (match st_X11_change_142 S x1 x2 x3 x4 x5 x6 x7 x8 x9 with
    | Sum.inl _ => True
    | Sum.inr q => lq_X11_change_142 n q.1 q.2.1 q.2.2.1 q.2.2.2.1 q.2.2.2.2.1 q.2.2.2.2.2.1 q.2.2.2.2.2.2.1 q.2.2.2.2.2.2.2.1 q.2.2.2.2.2.2.2.2.1 q.2.2.2.2.2.2.2.2.2)
def b_X11_change_139 (S : HS) (x1 x2 x3 x4 x5 x6 x7 x8 : Int32) : Int32 × HS := (lp_X11_change_142 100000 S x1 x2 x3 x4 x5 x6 x7 x8 0)
def q_X11_change_139 (S : HS) (x1 x2 x3 x4 x5 x6 x7 x8 : Int32) : Prop := (lq_X11_change_142 100000 S x1 x2 x3 x4 x5 x6 x7 x8 0)
def st_X11_change_103 (S : HS) (x1 x2 x3 x4 x5 x6 x7 x8 x9 : Int32) : (Int32 × HS) ⊕ (HS × Int32 × Int32 × Int32 × Int32 × Int32 × Int32 × Int32 × Int32 × Int32) := if x7 ≤ x9 then Sum.inl ((b_X11_change_139 S x1 x2 x3 x4 x5 x6 x7 x8)) else Sum.inr ((sA S 28 ((x8 + x9) + x6).toNatClampNeg (S.2 28 (x8 + x9).toNatClampNeg)), x1, x2, x3, x4, x5, x6, x7, x8, (x9 + 1))
def ps_X11_change_103 (S : HS) (x1 x2 x3 x4 x5 x6 x7 x8 x9 : Int32) : Prop := (if x7 ≤ x9 then (q_X11_change_139 S x1 x2 x3 x4 x5 x6 x7 x8) else (vp_in (x8 + x9) 36000) ∧ (vp_in ((x8 + x9) + x6) 36000) ∧ True)
def lp_X11_change_103 : Nat → HS → Int32 → Int32 → Int32 → Int32 → Int32 → Int32 → Int32 → Int32 → Int32 → Int32 × HS
  | 0, S, _, _, _, _, _, _, _, _, _ => (0, S)
  | n + 1, S, x1, x2, x3, x4, x5, x6, x7, x8, x9 => match st_X11_change_103 S x1 x2 x3 x4 x5 x6 x7 x8 x9 with
    | Sum.inl r => r
    | Sum.inr q => lp_X11_change_103 n q.1 q.2.1 q.2.2.1 q.2.2.2.1 q.2.2.2.2.1 q.2.2.2.2.2.1 q.2.2.2.2.2.2.1 q.2.2.2.2.2.2.2.1 q.2.2.2.2.2.2.2.2.1 q.2.2.2.2.2.2.2.2.2
def lq_X11_change_103 : Nat → HS → Int32 → Int32 → Int32 → Int32 → Int32 → Int32 → Int32 → Int32 → Int32 → Prop
  | 0, _, _, _, _, _, _, _, _, _, _ => False
  | n + 1, S, x1, x2, x3, x4, x5, x6, x7, x8, x9 => ps_X11_change_103 S x1 x2 x3 x4 x5 x6 x7 x8 x9 ∧ (match st_X11_change_103 S x1 x2 x3 x4 x5 x6 x7 x8 x9 with
    | Sum.inl _ => True
    | Sum.inr q => lq_X11_change_103 n q.1 q.2.1 q.2.2.1 q.2.2.2.1 q.2.2.2.2.1 q.2.2.2.2.2.1 q.2.2.2.2.2.2.1 q.2.2.2.2.2.2.2.1 q.2.2.2.2.2.2.2.2.1 q.2.2.2.2.2.2.2.2.2)
def b_X11_change_94 (S : HS) (x1 x2 x3 x4 x5 x6 x7 x8 : Int32) : Int32 × HS := if 0 ≤ x6 then (b_X11_change_139 S x1 x2 x3 x4 x5 x6 x7 x8) else (lp_X11_change_103 100000 S x1 x2 x3 x4 x5 x6 x7 x8 x4)
def q_X11_change_94 (S : HS) (x1 x2 x3 x4 x5 x6 x7 x8 : Int32) : Prop := (if 0 ≤ x6 then (q_X11_change_139 S x1 x2 x3 x4 x5 x6 x7 x8) else (lq_X11_change_103 100000 S x1 x2 x3 x4 x5 x6 x7 x8 x4))
def st_X11_change_58 (S : HS) (x1 x2 x3 x4 x5 x6 x7 x8 x9 : Int32) : (Int32 × HS) ⊕ (HS × Int32 × Int32 × Int32 × Int32 × Int32 × Int32 × Int32 × Int32 × Int32) := if x9 < x4 then Sum.inl ((b_X11_change_94 S x1 x2 x3 x4 x5 x6 x7 x8)) else Sum.inr ((sA S 28 ((x8 + x9) + x6).toNatClampNeg (S.2 28 (x8 + x9).toNatClampNeg)), x1, x2, x3, x4, x5, x6, x7, x8, (x9 + (-1)))
def ps_X11_change_58 (S : HS) (x1 x2 x3 x4 x5 x6 x7 x8 x9 : Int32) : Prop := (if x9 < x4 then (q_X11_change_94 S x1 x2 x3 x4 x5 x6 x7 x8) else (vp_in (x8 + x9) 36000) ∧ (vp_in ((x8 + x9) + x6) 36000) ∧ True)
def lp_X11_change_58 : Nat → HS → Int32 → Int32 → Int32 → Int32 → Int32 → Int32 → Int32 → Int32 → Int32 → Int32 × HS
  | 0, S, _, _, _, _, _, _, _, _, _ => (0, S)
  | n + 1, S, x1, x2, x3, x4, x5, x6, x7, x8, x9 => match st_X11_change_58 S x1 x2 x3 x4 x5 x6 x7 x8 x9 with
    | Sum.inl r => r
    | Sum.inr q => lp_X11_change_58 n q.1 q.2.1 q.2.2.1 q.2.2.2.1 q.2.2.2.2.1 q.2.2.2.2.2.1 q.2.2.2.2.2.2.1 q.2.2.2.2.2.2.2.1 q.2.2.2.2.2.2.2.2.1 q.2.2.2.2.2.2.2.2.2
def lq_X11_change_58 : Nat → HS → Int32 → Int32 → Int32 → Int32 → Int32 → Int32 → Int32 → Int32 → Int32 → Prop
  | 0, _, _, _, _, _, _, _, _, _, _ => False
  | n + 1, S, x1, x2, x3, x4, x5, x6, x7, x8, x9 => ps_X11_change_58 S x1 x2 x3 x4 x5 x6 x7 x8 x9 ∧ (match st_X11_change_58 S x1 x2 x3 x4 x5 x6 x7 x8 x9 with
    | Sum.inl _ => True
    | Sum.inr q => lq_X11_change_58 n q.1 q.2.1 q.2.2.1 q.2.2.2.1 q.2.2.2.2.1 q.2.2.2.2.2.1 q.2.2.2.2.2.2.1 q.2.2.2.2.2.2.2.1 q.2.2.2.2.2.2.2.2.1 q.2.2.2.2.2.2.2.2.2)
def f_X11_change (S : HS) (x1 x2 : Int32) : Int32 × HS := if ((S.2 19 x2.toNatClampNeg) - ((S.2 21 x2.toNatClampNeg) - (S.2 20 x2.toNatClampNeg))) ≤ 0 then (b_X11_change_94 S x1 x2 (S.2 20 x2.toNatClampNeg) (S.2 21 x2.toNatClampNeg) (S.2 19 x2.toNatClampNeg) ((S.2 19 x2.toNatClampNeg) - ((S.2 21 x2.toNatClampNeg) - (S.2 20 x2.toNatClampNeg))) (S.2 19 x1.toNatClampNeg) (400 * x1)) else (lp_X11_change_58 100000 S x1 x2 (S.2 20 x2.toNatClampNeg) (S.2 21 x2.toNatClampNeg) (S.2 19 x2.toNatClampNeg) ((S.2 19 x2.toNatClampNeg) - ((S.2 21 x2.toNatClampNeg) - (S.2 20 x2.toNatClampNeg))) (S.2 19 x1.toNatClampNeg) (400 * x1) ((S.2 19 x1.toNatClampNeg) - 1))
def p_X11_change (S : HS) (x1 x2 : Int32) : Prop := (vp_in x2 90) ∧ (vp_in x2 90) ∧ (vp_in x2 90) ∧ (vp_in x1 90) ∧ (if ((S.2 19 x2.toNatClampNeg) - ((S.2 21 x2.toNatClampNeg) - (S.2 20 x2.toNatClampNeg))) ≤ 0 then (q_X11_change_94 S x1 x2 (S.2 20 x2.toNatClampNeg) (S.2 21 x2.toNatClampNeg) (S.2 19 x2.toNatClampNeg) ((S.2 19 x2.toNatClampNeg) - ((S.2 21 x2.toNatClampNeg) - (S.2 20 x2.toNatClampNeg))) (S.2 19 x1.toNatClampNeg) (400 * x1)) else (lq_X11_change_58 100000 S x1 x2 (S.2 20 x2.toNatClampNeg) (S.2 21 x2.toNatClampNeg) (S.2 19 x2.toNatClampNeg) ((S.2 19 x2.toNatClampNeg) - ((S.2 21 x2.toNatClampNeg) - (S.2 20 x2.toNatClampNeg))) (S.2 19 x1.toNatClampNeg) (400 * x1) ((S.2 19 x1.toNatClampNeg) - 1)))
def e_X11_change : List Cond := [.fieldLink RX11 40 "MotionFloorModel$Hall" "from" "[I", .fieldLink RX11 43 "MotionFloorModel$Hall" "to" "[I", .fieldLink RX11 37 "MotionFloorModel$Hall" "words" "[I", .fieldLink RX11 19 "MotionFloorModel$Hall" "used" "[Z", .fieldLink RX11 55 "MotionFloorModel$Hall" "laid" "[Z", .fieldLink RX11 58 "MotionFloorModel$Hall" "outside" "[Z", .fieldLink RX11 49 "MotionFloorModel$Hall" "subject" "[I", .fieldLink RX11 46 "MotionFloorModel$Hall" "self" "[I", .methodLink RX11 243 yX11_isPending, .instanceMethod yX11_isPending, .selects RX11 yX11_isPending yX11_isPending, .initialized RX11, .fieldLink RX11 65 "MotionFloorModel$Hall" "text" "[I"]
def v_X11_change : List Cond := .code yX11_change cX11_change 10 none :: (e_X11_change ++ (wsX110 ++ (v_X11_isPending ++ [])))
theorem te_X11_change : GoodIn lw_tbl e_X11_change := wGc z75 (wGc z74 (wGc z76 (wGc z79 (wGc z72 (wGc z71 (wGc z73 (wGc z63 (wGc z148 (wGc z147 (wGc z146 (wGc z51 (wGc z137 (wG0)))))))))))))
theorem t_X11_change : GoodIn lw_tbl v_X11_change := wGc z149 (wGa te_X11_change (wGa zcX11 (wGa t_X11_isPending (wG0))))
set_option maxHeartbeats 4000000 in
set_option maxRecDepth 100000 in
theorem c_X11_change (l : Launch) (G : va_G) (K : Nat → ClassId) (h : Nat) (g : Nat → Nat) (S0 : HS) (a1 a2 : Int32) (sz : Nat) : Met l yX11_change v_X11_change ({ frames := 1, cells := 0, slots := 0, locals := 22 }) (va_Pc [.ref h, .int a1, .int a2] (hS G K h g sz S0 (p_X11_change S0 a1 a2))) (va_Qv (fun u : HS => (0, u) = f_X11_change S0 a1 a2) (hB G K h g (va_A (hW K h g S0) sz)) (va_A (hW K h g S0) sz)) 0 0 (va_A (hW K h g S0) sz) := by
  refine Met.ofW (cc := cX11_change) (maxL := 10) (ret := none) (by decide) rfl ?_
  intro p e s m args below meth c s₁ B hml hv
  obtain ⟨rfl, ⟨hsz, hP, hK, hD0, hTE⟩, hp⟩ := hv
  have hx := B.exec
  have hb := B.bytes
  have hr := B.returns
  have hts := atoms_spec (ws := v_X11_change) B.pre
  have t_ := t_X11_change
  have mw : ∀ w ∈ e_X11_change, w ∈ v_X11_change := fun w h => List.mem_cons_of_mem _ (List.mem_append_left _ h)
  have hw := fun w (h : w ∈ e_X11_change) => hts w (mw w h)
  have iX11 : ∀ w ∈ wsX110, w ∈ v_X11_change := fun w h => List.mem_cons_of_mem _ (List.mem_append_right _ (List.mem_append_left _ h))
  have j_X11_isPending : ∀ w ∈ v_X11_isPending, w ∈ v_X11_change := fun w h => List.mem_cons_of_mem _ (List.mem_append_right _ (List.mem_append_right _ (List.mem_append_left _ h)))
  have hown : s.vm.findClass RX11 = some m.cls := findClass_of_methodNamed B.named
  have hlocks := B.notSynchronized
  subst hsz
  have hD := hD0.self (sz := s.heap.size)
  generalize hAe : va_A (hW K h g S0) s.heap.size = A at hD ⊢
  have hA : ∀ q : Nat, s.heap.size ≤ q → A q := fun q h => by rw [← hAe]; exact Or.inr h
  have hS : va_S A s.heap s.heap [] := va_S.rf
  have hl := lv_entry ([.ref h, .int a1, .int a2]) (n := 10) (Nat.le_of_ble_eq_true rfl)
  rw [lg_entry_eq]
  generalize (lg_sl ([.ref h, .int a1, .int a2]) ++ List.replicate (10 - (lg_sl ([.ref h, .int a1, .int a2])).length) Slot.unset).toArray = ls at hl ⊢
  have hl : lv_has ls 10 [(0, .ref h), (1, .int a1), (2, .int a2)] := hl
  refine wGen (fun Q hQ => ?_)
  obtain ⟨X, hX⟩ : ∃ X, f_X11_change S0 a1 a2 = X := ⟨_, rfl⟩
  have L_194 : ∀ (n : Nat) (S : HS) (x1 x2 x3 x4 x5 x6 x7 x8 x9 : Int32) (H : Heap) (locs : List Loc) (ls : Array Slot), lp_X11_change_194 n S x1 x2 x3 x4 x5 x6 x7 x8 x9 = X → lq_X11_change_194 n S x1 x2 x3 x4 x5 x6 x7 x8 x9 → va_P G vwCl (hW K h g S) H → va_D A (hW K h g S) → va_S A s.heap H locs → lv_has ls 10 [(0, .ref h), (1, .int x1), (2, .int x2), (3, .int x3), (4, .int x4), (5, .int x5), (6, .int x6), (7, .int x7), (8, .int x8), (9, .int x9)] → W p l e ({ frames := 1, cells := 0, slots := 0, locals := 22 } : Room) s m #[Value.ref h, Value.int a1, Value.int a2] below meth c H locs 0 0 Q (F0 m 194 ls []) := by
    intro n1
    induction n1 with
    | zero => intro S x1 x2 x3 x4 x5 x6 x7 x8 x9 H locs ls hE hp; exact False.elim hp
    | succ n1 ih1 =>
      intro S x1 x2 x3 x4 x5 x6 x7 x8 x9 H locs ls hO1 hp hP hD hS hl
      rw [lp_X11_change_194] at hO1
      rw [lq_X11_change_194] at hp
      obtain ⟨hp, hq1⟩ := hp
      generalize hE : st_X11_change_194 S x1 x2 x3 x4 x5 x6 x7 x8 x9 = Y1 at hO1 hq1
      unfold st_X11_change_194 at hE
      unfold ps_X11_change_194 at hp
      have B_326 : ∀ (S : HS) (x1 x2 x3 x4 x5 x6 x7 x8 x9 : Int32) (H : Heap) (locs : List Loc) (ls : Array Slot), b_X11_change_326 S x1 x2 x3 x4 x5 x6 x7 x8 x9 = Y1 → q_X11_change_326 S x1 x2 x3 x4 x5 x6 x7 x8 x9 → va_P G vwCl (hW K h g S) H → va_D A (hW K h g S) → va_S A s.heap H locs → lv_has ls 10 [(0, .ref h), (1, .int x1), (2, .int x2), (3, .int x3), (4, .int x4), (5, .int x5), (6, .int x6), (7, .int x7), (8, .int x8), (9, .int x9)] → W p l e ({ frames := 1, cells := 0, slots := 0, locals := 22 } : Room) s m #[Value.ref h, Value.int a1, Value.int a2] below meth c H locs 0 0 Q (F0 m 326 ls []) := by
        intro S x1 x2 x3 x4 x5 x6 x7 x8 x9 H locs ls hE hp hP hD hS hl
        unfold b_X11_change_326 at hE
        unfold q_X11_change_326 at hp
        refine lv_iinc (v := (x9 + 1)) (lv' := [(9, .int (x9 + 1)), (0, .ref h), (1, .int x1), (2, .int x2), (3, .int x3), (4, .int x4), (5, .int x5), (6, .int x6), (7, .int x7), (8, .int x8)]) hx hb dX11_change_326 hl (k := 9) rfl rfl (by decide) rfl (fun ls hl => ?_)
        refine lv_goto (tgt := 194) hx hb dX11_change_329 (by decide) ?_
        subst hE
        dsimp only at hO1 hq1
        exact ih1 S x1 x2 x3 x4 x5 x6 x7 x8 (x9 + 1) _ _ _ hO1 hq1 hP hD hS (lv_sub hl [1, 2, 3, 4, 5, 6, 7, 8, 9, 0] rfl)
      refine lv_iload hx hb dX11_change_194 (lv_at hl 9 rfl) ?_
      refine lv_bipush (v := 90) hx hb dX11_change_196 (by decide) ?_
      refine lv_icmp_ge (tgt := 332) hx hb dX11_change_198 (by decide) (fun c9 => ?_) (fun c9 => ?_)
      · rw [if_pos c9] at hE hp
        subst hE
        have hE := hO1
        dsimp only at hE
        subst hQ
        exact W.vret hx hb hr (fun t ht hW => ⟨⟨S, rfl, hE.trans hX.symm, by rw [ht]; exact hP, hD⟩, hS.F ht⟩) hS.2.2 dX11_change_332
      · rw [if_neg c9] at hE hp
        refine lv_aload_n hx hb dX11_change_201 rfl (lv_at hl 0 rfl) ?_
        refine va_get (D := G) (ci := 8) (v := .ref (g 13)) (C := RX11) (T := TX11) (N := 42) hx hb hts iX11 hown hK hP 0 rfl rfl 13 (by decide) (hw (.fieldLink RX11 19 "MotionFloorModel$Hall" "used" "[Z") (List.mem_of_getElem? (i := 3) rfl)) (fun _ h9 => h9) rfl dX11_change_202 ?_
        refine lv_iload hx hb dX11_change_205 (lv_at hl 9 rfl) ?_
        obtain ⟨hy10, hp⟩ := hp
        refine va_zald hx hb hK hP 3 1 rfl rfl hy10 dX11_change_207 ?_
        refine lv_if_eq (tgt := 326) hx hb dX11_change_208 (by decide) (fun c11 => ?_) (fun c11 => ?_)
        · rw [if_pos c11] at hE hp
          exact B_326 S x1 x2 x3 x4 x5 x6 x7 x8 x9 _ _ _ hE hp hP hD hS (lv_sub hl [0, 1, 2, 3, 4, 5, 6, 7, 8, 9] rfl)
        · rw [if_neg c11] at hE hp
          refine lv_iload hx hb dX11_change_211 (lv_at hl 9 rfl) ?_
          refine lv_iload_n hx hb dX11_change_213 rfl (lv_at hl 2 rfl) ?_
          refine lv_icmp_eq (tgt := 326) hx hb dX11_change_214 (by decide) (fun c12 => ?_) (fun c12 => ?_)
          · rw [if_pos c12] at hE hp
            exact B_326 S x1 x2 x3 x4 x5 x6 x7 x8 x9 _ _ _ hE hp hP hD hS (lv_sub hl [0, 1, 2, 3, 4, 5, 6, 7, 8, 9] rfl)
          · rw [if_neg c12] at hE hp
            refine lv_aload_n hx hb dX11_change_217 rfl (lv_at hl 0 rfl) ?_
            refine va_get (D := G) (ci := 8) (v := .ref (g 25)) (C := RX11) (T := TX11) (N := 42) hx hb hts iX11 hown hK hP 0 rfl rfl 25 (by decide) (hw (.fieldLink RX11 55 "MotionFloorModel$Hall" "laid" "[Z") (List.mem_of_getElem? (i := 4) rfl)) (fun _ h9 => h9) rfl dX11_change_218 ?_
            refine lv_iload hx hb dX11_change_221 (lv_at hl 9 rfl) ?_
            obtain ⟨hy13, hp⟩ := hp
            refine va_zald hx hb hK hP 15 1 rfl rfl hy13 dX11_change_223 ?_
            refine lv_if_eq (tgt := 326) hx hb dX11_change_224 (by decide) (fun c14 => ?_) (fun c14 => ?_)
            · rw [if_pos c14] at hE hp
              exact B_326 S x1 x2 x3 x4 x5 x6 x7 x8 x9 _ _ _ hE hp hP hD hS (lv_sub hl [0, 1, 2, 3, 4, 5, 6, 7, 8, 9] rfl)
            · rw [if_neg c14] at hE hp
              refine lv_aload_n hx hb dX11_change_227 rfl (lv_at hl 0 rfl) ?_
              refine va_get (D := G) (ci := 8) (v := .ref (g 26)) (C := RX11) (T := TX11) (N := 42) hx hb hts iX11 hown hK hP 0 rfl rfl 26 (by decide) (hw (.fieldLink RX11 58 "MotionFloorModel$Hall" "outside" "[Z") (List.mem_of_getElem? (i := 5) rfl)) (fun _ h9 => h9) rfl dX11_change_228 ?_
              refine lv_iload hx hb dX11_change_231 (lv_at hl 9 rfl) ?_
              obtain ⟨hy15, hp⟩ := hp
              refine va_zald hx hb hK hP 16 1 rfl rfl hy15 dX11_change_233 ?_
              refine lv_if_ne (tgt := 326) hx hb dX11_change_234 (by decide) (fun c16 => ?_) (fun c16 => ?_)
              · rw [if_neg c16] at hE hp
                exact B_326 S x1 x2 x3 x4 x5 x6 x7 x8 x9 _ _ _ hE hp hP hD hS (lv_sub hl [0, 1, 2, 3, 4, 5, 6, 7, 8, 9] rfl)
              · rw [if_pos c16] at hE hp
                refine lv_aload_n hx hb dX11_change_237 rfl (lv_at hl 0 rfl) ?_
                refine va_get (D := G) (ci := 8) (v := .ref (g 23)) (C := RX11) (T := TX11) (N := 42) hx hb hts iX11 hown hK hP 0 rfl rfl 23 (by decide) (hw (.fieldLink RX11 49 "MotionFloorModel$Hall" "subject" "[I") (List.mem_of_getElem? (i := 6) rfl)) (fun _ h9 => h9) rfl dX11_change_238 ?_
                refine lv_iload hx hb dX11_change_241 (lv_at hl 9 rfl) ?_
                obtain ⟨hy17, hp⟩ := hp
                refine va_iald hx hb hK hP 13 0 rfl rfl hy17 dX11_change_243 ?_
                refine lv_aload_n hx hb dX11_change_244 rfl (lv_at hl 0 rfl) ?_
                refine va_get (D := G) (ci := 8) (v := .ref (g 22)) (C := RX11) (T := TX11) (N := 42) hx hb hts iX11 hown hK hP 0 rfl rfl 22 (by decide) (hw (.fieldLink RX11 46 "MotionFloorModel$Hall" "self" "[I") (List.mem_of_getElem? (i := 7) rfl)) (fun _ h9 => h9) rfl dX11_change_245 ?_
                refine lv_iload_n hx hb dX11_change_248 rfl (lv_at hl 1 rfl) ?_
                obtain ⟨hy18, hp⟩ := hp
                refine va_iald hx hb hK hP 12 0 rfl rfl hy18 dX11_change_249 ?_
                refine lv_icmp_ne (tgt := 326) hx hb dX11_change_250 (by decide) (fun c19 => ?_) (fun c19 => ?_)
                · rw [if_neg c19] at hE hp
                  exact B_326 S x1 x2 x3 x4 x5 x6 x7 x8 x9 _ _ _ hE hp hP hD hS (lv_sub hl [0, 1, 2, 3, 4, 5, 6, 7, 8, 9] rfl)
                · rw [if_pos c19] at hE hp
                  refine lv_aload_n hx hb dX11_change_253 rfl (lv_at hl 0 rfl) ?_
                  refine lv_iload hx hb dX11_change_254 (lv_at hl 9 rfl) ?_
                  obtain ⟨hy20, hp⟩ := hp
                  refine hGoi (va_runV (As := [.int x9]) (rest := []) ⟨hx, hb, hml, hown, hts⟩ (c_X11_isPending l G K h g S x9 _) (cwV 1 hts (wGV t_ (mw (.methodLink RX11 243 yX11_isPending) (List.mem_of_getElem? (i := 8) rfl)) (mw (.instanceMethod yX11_isPending) (List.mem_of_getElem? (i := 9) rfl)) (mw (.selects RX11 yX11_isPending yX11_isPending) (List.mem_of_getElem? (i := 10) rfl)) (mw (.initialized RX11) (List.mem_of_getElem? (i := 11) rfl)) j_X11_isPending) rfl rfl rfl (by decide +kernel) ⟨Nat.le_of_ble_eq_true rfl, Nat.le_of_ble_eq_true rfl⟩) (hPV hK hTE hP hD hy20) rfl rfl hl.1 rfl (lv_room (Nat.le_of_ble_eq_true rfl)) dX11_change_256 ⟨Nat.le_of_ble_eq_true rfl, Nat.le_of_ble_eq_true rfl⟩) hP hD hS hA (fun r22 u21 H locs hv hP hD hS => ?_)
                  rw [← hv] at hE hp
                  dsimp only at hE hp
                  unfold b_X11_change_a259 at hE
                  unfold q_X11_change_a259 at hp
                  refine lv_if_eq (tgt := 265) hx hb dX11_change_259 (by decide) (fun c23 => ?_) (fun c23 => ?_)
                  · rw [if_pos c23] at hE hp
                    refine lv_aload_n hx hb dX11_change_265 rfl (lv_at hl 0 rfl) ?_
                    refine va_get (D := G) (ci := 8) (v := .ref (g 21)) (C := RX11) (T := TX11) (N := 42) hx hb hts iX11 hown hK hP 0 rfl rfl 21 (by decide) (hw (.fieldLink RX11 43 "MotionFloorModel$Hall" "to" "[I") (List.mem_of_getElem? (i := 1) rfl)) (fun _ h9 => h9) rfl dX11_change_266 ?_
                    refine lv_iload hx hb dX11_change_269 (lv_at hl 9 rfl) ?_
                    obtain ⟨hy24, hp⟩ := hp
                    refine va_iald hx hb hK hP 11 0 rfl rfl hy24 dX11_change_271 ?_
                    refine lv_iload_n hx hb dX11_change_272 rfl (lv_at hl 3 rfl) ?_
                    refine lv_icmp_gt (tgt := 279) hx hb dX11_change_273 (by decide) (fun c25 => ?_) (fun c25 => ?_)
                    · rw [if_pos c25] at hE hp
                      refine lv_aload_n hx hb dX11_change_279 rfl (lv_at hl 0 rfl) ?_
                      refine va_get (D := G) (ci := 8) (v := .ref (g 20)) (C := RX11) (T := TX11) (N := 42) hx hb hts iX11 hown hK hP 0 rfl rfl 20 (by decide) (hw (.fieldLink RX11 40 "MotionFloorModel$Hall" "from" "[I") (List.mem_of_getElem? (i := 0) rfl)) (fun _ h9 => h9) rfl dX11_change_280 ?_
                      refine lv_iload hx hb dX11_change_283 (lv_at hl 9 rfl) ?_
                      obtain ⟨hy26, hp⟩ := hp
                      refine va_iald hx hb hK hP 10 0 rfl rfl hy26 dX11_change_285 ?_
                      refine lv_iload hx hb dX11_change_286 (lv_at hl 4 rfl) ?_
                      refine lv_icmp_lt (tgt := 318) hx hb dX11_change_288 (by decide) (fun c27 => ?_) (fun c27 => ?_)
                      · rw [if_pos c27] at hE hp
                        refine lv_aload_n hx hb dX11_change_318 rfl (lv_at hl 0 rfl) ?_
                        refine va_get (D := G) (ci := 8) (v := .ref (g 26)) (C := RX11) (T := TX11) (N := 42) hx hb hts iX11 hown hK hP 0 rfl rfl 26 (by decide) (hw (.fieldLink RX11 58 "MotionFloorModel$Hall" "outside" "[Z") (List.mem_of_getElem? (i := 5) rfl)) (fun _ h9 => h9) rfl dX11_change_319 ?_
                        refine lv_iload hx hb dX11_change_322 (lv_at hl 9 rfl) ?_
                        refine lv_iconst (v := 1) hx hb dX11_change_324 (by decide) ?_
                        obtain ⟨hy28, hp⟩ := hp
                        refine va_zast hx hb hK hP hD hS 16 1 rfl rfl hy28 dX11_change_325 (fun H locs hP hD hS => ?_)
                        rw [sA_26] at hP hD
                        exact B_326 (sA u21 26 x9.toNatClampNeg (vp_nar .boolean 1)) x1 x2 x3 x4 x5 x6 x7 x8 x9 _ _ _ hE hp hP hD hS (lv_sub hl [0, 1, 2, 3, 4, 5, 6, 7, 8, 9] rfl)
                      · rw [if_neg c27] at hE hp
                        refine lv_aload_n hx hb dX11_change_291 rfl (lv_at hl 0 rfl) ?_
                        refine va_get (D := G) (ci := 8) (v := .ref (g 20)) (C := RX11) (T := TX11) (N := 42) hx hb hts iX11 hown hK hP 0 rfl rfl 20 (by decide) (hw (.fieldLink RX11 40 "MotionFloorModel$Hall" "from" "[I") (List.mem_of_getElem? (i := 0) rfl)) (fun _ h9 => h9) rfl dX11_change_292 ?_
                        refine lv_iload hx hb dX11_change_295 (lv_at hl 9 rfl) ?_
                        refine lv_dup2_11 hx hb dX11_change_297 rfl rfl ?_
                        obtain ⟨hy29, hp⟩ := hp
                        refine va_iald hx hb hK hP 10 0 rfl rfl hy29 dX11_change_298 ?_
                        refine lv_iload hx hb dX11_change_299 (lv_at hl 6 rfl) ?_
                        refine lv_iadd hx hb dX11_change_301 ?_
                        obtain ⟨hy30, hp⟩ := hp
                        refine va_iast hx hb hK hP hD hS 10 0 rfl rfl hy30 dX11_change_302 (fun H locs hP hD hS => ?_)
                        rw [sA_20] at hP hD
                        refine lv_aload_n hx hb dX11_change_303 rfl (lv_at hl 0 rfl) ?_
                        refine va_get (D := G) (ci := 8) (v := .ref (g 21)) (C := RX11) (T := TX11) (N := 42) hx hb hts iX11 hown hK hP 0 rfl rfl 21 (by decide) (hw (.fieldLink RX11 43 "MotionFloorModel$Hall" "to" "[I") (List.mem_of_getElem? (i := 1) rfl)) (fun _ h9 => h9) rfl dX11_change_304 ?_
                        refine lv_iload hx hb dX11_change_307 (lv_at hl 9 rfl) ?_
                        refine lv_dup2_11 hx hb dX11_change_309 rfl rfl ?_
                        obtain ⟨hy31, hp⟩ := hp
                        refine va_iald hx hb hK hP 11 0 rfl rfl hy31 dX11_change_310 ?_
                        refine lv_iload hx hb dX11_change_311 (lv_at hl 6 rfl) ?_
                        refine lv_iadd hx hb dX11_change_313 ?_
                        obtain ⟨hy32, hp⟩ := hp
                        refine va_iast hx hb hK hP hD hS 11 0 rfl rfl hy32 dX11_change_314 (fun H locs hP hD hS => ?_)
                        rw [sA_21] at hP hD
                        refine lv_goto (tgt := 326) hx hb dX11_change_315 (by decide) ?_
                        exact B_326 (sA (sA u21 20 x9.toNatClampNeg ((u21.2 20 x9.toNatClampNeg) + x6)) 21 x9.toNatClampNeg (((sA u21 20 x9.toNatClampNeg ((u21.2 20 x9.toNatClampNeg) + x6)).2 21 x9.toNatClampNeg) + x6)) x1 x2 x3 x4 x5 x6 x7 x8 x9 _ _ _ hE hp hP hD hS (lv_sub hl [0, 1, 2, 3, 4, 5, 6, 7, 8, 9] rfl)
                    · rw [if_neg c25] at hE hp
                      refine lv_goto (tgt := 326) hx hb dX11_change_276 (by decide) ?_
                      exact B_326 u21 x1 x2 x3 x4 x5 x6 x7 x8 x9 _ _ _ hE hp hP hD hS (lv_sub hl [0, 1, 2, 3, 4, 5, 6, 7, 8, 9] rfl)
                  · rw [if_neg c23] at hE hp
                    refine lv_goto (tgt := 326) hx hb dX11_change_262 (by decide) ?_
                    exact B_326 u21 x1 x2 x3 x4 x5 x6 x7 x8 x9 _ _ _ hE hp hP hD hS (lv_sub hl [0, 1, 2, 3, 4, 5, 6, 7, 8, 9] rfl)
  have L_142 : ∀ (n : Nat) (S : HS) (x1 x2 x3 x4 x5 x6 x7 x8 x9 : Int32) (H : Heap) (locs : List Loc) (ls : Array Slot), lp_X11_change_142 n S x1 x2 x3 x4 x5 x6 x7 x8 x9 = X → lq_X11_change_142 n S x1 x2 x3 x4 x5 x6 x7 x8 x9 → va_P G vwCl (hW K h g S) H → va_D A (hW K h g S) → va_S A s.heap H locs → lv_has ls 10 [(0, .ref h), (1, .int x1), (2, .int x2), (3, .int x3), (4, .int x4), (5, .int x5), (6, .int x6), (7, .int x7), (8, .int x8), (9, .int x9)] → W p l e ({ frames := 1, cells := 0, slots := 0, locals := 22 } : Room) s m #[Value.ref h, Value.int a1, Value.int a2] below meth c H locs 0 0 Q (F0 m 142 ls []) := by
    intro n1
    induction n1 with
    | zero => intro S x1 x2 x3 x4 x5 x6 x7 x8 x9 H locs ls hE hp; exact False.elim hp
    | succ n1 ih1 =>
      intro S x1 x2 x3 x4 x5 x6 x7 x8 x9 H locs ls hO1 hp hP hD hS hl
      rw [lp_X11_change_142] at hO1
      rw [lq_X11_change_142] at hp
      obtain ⟨hp, hq1⟩ := hp
      generalize hE : st_X11_change_142 S x1 x2 x3 x4 x5 x6 x7 x8 x9 = Y1 at hO1 hq1
      unfold st_X11_change_142 at hE
      unfold ps_X11_change_142 at hp
      refine lv_iload hx hb dX11_change_142 (lv_at hl 9 rfl) ?_
      refine lv_iload hx hb dX11_change_144 (lv_at hl 5 rfl) ?_
      refine lv_icmp_ge (tgt := 180) hx hb dX11_change_146 (by decide) (fun c7 => ?_) (fun c7 => ?_)
      · rw [if_pos c7] at hE hp
        subst hE
        have hE := hO1
        dsimp only at hE
        refine lv_aload_n hx hb dX11_change_180 rfl (lv_at hl 0 rfl) ?_
        refine va_get (D := G) (ci := 8) (v := .ref (g 19)) (C := RX11) (T := TX11) (N := 42) hx hb hts iX11 hown hK hP 0 rfl rfl 19 (by decide) (hw (.fieldLink RX11 37 "MotionFloorModel$Hall" "words" "[I") (List.mem_of_getElem? (i := 2) rfl)) (fun _ h9 => h9) rfl dX11_change_181 ?_
        refine lv_iload_n hx hb dX11_change_184 rfl (lv_at hl 1 rfl) ?_
        refine lv_iload hx hb dX11_change_185 (lv_at hl 7 rfl) ?_
        refine lv_iload hx hb dX11_change_187 (lv_at hl 6 rfl) ?_
        refine lv_iadd hx hb dX11_change_189 ?_
        obtain ⟨hy8, hp⟩ := hp
        refine va_iast hx hb hK hP hD hS 9 0 rfl rfl hy8 dX11_change_190 (fun H locs hP hD hS => ?_)
        rw [sA_19] at hP hD
        refine lv_iconst (v := 0) hx hb dX11_change_191 (by decide) ?_
        refine lv_istore (lv' := [(9, .int 0), (0, .ref h), (1, .int x1), (2, .int x2), (3, .int x3), (4, .int x4), (5, .int x5), (6, .int x6), (7, .int x7), (8, .int x8)]) hx hb dX11_change_192 hl (by decide) rfl (fun ls hl => ?_)
        exact L_194 100000 (sA S 19 x1.toNatClampNeg (x7 + x6)) x1 x2 x3 x4 x5 x6 x7 x8 0 _ _ _ hE hp hP hD hS (lv_sub hl [1, 2, 3, 4, 5, 6, 7, 8, 9, 0] rfl)
      · rw [if_neg c7] at hE hp
        refine lv_aload_n hx hb dX11_change_149 rfl (lv_at hl 0 rfl) ?_
        refine va_get (D := G) (ci := 8) (v := .ref (g 28)) (C := RX11) (T := TX11) (N := 42) hx hb hts iX11 hown hK hP 0 rfl rfl 28 (by decide) (hw (.fieldLink RX11 65 "MotionFloorModel$Hall" "text" "[I") (List.mem_of_getElem? (i := 12) rfl)) (fun _ h9 => h9) rfl dX11_change_150 ?_
        refine lv_iload hx hb dX11_change_153 (lv_at hl 8 rfl) ?_
        refine lv_iload_n hx hb dX11_change_155 rfl (lv_at hl 3 rfl) ?_
        refine lv_iadd hx hb dX11_change_156 ?_
        refine lv_iload hx hb dX11_change_157 (lv_at hl 9 rfl) ?_
        refine lv_iadd hx hb dX11_change_159 ?_
        refine lv_aload_n hx hb dX11_change_160 rfl (lv_at hl 0 rfl) ?_
        refine va_get (D := G) (ci := 8) (v := .ref (g 28)) (C := RX11) (T := TX11) (N := 42) hx hb hts iX11 hown hK hP 0 rfl rfl 28 (by decide) (hw (.fieldLink RX11 65 "MotionFloorModel$Hall" "text" "[I") (List.mem_of_getElem? (i := 12) rfl)) (fun _ h9 => h9) rfl dX11_change_161 ?_
        refine lv_sipush (v := 400) hx hb dX11_change_164 (by decide) ?_
        refine lv_iload_n hx hb dX11_change_167 rfl (lv_at hl 2 rfl) ?_
        refine lv_imul hx hb dX11_change_168 ?_
        refine lv_iload hx hb dX11_change_169 (lv_at hl 9 rfl) ?_
        refine lv_iadd hx hb dX11_change_171 ?_
        obtain ⟨hy43, hp⟩ := hp
        refine va_iald hx hb hK hP 18 0 rfl rfl hy43 dX11_change_172 ?_
        obtain ⟨hy44, hp⟩ := hp
        refine va_iast hx hb hK hP hD hS 18 0 rfl rfl hy44 dX11_change_173 (fun H locs hP hD hS => ?_)
        rw [sA_28] at hP hD
        refine lv_iinc (v := (x9 + 1)) (lv' := [(9, .int (x9 + 1)), (0, .ref h), (1, .int x1), (2, .int x2), (3, .int x3), (4, .int x4), (5, .int x5), (6, .int x6), (7, .int x7), (8, .int x8)]) hx hb dX11_change_174 hl (k := 9) rfl rfl (by decide) rfl (fun ls hl => ?_)
        refine lv_goto (tgt := 142) hx hb dX11_change_177 (by decide) ?_
        subst hE
        dsimp only at hO1 hq1
        exact ih1 (sA S 28 ((x8 + x3) + x9).toNatClampNeg (S.2 28 ((400 * x2) + x9).toNatClampNeg)) x1 x2 x3 x4 x5 x6 x7 x8 (x9 + 1) _ _ _ hO1 hq1 hP hD hS (lv_sub hl [1, 2, 3, 4, 5, 6, 7, 8, 9, 0] rfl)
  have B_139 : ∀ (S : HS) (x1 x2 x3 x4 x5 x6 x7 x8 : Int32) (H : Heap) (locs : List Loc) (ls : Array Slot), b_X11_change_139 S x1 x2 x3 x4 x5 x6 x7 x8 = X → q_X11_change_139 S x1 x2 x3 x4 x5 x6 x7 x8 → va_P G vwCl (hW K h g S) H → va_D A (hW K h g S) → va_S A s.heap H locs → lv_has ls 10 [(0, .ref h), (1, .int x1), (2, .int x2), (3, .int x3), (4, .int x4), (5, .int x5), (6, .int x6), (7, .int x7), (8, .int x8)] → W p l e ({ frames := 1, cells := 0, slots := 0, locals := 22 } : Room) s m #[Value.ref h, Value.int a1, Value.int a2] below meth c H locs 0 0 Q (F0 m 139 ls []) := by
    intro S x1 x2 x3 x4 x5 x6 x7 x8 H locs ls hE hp hP hD hS hl
    unfold b_X11_change_139 at hE
    unfold q_X11_change_139 at hp
    refine lv_iconst (v := 0) hx hb dX11_change_139 (by decide) ?_
    refine lv_istore (lv' := [(9, .int 0), (0, .ref h), (1, .int x1), (2, .int x2), (3, .int x3), (4, .int x4), (5, .int x5), (6, .int x6), (7, .int x7), (8, .int x8)]) hx hb dX11_change_140 hl (by decide) rfl (fun ls hl => ?_)
    exact L_142 100000 S x1 x2 x3 x4 x5 x6 x7 x8 0 _ _ _ hE hp hP hD hS (lv_sub hl [1, 2, 3, 4, 5, 6, 7, 8, 9, 0] rfl)
  have L_103 : ∀ (n : Nat) (S : HS) (x1 x2 x3 x4 x5 x6 x7 x8 x9 : Int32) (H : Heap) (locs : List Loc) (ls : Array Slot), lp_X11_change_103 n S x1 x2 x3 x4 x5 x6 x7 x8 x9 = X → lq_X11_change_103 n S x1 x2 x3 x4 x5 x6 x7 x8 x9 → va_P G vwCl (hW K h g S) H → va_D A (hW K h g S) → va_S A s.heap H locs → lv_has ls 10 [(0, .ref h), (1, .int x1), (2, .int x2), (3, .int x3), (4, .int x4), (5, .int x5), (6, .int x6), (7, .int x7), (8, .int x8), (9, .int x9)] → W p l e ({ frames := 1, cells := 0, slots := 0, locals := 22 } : Room) s m #[Value.ref h, Value.int a1, Value.int a2] below meth c H locs 0 0 Q (F0 m 103 ls []) := by
    intro n1
    induction n1 with
    | zero => intro S x1 x2 x3 x4 x5 x6 x7 x8 x9 H locs ls hE hp; exact False.elim hp
    | succ n1 ih1 =>
      intro S x1 x2 x3 x4 x5 x6 x7 x8 x9 H locs ls hO1 hp hP hD hS hl
      rw [lp_X11_change_103] at hO1
      rw [lq_X11_change_103] at hp
      obtain ⟨hp, hq1⟩ := hp
      generalize hE : st_X11_change_103 S x1 x2 x3 x4 x5 x6 x7 x8 x9 = Y1 at hO1 hq1
      unfold st_X11_change_103 at hE
      unfold ps_X11_change_103 at hp
      refine lv_iload hx hb dX11_change_103 (lv_at hl 9 rfl) ?_
      refine lv_iload hx hb dX11_change_105 (lv_at hl 7 rfl) ?_
      refine lv_icmp_ge (tgt := 139) hx hb dX11_change_107 (by decide) (fun c45 => ?_) (fun c45 => ?_)
      · rw [if_pos c45] at hE hp
        subst hE
        have hE := hO1
        dsimp only at hE
        exact B_139 S x1 x2 x3 x4 x5 x6 x7 x8 _ _ _ hE hp hP hD hS (lv_sub hl [0, 1, 2, 3, 4, 5, 6, 7, 8] rfl)
      · rw [if_neg c45] at hE hp
        refine lv_aload_n hx hb dX11_change_110 rfl (lv_at hl 0 rfl) ?_
        refine va_get (D := G) (ci := 8) (v := .ref (g 28)) (C := RX11) (T := TX11) (N := 42) hx hb hts iX11 hown hK hP 0 rfl rfl 28 (by decide) (hw (.fieldLink RX11 65 "MotionFloorModel$Hall" "text" "[I") (List.mem_of_getElem? (i := 12) rfl)) (fun _ h9 => h9) rfl dX11_change_111 ?_
        refine lv_iload hx hb dX11_change_114 (lv_at hl 8 rfl) ?_
        refine lv_iload hx hb dX11_change_116 (lv_at hl 9 rfl) ?_
        refine lv_iadd hx hb dX11_change_118 ?_
        refine lv_iload hx hb dX11_change_119 (lv_at hl 6 rfl) ?_
        refine lv_iadd hx hb dX11_change_121 ?_
        refine lv_aload_n hx hb dX11_change_122 rfl (lv_at hl 0 rfl) ?_
        refine va_get (D := G) (ci := 8) (v := .ref (g 28)) (C := RX11) (T := TX11) (N := 42) hx hb hts iX11 hown hK hP 0 rfl rfl 28 (by decide) (hw (.fieldLink RX11 65 "MotionFloorModel$Hall" "text" "[I") (List.mem_of_getElem? (i := 12) rfl)) (fun _ h9 => h9) rfl dX11_change_123 ?_
        refine lv_iload hx hb dX11_change_126 (lv_at hl 8 rfl) ?_
        refine lv_iload hx hb dX11_change_128 (lv_at hl 9 rfl) ?_
        refine lv_iadd hx hb dX11_change_130 ?_
        obtain ⟨hy46, hp⟩ := hp
        refine va_iald hx hb hK hP 18 0 rfl rfl hy46 dX11_change_131 ?_
        obtain ⟨hy47, hp⟩ := hp
        refine va_iast hx hb hK hP hD hS 18 0 rfl rfl hy47 dX11_change_132 (fun H locs hP hD hS => ?_)
        rw [sA_28] at hP hD
        refine lv_iinc (v := (x9 + 1)) (lv' := [(9, .int (x9 + 1)), (0, .ref h), (1, .int x1), (2, .int x2), (3, .int x3), (4, .int x4), (5, .int x5), (6, .int x6), (7, .int x7), (8, .int x8)]) hx hb dX11_change_133 hl (k := 9) rfl rfl (by decide) rfl (fun ls hl => ?_)
        refine lv_goto (tgt := 103) hx hb dX11_change_136 (by decide) ?_
        subst hE
        dsimp only at hO1 hq1
        exact ih1 (sA S 28 ((x8 + x9) + x6).toNatClampNeg (S.2 28 (x8 + x9).toNatClampNeg)) x1 x2 x3 x4 x5 x6 x7 x8 (x9 + 1) _ _ _ hO1 hq1 hP hD hS (lv_sub hl [1, 2, 3, 4, 5, 6, 7, 8, 9, 0] rfl)
  have B_94 : ∀ (S : HS) (x1 x2 x3 x4 x5 x6 x7 x8 : Int32) (H : Heap) (locs : List Loc) (ls : Array Slot), b_X11_change_94 S x1 x2 x3 x4 x5 x6 x7 x8 = X → q_X11_change_94 S x1 x2 x3 x4 x5 x6 x7 x8 → va_P G vwCl (hW K h g S) H → va_D A (hW K h g S) → va_S A s.heap H locs → lv_has ls 10 [(0, .ref h), (1, .int x1), (2, .int x2), (3, .int x3), (4, .int x4), (5, .int x5), (6, .int x6), (7, .int x7), (8, .int x8)] → W p l e ({ frames := 1, cells := 0, slots := 0, locals := 22 } : Room) s m #[Value.ref h, Value.int a1, Value.int a2] below meth c H locs 0 0 Q (F0 m 94 ls []) := by
    intro S x1 x2 x3 x4 x5 x6 x7 x8 H locs ls hE hp hP hD hS hl
    unfold b_X11_change_94 at hE
    unfold q_X11_change_94 at hp
    refine lv_iload hx hb dX11_change_94 (lv_at hl 6 rfl) ?_
    refine lv_if_ge (tgt := 139) hx hb dX11_change_96 (by decide) (fun c6 => ?_) (fun c6 => ?_)
    · rw [if_pos c6] at hE hp
      exact B_139 S x1 x2 x3 x4 x5 x6 x7 x8 _ _ _ hE hp hP hD hS (lv_sub hl [0, 1, 2, 3, 4, 5, 6, 7, 8] rfl)
    · rw [if_neg c6] at hE hp
      refine lv_iload hx hb dX11_change_99 (lv_at hl 4 rfl) ?_
      refine lv_istore (lv' := [(9, .int x4), (0, .ref h), (1, .int x1), (2, .int x2), (3, .int x3), (4, .int x4), (5, .int x5), (6, .int x6), (7, .int x7), (8, .int x8)]) hx hb dX11_change_101 hl (by decide) rfl (fun ls hl => ?_)
      exact L_103 100000 S x1 x2 x3 x4 x5 x6 x7 x8 x4 _ _ _ hE hp hP hD hS (lv_sub hl [1, 2, 3, 4, 5, 6, 7, 8, 9, 0] rfl)
  have L_58 : ∀ (n : Nat) (S : HS) (x1 x2 x3 x4 x5 x6 x7 x8 x9 : Int32) (H : Heap) (locs : List Loc) (ls : Array Slot), lp_X11_change_58 n S x1 x2 x3 x4 x5 x6 x7 x8 x9 = X → lq_X11_change_58 n S x1 x2 x3 x4 x5 x6 x7 x8 x9 → va_P G vwCl (hW K h g S) H → va_D A (hW K h g S) → va_S A s.heap H locs → lv_has ls 10 [(0, .ref h), (1, .int x1), (2, .int x2), (3, .int x3), (4, .int x4), (5, .int x5), (6, .int x6), (7, .int x7), (8, .int x8), (9, .int x9)] → W p l e ({ frames := 1, cells := 0, slots := 0, locals := 22 } : Room) s m #[Value.ref h, Value.int a1, Value.int a2] below meth c H locs 0 0 Q (F0 m 58 ls []) := by
    intro n1
    induction n1 with
    | zero => intro S x1 x2 x3 x4 x5 x6 x7 x8 x9 H locs ls hE hp; exact False.elim hp
    | succ n1 ih1 =>
      intro S x1 x2 x3 x4 x5 x6 x7 x8 x9 H locs ls hO1 hp hP hD hS hl
      rw [lp_X11_change_58] at hO1
      rw [lq_X11_change_58] at hp
      obtain ⟨hp, hq1⟩ := hp
      generalize hE : st_X11_change_58 S x1 x2 x3 x4 x5 x6 x7 x8 x9 = Y1 at hO1 hq1
      unfold st_X11_change_58 at hE
      unfold ps_X11_change_58 at hp
      refine lv_iload hx hb dX11_change_58 (lv_at hl 9 rfl) ?_
      refine lv_iload hx hb dX11_change_60 (lv_at hl 4 rfl) ?_
      refine lv_icmp_lt (tgt := 94) hx hb dX11_change_62 (by decide) (fun c48 => ?_) (fun c48 => ?_)
      · rw [if_pos c48] at hE hp
        subst hE
        have hE := hO1
        dsimp only at hE
        exact B_94 S x1 x2 x3 x4 x5 x6 x7 x8 _ _ _ hE hp hP hD hS (lv_sub hl [0, 1, 2, 3, 4, 5, 6, 7, 8] rfl)
      · rw [if_neg c48] at hE hp
        refine lv_aload_n hx hb dX11_change_65 rfl (lv_at hl 0 rfl) ?_
        refine va_get (D := G) (ci := 8) (v := .ref (g 28)) (C := RX11) (T := TX11) (N := 42) hx hb hts iX11 hown hK hP 0 rfl rfl 28 (by decide) (hw (.fieldLink RX11 65 "MotionFloorModel$Hall" "text" "[I") (List.mem_of_getElem? (i := 12) rfl)) (fun _ h9 => h9) rfl dX11_change_66 ?_
        refine lv_iload hx hb dX11_change_69 (lv_at hl 8 rfl) ?_
        refine lv_iload hx hb dX11_change_71 (lv_at hl 9 rfl) ?_
        refine lv_iadd hx hb dX11_change_73 ?_
        refine lv_iload hx hb dX11_change_74 (lv_at hl 6 rfl) ?_
        refine lv_iadd hx hb dX11_change_76 ?_
        refine lv_aload_n hx hb dX11_change_77 rfl (lv_at hl 0 rfl) ?_
        refine va_get (D := G) (ci := 8) (v := .ref (g 28)) (C := RX11) (T := TX11) (N := 42) hx hb hts iX11 hown hK hP 0 rfl rfl 28 (by decide) (hw (.fieldLink RX11 65 "MotionFloorModel$Hall" "text" "[I") (List.mem_of_getElem? (i := 12) rfl)) (fun _ h9 => h9) rfl dX11_change_78 ?_
        refine lv_iload hx hb dX11_change_81 (lv_at hl 8 rfl) ?_
        refine lv_iload hx hb dX11_change_83 (lv_at hl 9 rfl) ?_
        refine lv_iadd hx hb dX11_change_85 ?_
        obtain ⟨hy49, hp⟩ := hp
        refine va_iald hx hb hK hP 18 0 rfl rfl hy49 dX11_change_86 ?_
        obtain ⟨hy50, hp⟩ := hp
        refine va_iast hx hb hK hP hD hS 18 0 rfl rfl hy50 dX11_change_87 (fun H locs hP hD hS => ?_)
        rw [sA_28] at hP hD
        refine lv_iinc (v := (x9 + (-1))) (lv' := [(9, .int (x9 + (-1))), (0, .ref h), (1, .int x1), (2, .int x2), (3, .int x3), (4, .int x4), (5, .int x5), (6, .int x6), (7, .int x7), (8, .int x8)]) hx hb dX11_change_88 hl (k := 9) rfl rfl (by decide) rfl (fun ls hl => ?_)
        refine lv_goto (tgt := 58) hx hb dX11_change_91 (by decide) ?_
        subst hE
        dsimp only at hO1 hq1
        exact ih1 (sA S 28 ((x8 + x9) + x6).toNatClampNeg (S.2 28 (x8 + x9).toNatClampNeg)) x1 x2 x3 x4 x5 x6 x7 x8 (x9 + (-1)) _ _ _ hO1 hq1 hP hD hS (lv_sub hl [1, 2, 3, 4, 5, 6, 7, 8, 9, 0] rfl)
  have B_M : ∀ (S : HS) (x1 x2 : Int32) (H : Heap) (locs : List Loc) (ls : Array Slot), f_X11_change S x1 x2 = X → p_X11_change S x1 x2 → va_P G vwCl (hW K h g S) H → va_D A (hW K h g S) → va_S A s.heap H locs → lv_has ls 10 [(0, .ref h), (1, .int x1), (2, .int x2)] → W p l e ({ frames := 1, cells := 0, slots := 0, locals := 22 } : Room) s m #[Value.ref h, Value.int a1, Value.int a2] below meth c H locs 0 0 Q (F0 m 0 ls []) := by
    intro S x1 x2 H locs ls hE hp hP hD hS hl
    unfold f_X11_change at hE
    unfold p_X11_change at hp
    refine lv_aload_n hx hb dX11_change_0 rfl (lv_at hl 0 rfl) ?_
    refine va_get (D := G) (ci := 8) (v := .ref (g 20)) (C := RX11) (T := TX11) (N := 42) hx hb hts iX11 hown hK hP 0 rfl rfl 20 (by decide) (hw (.fieldLink RX11 40 "MotionFloorModel$Hall" "from" "[I") (List.mem_of_getElem? (i := 0) rfl)) (fun _ h9 => h9) rfl dX11_change_1 ?_
    refine lv_iload_n hx hb dX11_change_4 rfl (lv_at hl 2 rfl) ?_
    obtain ⟨hy1, hp⟩ := hp
    refine va_iald hx hb hK hP 10 0 rfl rfl hy1 dX11_change_5 ?_
    refine lv_istore_n (lv' := [(3, .int (S.2 20 x2.toNatClampNeg)), (0, .ref h), (1, .int x1), (2, .int x2)]) hx hb dX11_change_6 rfl hl (by decide) rfl (fun ls hl => ?_)
    refine lv_aload_n hx hb dX11_change_7 rfl (lv_at hl 1 rfl) ?_
    refine va_get (D := G) (ci := 8) (v := .ref (g 21)) (C := RX11) (T := TX11) (N := 42) hx hb hts iX11 hown hK hP 0 rfl rfl 21 (by decide) (hw (.fieldLink RX11 43 "MotionFloorModel$Hall" "to" "[I") (List.mem_of_getElem? (i := 1) rfl)) (fun _ h9 => h9) rfl dX11_change_8 ?_
    refine lv_iload_n hx hb dX11_change_11 rfl (lv_at hl 3 rfl) ?_
    obtain ⟨hy2, hp⟩ := hp
    refine va_iald hx hb hK hP 11 0 rfl rfl hy2 dX11_change_12 ?_
    refine lv_istore (lv' := [(4, .int (S.2 21 x2.toNatClampNeg)), (3, .int (S.2 20 x2.toNatClampNeg)), (0, .ref h), (1, .int x1), (2, .int x2)]) hx hb dX11_change_13 hl (by decide) rfl (fun ls hl => ?_)
    refine lv_aload_n hx hb dX11_change_15 rfl (lv_at hl 2 rfl) ?_
    refine va_get (D := G) (ci := 8) (v := .ref (g 19)) (C := RX11) (T := TX11) (N := 42) hx hb hts iX11 hown hK hP 0 rfl rfl 19 (by decide) (hw (.fieldLink RX11 37 "MotionFloorModel$Hall" "words" "[I") (List.mem_of_getElem? (i := 2) rfl)) (fun _ h9 => h9) rfl dX11_change_16 ?_
    refine lv_iload_n hx hb dX11_change_19 rfl (lv_at hl 4 rfl) ?_
    obtain ⟨hy3, hp⟩ := hp
    refine va_iald hx hb hK hP 9 0 rfl rfl hy3 dX11_change_20 ?_
    refine lv_istore (lv' := [(5, .int (S.2 19 x2.toNatClampNeg)), (4, .int (S.2 21 x2.toNatClampNeg)), (3, .int (S.2 20 x2.toNatClampNeg)), (0, .ref h), (1, .int x1), (2, .int x2)]) hx hb dX11_change_21 hl (by decide) rfl (fun ls hl => ?_)
    refine lv_iload hx hb dX11_change_23 (lv_at hl 0 rfl) ?_
    refine lv_iload hx hb dX11_change_25 (lv_at hl 1 rfl) ?_
    refine lv_iload_n hx hb dX11_change_27 rfl (lv_at hl 2 rfl) ?_
    refine lv_isub hx hb dX11_change_28 ?_
    refine lv_isub hx hb dX11_change_29 ?_
    refine lv_istore (lv' := [(6, .int ((S.2 19 x2.toNatClampNeg) - ((S.2 21 x2.toNatClampNeg) - (S.2 20 x2.toNatClampNeg)))), (5, .int (S.2 19 x2.toNatClampNeg)), (4, .int (S.2 21 x2.toNatClampNeg)), (3, .int (S.2 20 x2.toNatClampNeg)), (0, .ref h), (1, .int x1), (2, .int x2)]) hx hb dX11_change_30 hl (by decide) rfl (fun ls hl => ?_)
    refine lv_aload_n hx hb dX11_change_32 rfl (lv_at hl 4 rfl) ?_
    refine va_get (D := G) (ci := 8) (v := .ref (g 19)) (C := RX11) (T := TX11) (N := 42) hx hb hts iX11 hown hK hP 0 rfl rfl 19 (by decide) (hw (.fieldLink RX11 37 "MotionFloorModel$Hall" "words" "[I") (List.mem_of_getElem? (i := 2) rfl)) (fun _ h9 => h9) rfl dX11_change_33 ?_
    refine lv_iload_n hx hb dX11_change_36 rfl (lv_at hl 5 rfl) ?_
    obtain ⟨hy4, hp⟩ := hp
    refine va_iald hx hb hK hP 9 0 rfl rfl hy4 dX11_change_37 ?_
    refine lv_istore (lv' := [(7, .int (S.2 19 x1.toNatClampNeg)), (6, .int ((S.2 19 x2.toNatClampNeg) - ((S.2 21 x2.toNatClampNeg) - (S.2 20 x2.toNatClampNeg)))), (5, .int (S.2 19 x2.toNatClampNeg)), (4, .int (S.2 21 x2.toNatClampNeg)), (3, .int (S.2 20 x2.toNatClampNeg)), (0, .ref h), (1, .int x1), (2, .int x2)]) hx hb dX11_change_38 hl (by decide) rfl (fun ls hl => ?_)
    refine lv_sipush (v := 400) hx hb dX11_change_40 (by decide) ?_
    refine lv_iload_n hx hb dX11_change_43 rfl (lv_at hl 6 rfl) ?_
    refine lv_imul hx hb dX11_change_44 ?_
    refine lv_istore (lv' := [(8, .int (400 * x1)), (7, .int (S.2 19 x1.toNatClampNeg)), (6, .int ((S.2 19 x2.toNatClampNeg) - ((S.2 21 x2.toNatClampNeg) - (S.2 20 x2.toNatClampNeg)))), (5, .int (S.2 19 x2.toNatClampNeg)), (4, .int (S.2 21 x2.toNatClampNeg)), (3, .int (S.2 20 x2.toNatClampNeg)), (0, .ref h), (1, .int x1), (2, .int x2)]) hx hb dX11_change_45 hl (by decide) rfl (fun ls hl => ?_)
    refine lv_iload hx hb dX11_change_47 (lv_at hl 2 rfl) ?_
    refine lv_if_le (tgt := 94) hx hb dX11_change_49 (by decide) (fun c5 => ?_) (fun c5 => ?_)
    · rw [if_pos c5] at hE hp
      exact B_94 S x1 x2 (S.2 20 x2.toNatClampNeg) (S.2 21 x2.toNatClampNeg) (S.2 19 x2.toNatClampNeg) ((S.2 19 x2.toNatClampNeg) - ((S.2 21 x2.toNatClampNeg) - (S.2 20 x2.toNatClampNeg))) (S.2 19 x1.toNatClampNeg) (400 * x1) _ _ _ hE hp hP hD hS (lv_sub hl [6, 7, 8, 5, 4, 3, 2, 1, 0] rfl)
    · rw [if_neg c5] at hE hp
      refine lv_iload hx hb dX11_change_52 (lv_at hl 1 rfl) ?_
      refine lv_iconst (v := 1) hx hb dX11_change_54 (by decide) ?_
      refine lv_isub hx hb dX11_change_55 ?_
      refine lv_istore (lv' := [(9, .int ((S.2 19 x1.toNatClampNeg) - 1)), (8, .int (400 * x1)), (7, .int (S.2 19 x1.toNatClampNeg)), (6, .int ((S.2 19 x2.toNatClampNeg) - ((S.2 21 x2.toNatClampNeg) - (S.2 20 x2.toNatClampNeg)))), (5, .int (S.2 19 x2.toNatClampNeg)), (4, .int (S.2 21 x2.toNatClampNeg)), (3, .int (S.2 20 x2.toNatClampNeg)), (0, .ref h), (1, .int x1), (2, .int x2)]) hx hb dX11_change_56 hl (by decide) rfl (fun ls hl => ?_)
      exact L_58 100000 S x1 x2 (S.2 20 x2.toNatClampNeg) (S.2 21 x2.toNatClampNeg) (S.2 19 x2.toNatClampNeg) ((S.2 19 x2.toNatClampNeg) - ((S.2 21 x2.toNatClampNeg) - (S.2 20 x2.toNatClampNeg))) (S.2 19 x1.toNatClampNeg) (400 * x1) ((S.2 19 x1.toNatClampNeg) - 1) _ _ _ hE hp hP hD hS (lv_sub hl [7, 8, 9, 6, 5, 4, 3, 2, 1, 0] rfl)
  exact B_M S0 a1 a2 _ _ _ hX hp hP hD hS hl
theorem gdX11_carries_0 : ckS (List.drop 0 cX11_carries.data.toList) 0 [(0, .iload_n 1, 1), (1, .iconst 1, 1), (2, .if_icmp .ne 16, 3), (5, .iload_n 2, 1), (6, .iload_n 3, 1), (7, .if_icmp .le 7, 3), (10, .iconst 1, 1), (11, .goto 50, 3), (14, .iconst 0, 1), (15, .goto 46, 3), (18, .iload_n 1, 1), (19, .iconst 2, 1), (20, .if_icmp .ne 26, 3), (23, .iload_n 2, 1), (24, .ifCond .le 18, 3), (27, .iconst 3, 1), (28, .iload_n 2, 1), (29, .imul, 1), (30, .iconst 2, 1), (31, .iload_n 2, 1), (32, .iload_n 3, 1), (33, .iadd, 1), (34, .imul, 1), (35, .if_icmp .lt 7, 3), (38, .iconst 1, 1), (39, .goto 22, 3), (42, .iconst 0, 1), (43, .goto 18, 3), (46, .iconst 2, 1), (47, .iload_n 2, 1), (48, .imul, 1), (49, .aload_n 0, 1), (50, .getfield 96, 3), (53, .if_icmp .le 7, 3), (56, .iconst 1, 1), (57, .goto 4, 3), (60, .iconst 0, 1), (61, .ireturn, 1)] = true := by decide +kernel
theorem dX11_carries_0 : decode cX11_carries 0 = .ok (.iload_n 1, 1) := ckS_g gdX11_carries_0 0 rfl
theorem dX11_carries_1 : decode cX11_carries 1 = .ok (.iconst 1, 1) := ckS_g gdX11_carries_0 1 rfl
theorem dX11_carries_2 : decode cX11_carries 2 = .ok (.if_icmp .ne 16, 3) := ckS_g gdX11_carries_0 2 rfl
theorem dX11_carries_5 : decode cX11_carries 5 = .ok (.iload_n 2, 1) := ckS_g gdX11_carries_0 3 rfl
theorem dX11_carries_6 : decode cX11_carries 6 = .ok (.iload_n 3, 1) := ckS_g gdX11_carries_0 4 rfl
theorem dX11_carries_7 : decode cX11_carries 7 = .ok (.if_icmp .le 7, 3) := ckS_g gdX11_carries_0 5 rfl
theorem dX11_carries_10 : decode cX11_carries 10 = .ok (.iconst 1, 1) := ckS_g gdX11_carries_0 6 rfl
theorem dX11_carries_11 : decode cX11_carries 11 = .ok (.goto 50, 3) := ckS_g gdX11_carries_0 7 rfl
theorem dX11_carries_14 : decode cX11_carries 14 = .ok (.iconst 0, 1) := ckS_g gdX11_carries_0 8 rfl
theorem dX11_carries_15 : decode cX11_carries 15 = .ok (.goto 46, 3) := ckS_g gdX11_carries_0 9 rfl
theorem dX11_carries_18 : decode cX11_carries 18 = .ok (.iload_n 1, 1) := ckS_g gdX11_carries_0 10 rfl
theorem dX11_carries_19 : decode cX11_carries 19 = .ok (.iconst 2, 1) := ckS_g gdX11_carries_0 11 rfl
theorem dX11_carries_20 : decode cX11_carries 20 = .ok (.if_icmp .ne 26, 3) := ckS_g gdX11_carries_0 12 rfl
theorem dX11_carries_23 : decode cX11_carries 23 = .ok (.iload_n 2, 1) := ckS_g gdX11_carries_0 13 rfl
theorem dX11_carries_24 : decode cX11_carries 24 = .ok (.ifCond .le 18, 3) := ckS_g gdX11_carries_0 14 rfl
theorem dX11_carries_27 : decode cX11_carries 27 = .ok (.iconst 3, 1) := ckS_g gdX11_carries_0 15 rfl
theorem dX11_carries_28 : decode cX11_carries 28 = .ok (.iload_n 2, 1) := ckS_g gdX11_carries_0 16 rfl
theorem dX11_carries_29 : decode cX11_carries 29 = .ok (.imul, 1) := ckS_g gdX11_carries_0 17 rfl
theorem dX11_carries_30 : decode cX11_carries 30 = .ok (.iconst 2, 1) := ckS_g gdX11_carries_0 18 rfl
theorem dX11_carries_31 : decode cX11_carries 31 = .ok (.iload_n 2, 1) := ckS_g gdX11_carries_0 19 rfl
theorem dX11_carries_32 : decode cX11_carries 32 = .ok (.iload_n 3, 1) := ckS_g gdX11_carries_0 20 rfl
theorem dX11_carries_33 : decode cX11_carries 33 = .ok (.iadd, 1) := ckS_g gdX11_carries_0 21 rfl
theorem dX11_carries_34 : decode cX11_carries 34 = .ok (.imul, 1) := ckS_g gdX11_carries_0 22 rfl
theorem dX11_carries_35 : decode cX11_carries 35 = .ok (.if_icmp .lt 7, 3) := ckS_g gdX11_carries_0 23 rfl
theorem dX11_carries_38 : decode cX11_carries 38 = .ok (.iconst 1, 1) := ckS_g gdX11_carries_0 24 rfl
theorem dX11_carries_39 : decode cX11_carries 39 = .ok (.goto 22, 3) := ckS_g gdX11_carries_0 25 rfl
theorem dX11_carries_42 : decode cX11_carries 42 = .ok (.iconst 0, 1) := ckS_g gdX11_carries_0 26 rfl
theorem dX11_carries_43 : decode cX11_carries 43 = .ok (.goto 18, 3) := ckS_g gdX11_carries_0 27 rfl
theorem dX11_carries_46 : decode cX11_carries 46 = .ok (.iconst 2, 1) := ckS_g gdX11_carries_0 28 rfl
theorem dX11_carries_47 : decode cX11_carries 47 = .ok (.iload_n 2, 1) := ckS_g gdX11_carries_0 29 rfl
theorem dX11_carries_48 : decode cX11_carries 48 = .ok (.imul, 1) := ckS_g gdX11_carries_0 30 rfl
theorem dX11_carries_49 : decode cX11_carries 49 = .ok (.aload_n 0, 1) := ckS_g gdX11_carries_0 31 rfl
theorem dX11_carries_50 : decode cX11_carries 50 = .ok (.getfield 96, 3) := ckS_g gdX11_carries_0 32 rfl
theorem dX11_carries_53 : decode cX11_carries 53 = .ok (.if_icmp .le 7, 3) := ckS_g gdX11_carries_0 33 rfl
theorem dX11_carries_56 : decode cX11_carries 56 = .ok (.iconst 1, 1) := ckS_g gdX11_carries_0 34 rfl
theorem dX11_carries_57 : decode cX11_carries 57 = .ok (.goto 4, 3) := ckS_g gdX11_carries_0 35 rfl
theorem dX11_carries_60 : decode cX11_carries 60 = .ok (.iconst 0, 1) := ckS_g gdX11_carries_0 36 rfl
theorem dX11_carries_61 : decode cX11_carries 61 = .ok (.ireturn, 1) := ckS_g gdX11_carries_0 37 rfl
set_option maxRecDepth 100000 in
theorem z150 : wZ (.code yX11_carries cX11_carries 4 (some .boolean)) := ⟨wT6 (List.mem_of_getElem? (i := 100) rfl), Or.inl rfl⟩
def b_X11_carries_61 (S : HS) (x1 x2 x3 y0 : Int32) : Int32 × HS := (y0, S)
def q_X11_carries_61 (S : HS) (x1 x2 x3 y0 : Int32) : Prop := (narrow .boolean (.int y0) = .int y0) ∧ True
def b_X11_carries_42 (S : HS) (x1 x2 x3 : Int32) : Int32 × HS := (b_X11_carries_61 S x1 x2 x3 0)
def q_X11_carries_42 (S : HS) (x1 x2 x3 : Int32) : Prop := (q_X11_carries_61 S x1 x2 x3 0)
def f_X11_carries (S : HS) (x1 x2 x3 : Int32) : Int32 × HS := if x1 = 1 then if x2 ≤ x3 then (b_X11_carries_61 S x1 x2 x3 0) else (b_X11_carries_61 S x1 x2 x3 1) else if x1 = 2 then if x2 ≤ 0 then (b_X11_carries_42 S x1 x2 x3) else if (3 * x2) < (2 * (x2 + x3)) then (b_X11_carries_42 S x1 x2 x3) else (b_X11_carries_61 S x1 x2 x3 1) else if (2 * x2) ≤ (S.1 0) then (b_X11_carries_61 S x1 x2 x3 0) else (b_X11_carries_61 S x1 x2 x3 1)
def p_X11_carries (S : HS) (x1 x2 x3 : Int32) : Prop := (if x1 = 1 then (if x2 ≤ x3 then (q_X11_carries_61 S x1 x2 x3 0) else (q_X11_carries_61 S x1 x2 x3 1)) else (if x1 = 2 then (if x2 ≤ 0 then (q_X11_carries_42 S x1 x2 x3) else (if (3 * x2) < (2 * (x2 + x3)) then (q_X11_carries_42 S x1 x2 x3) else (q_X11_carries_61 S x1 x2 x3 1))) else (if (2 * x2) ≤ (S.1 0) then (q_X11_carries_61 S x1 x2 x3 0) else (q_X11_carries_61 S x1 x2 x3 1))))
def e_X11_carries : List Cond := [.fieldLink RX11 96 "MotionFloorModel$Hall" "seats" "I"]
def v_X11_carries : List Cond := .code yX11_carries cX11_carries 4 (some .boolean) :: (e_X11_carries ++ (wsX110 ++ []))
theorem te_X11_carries : GoodIn lw_tbl e_X11_carries := wGc z48 (wG0)
theorem t_X11_carries : GoodIn lw_tbl v_X11_carries := wGc z150 (wGa te_X11_carries (wGa zcX11 (wG0)))
set_option maxHeartbeats 4000000 in
set_option maxRecDepth 100000 in
theorem c_X11_carries (l : Launch) (G : va_G) (K : Nat → ClassId) (h : Nat) (g : Nat → Nat) (S0 : HS) (a1 a2 a3 : Int32) (sz : Nat) : Met l yX11_carries v_X11_carries ({ frames := 0, cells := 0, slots := 0, locals := 0 }) (va_Pc [.ref h, .int a1, .int a2, .int a3] (hS G K h g sz S0 (p_X11_carries S0 a1 a2 a3))) (va_Qi (fun (r : Int32) (u : HS) => (r, u) = f_X11_carries S0 a1 a2 a3) (hB G K h g (va_A (hW K h g S0) sz)) (va_A (hW K h g S0) sz)) 0 0 (va_A (hW K h g S0) sz) := by
  refine Met.ofW (cc := cX11_carries) (maxL := 4) (ret := (some .boolean)) (by decide) rfl ?_
  intro p e s m args below meth c s₁ B hml hv
  obtain ⟨rfl, ⟨hsz, hP, hK, hD0, hTE⟩, hp⟩ := hv
  have hx := B.exec
  have hb := B.bytes
  have hr := B.returns
  have hts := atoms_spec (ws := v_X11_carries) B.pre
  have t_ := t_X11_carries
  have mw : ∀ w ∈ e_X11_carries, w ∈ v_X11_carries := fun w h => List.mem_cons_of_mem _ (List.mem_append_left _ h)
  have hw := fun w (h : w ∈ e_X11_carries) => hts w (mw w h)
  have iX11 : ∀ w ∈ wsX110, w ∈ v_X11_carries := fun w h => List.mem_cons_of_mem _ (List.mem_append_right _ (List.mem_append_left _ h))
  have hown : s.vm.findClass RX11 = some m.cls := findClass_of_methodNamed B.named
  have hlocks := B.notSynchronized
  subst hsz
  have hD := hD0.self (sz := s.heap.size)
  generalize hAe : va_A (hW K h g S0) s.heap.size = A at hD ⊢
  have hA : ∀ q : Nat, s.heap.size ≤ q → A q := fun q h => by rw [← hAe]; exact Or.inr h
  have hS : va_S A s.heap s.heap [] := va_S.rf
  have hl := lv_entry ([.ref h, .int a1, .int a2, .int a3]) (n := 4) (Nat.le_of_ble_eq_true rfl)
  rw [lg_entry_eq]
  generalize (lg_sl ([.ref h, .int a1, .int a2, .int a3]) ++ List.replicate (4 - (lg_sl ([.ref h, .int a1, .int a2, .int a3])).length) Slot.unset).toArray = ls at hl ⊢
  have hl : lv_has ls 4 [(0, .ref h), (1, .int a1), (2, .int a2), (3, .int a3)] := hl
  refine wGen (fun Q hQ => ?_)
  obtain ⟨X, hX⟩ : ∃ X, f_X11_carries S0 a1 a2 a3 = X := ⟨_, rfl⟩
  have B_61 : ∀ (S : HS) (x1 x2 x3 y0 : Int32) (H : Heap) (locs : List Loc) (ls : Array Slot), b_X11_carries_61 S x1 x2 x3 y0 = X → q_X11_carries_61 S x1 x2 x3 y0 → va_P G vwCl (hW K h g S) H → va_D A (hW K h g S) → va_S A s.heap H locs → lv_has ls 4 [(0, .ref h), (1, .int x1), (2, .int x2), (3, .int x3)] → W p l e ({ frames := 0, cells := 0, slots := 0, locals := 0 } : Room) s m #[Value.ref h, Value.int a1, Value.int a2, Value.int a3] below meth c H locs 0 0 Q (F0 m 61 ls [.int y0]) := by
    intro S x1 x2 x3 y0 H locs ls hE hp hP hD hS hl
    unfold b_X11_carries_61 at hE
    unfold q_X11_carries_61 at hp
    obtain ⟨hy4, hp⟩ := hp
    subst hQ
    exact W.zret (v := y0) (ty := .boolean) hx hb hr hy4 (fun t ht hW => ⟨⟨y0, S, rfl, hE.trans hX.symm, by rw [ht]; exact hP, hD⟩, hS.F ht⟩) hS.2.2 dX11_carries_61
  have B_42 : ∀ (S : HS) (x1 x2 x3 : Int32) (H : Heap) (locs : List Loc) (ls : Array Slot), b_X11_carries_42 S x1 x2 x3 = X → q_X11_carries_42 S x1 x2 x3 → va_P G vwCl (hW K h g S) H → va_D A (hW K h g S) → va_S A s.heap H locs → lv_has ls 4 [(0, .ref h), (1, .int x1), (2, .int x2), (3, .int x3)] → W p l e ({ frames := 0, cells := 0, slots := 0, locals := 0 } : Room) s m #[Value.ref h, Value.int a1, Value.int a2, Value.int a3] below meth c H locs 0 0 Q (F0 m 42 ls []) := by
    intro S x1 x2 x3 H locs ls hE hp hP hD hS hl
    unfold b_X11_carries_42 at hE
    unfold q_X11_carries_42 at hp
    refine lv_iconst (v := 0) hx hb dX11_carries_42 (by decide) ?_
    refine lv_goto (tgt := 61) hx hb dX11_carries_43 (by decide) ?_
    exact B_61 S x1 x2 x3 0 _ _ _ hE hp hP hD hS (lv_sub hl [0, 1, 2, 3] rfl)
  have B_M : ∀ (S : HS) (x1 x2 x3 : Int32) (H : Heap) (locs : List Loc) (ls : Array Slot), f_X11_carries S x1 x2 x3 = X → p_X11_carries S x1 x2 x3 → va_P G vwCl (hW K h g S) H → va_D A (hW K h g S) → va_S A s.heap H locs → lv_has ls 4 [(0, .ref h), (1, .int x1), (2, .int x2), (3, .int x3)] → W p l e ({ frames := 0, cells := 0, slots := 0, locals := 0 } : Room) s m #[Value.ref h, Value.int a1, Value.int a2, Value.int a3] below meth c H locs 0 0 Q (F0 m 0 ls []) := by
    intro S x1 x2 x3 H locs ls hE hp hP hD hS hl
    unfold f_X11_carries at hE
    unfold p_X11_carries at hp
    refine lv_iload_n hx hb dX11_carries_0 rfl (lv_at hl 1 rfl) ?_
    refine lv_iconst (v := 1) hx hb dX11_carries_1 (by decide) ?_
    refine lv_icmp_ne (tgt := 18) hx hb dX11_carries_2 (by decide) (fun c1 => ?_) (fun c1 => ?_)
    · rw [if_neg c1] at hE hp
      refine lv_iload_n hx hb dX11_carries_18 rfl (lv_at hl 1 rfl) ?_
      refine lv_iconst (v := 2) hx hb dX11_carries_19 (by decide) ?_
      refine lv_icmp_ne (tgt := 46) hx hb dX11_carries_20 (by decide) (fun c2 => ?_) (fun c2 => ?_)
      · rw [if_neg c2] at hE hp
        refine lv_iconst (v := 2) hx hb dX11_carries_46 (by decide) ?_
        refine lv_iload_n hx hb dX11_carries_47 rfl (lv_at hl 2 rfl) ?_
        refine lv_imul hx hb dX11_carries_48 ?_
        refine lv_aload_n hx hb dX11_carries_49 rfl (lv_at hl 0 rfl) ?_
        refine va_get (D := G) (ci := 8) (v := .int (S.1 0)) (C := RX11) (T := TX11) (N := 42) hx hb hts iX11 hown hK hP 0 rfl rfl 0 (by decide) (hw (.fieldLink RX11 96 "MotionFloorModel$Hall" "seats" "I") (List.mem_of_getElem? (i := 0) rfl)) (fun _ h9 => h9) rfl dX11_carries_50 ?_
        refine lv_icmp_le (tgt := 60) hx hb dX11_carries_53 (by decide) (fun c3 => ?_) (fun c3 => ?_)
        · rw [if_pos c3] at hE hp
          refine lv_iconst (v := 0) hx hb dX11_carries_60 (by decide) ?_
          exact B_61 S x1 x2 x3 0 _ _ _ hE hp hP hD hS (lv_sub hl [0, 1, 2, 3] rfl)
        · rw [if_neg c3] at hE hp
          refine lv_iconst (v := 1) hx hb dX11_carries_56 (by decide) ?_
          refine lv_goto (tgt := 61) hx hb dX11_carries_57 (by decide) ?_
          exact B_61 S x1 x2 x3 1 _ _ _ hE hp hP hD hS (lv_sub hl [0, 1, 2, 3] rfl)
      · rw [if_pos c2] at hE hp
        refine lv_iload_n hx hb dX11_carries_23 rfl (lv_at hl 2 rfl) ?_
        refine lv_if_le (tgt := 42) hx hb dX11_carries_24 (by decide) (fun c5 => ?_) (fun c5 => ?_)
        · rw [if_pos c5] at hE hp
          exact B_42 S x1 x2 x3 _ _ _ hE hp hP hD hS (lv_sub hl [0, 1, 2, 3] rfl)
        · rw [if_neg c5] at hE hp
          refine lv_iconst (v := 3) hx hb dX11_carries_27 (by decide) ?_
          refine lv_iload_n hx hb dX11_carries_28 rfl (lv_at hl 2 rfl) ?_
          refine lv_imul hx hb dX11_carries_29 ?_
          refine lv_iconst (v := 2) hx hb dX11_carries_30 (by decide) ?_
          refine lv_iload_n hx hb dX11_carries_31 rfl (lv_at hl 2 rfl) ?_
          refine lv_iload_n hx hb dX11_carries_32 rfl (lv_at hl 3 rfl) ?_
          refine lv_iadd hx hb dX11_carries_33 ?_
          refine lv_imul hx hb dX11_carries_34 ?_
          refine lv_icmp_lt (tgt := 42) hx hb dX11_carries_35 (by decide) (fun c6 => ?_) (fun c6 => ?_)
          · rw [if_pos c6] at hE hp
            exact B_42 S x1 x2 x3 _ _ _ hE hp hP hD hS (lv_sub hl [0, 1, 2, 3] rfl)
          · rw [if_neg c6] at hE hp
            refine lv_iconst (v := 1) hx hb dX11_carries_38 (by decide) ?_
            refine lv_goto (tgt := 61) hx hb dX11_carries_39 (by decide) ?_
            exact B_61 S x1 x2 x3 1 _ _ _ hE hp hP hD hS (lv_sub hl [0, 1, 2, 3] rfl)
    · rw [if_pos c1] at hE hp
      refine lv_iload_n hx hb dX11_carries_5 rfl (lv_at hl 2 rfl) ?_
      refine lv_iload_n hx hb dX11_carries_6 rfl (lv_at hl 3 rfl) ?_
      refine lv_icmp_le (tgt := 14) hx hb dX11_carries_7 (by decide) (fun c7 => ?_) (fun c7 => ?_)
      · rw [if_pos c7] at hE hp
        refine lv_iconst (v := 0) hx hb dX11_carries_14 (by decide) ?_
        refine lv_goto (tgt := 61) hx hb dX11_carries_15 (by decide) ?_
        exact B_61 S x1 x2 x3 0 _ _ _ hE hp hP hD hS (lv_sub hl [0, 1, 2, 3] rfl)
      · rw [if_neg c7] at hE hp
        refine lv_iconst (v := 1) hx hb dX11_carries_10 (by decide) ?_
        refine lv_goto (tgt := 61) hx hb dX11_carries_11 (by decide) ?_
        exact B_61 S x1 x2 x3 1 _ _ _ hE hp hP hD hS (lv_sub hl [0, 1, 2, 3] rfl)
  exact B_M S0 a1 a2 a3 _ _ _ hX hp hP hD hS hl
theorem dX11_carried_1 : decode cX11_carried 1 = .ok (.tableswitch 256 1 8 #[47, 110, 110, 256, 256, 133, 185, 150], 47) := by decide +kernel
theorem gdX11_carried_0 : ckS (List.drop 0 cX11_carried.data.toList) 0 [(0, .iload_n 2, 1), (48, .aload_n 0, 1), (49, .dup, 1), (50, .getfield 124, 3), (53, .iconst 1, 1), (54, .iadd, 1), (55, .putfield 124, 3), (58, .aload_n 0, 1), (59, .aload_n 0, 1), (60, .getfield 37, 3), (63, .iload_n 1, 1), (64, .iaload, 1), (65, .putfield 133, 3), (68, .iconst 0, 1), (69, .istore_n 3, 1), (70, .iload_n 3, 1), (71, .aload_n 0, 1), (72, .getfield 37, 3), (75, .iload_n 1, 1), (76, .iaload, 1), (77, .if_icmp .ge 27, 3), (80, .aload_n 0, 1), (81, .getfield 87, 3), (84, .iload_n 3, 1), (85, .aload_n 0, 1), (86, .getfield 65, 3), (89, .sipush 400, 3), (92, .iload_n 1, 1), (93, .imul, 1), (94, .iload_n 3, 1), (95, .iadd, 1), (96, .iaload, 1), (97, .iastore, 1), (98, .iinc 3 1, 3), (101, .goto (-31), 3), (104, .aload_n 0, 1), (105, .invokevirtual 227, 3), (108, .goto 265, 3), (111, .aload_n 0, 1), (112, .aload_n 0, 1)] = true := by decide +kernel
theorem dX11_carried_0 : decode cX11_carried 0 = .ok (.iload_n 2, 1) := ckS_g gdX11_carried_0 0 rfl
theorem dX11_carried_48 : decode cX11_carried 48 = .ok (.aload_n 0, 1) := ckS_g gdX11_carried_0 1 rfl
theorem dX11_carried_49 : decode cX11_carried 49 = .ok (.dup, 1) := ckS_g gdX11_carried_0 2 rfl
theorem dX11_carried_50 : decode cX11_carried 50 = .ok (.getfield 124, 3) := ckS_g gdX11_carried_0 3 rfl
theorem dX11_carried_53 : decode cX11_carried 53 = .ok (.iconst 1, 1) := ckS_g gdX11_carried_0 4 rfl
theorem dX11_carried_54 : decode cX11_carried 54 = .ok (.iadd, 1) := ckS_g gdX11_carried_0 5 rfl
theorem dX11_carried_55 : decode cX11_carried 55 = .ok (.putfield 124, 3) := ckS_g gdX11_carried_0 6 rfl
theorem dX11_carried_58 : decode cX11_carried 58 = .ok (.aload_n 0, 1) := ckS_g gdX11_carried_0 7 rfl
theorem dX11_carried_59 : decode cX11_carried 59 = .ok (.aload_n 0, 1) := ckS_g gdX11_carried_0 8 rfl
theorem dX11_carried_60 : decode cX11_carried 60 = .ok (.getfield 37, 3) := ckS_g gdX11_carried_0 9 rfl
theorem dX11_carried_63 : decode cX11_carried 63 = .ok (.iload_n 1, 1) := ckS_g gdX11_carried_0 10 rfl
theorem dX11_carried_64 : decode cX11_carried 64 = .ok (.iaload, 1) := ckS_g gdX11_carried_0 11 rfl
theorem dX11_carried_65 : decode cX11_carried 65 = .ok (.putfield 133, 3) := ckS_g gdX11_carried_0 12 rfl
theorem dX11_carried_68 : decode cX11_carried 68 = .ok (.iconst 0, 1) := ckS_g gdX11_carried_0 13 rfl
theorem dX11_carried_69 : decode cX11_carried 69 = .ok (.istore_n 3, 1) := ckS_g gdX11_carried_0 14 rfl
theorem dX11_carried_70 : decode cX11_carried 70 = .ok (.iload_n 3, 1) := ckS_g gdX11_carried_0 15 rfl
theorem dX11_carried_71 : decode cX11_carried 71 = .ok (.aload_n 0, 1) := ckS_g gdX11_carried_0 16 rfl
theorem dX11_carried_72 : decode cX11_carried 72 = .ok (.getfield 37, 3) := ckS_g gdX11_carried_0 17 rfl
theorem dX11_carried_75 : decode cX11_carried 75 = .ok (.iload_n 1, 1) := ckS_g gdX11_carried_0 18 rfl
theorem dX11_carried_76 : decode cX11_carried 76 = .ok (.iaload, 1) := ckS_g gdX11_carried_0 19 rfl
theorem dX11_carried_77 : decode cX11_carried 77 = .ok (.if_icmp .ge 27, 3) := ckS_g gdX11_carried_0 20 rfl
theorem dX11_carried_80 : decode cX11_carried 80 = .ok (.aload_n 0, 1) := ckS_g gdX11_carried_0 21 rfl
theorem dX11_carried_81 : decode cX11_carried 81 = .ok (.getfield 87, 3) := ckS_g gdX11_carried_0 22 rfl
theorem dX11_carried_84 : decode cX11_carried 84 = .ok (.iload_n 3, 1) := ckS_g gdX11_carried_0 23 rfl
theorem dX11_carried_85 : decode cX11_carried 85 = .ok (.aload_n 0, 1) := ckS_g gdX11_carried_0 24 rfl
theorem dX11_carried_86 : decode cX11_carried 86 = .ok (.getfield 65, 3) := ckS_g gdX11_carried_0 25 rfl
theorem dX11_carried_89 : decode cX11_carried 89 = .ok (.sipush 400, 3) := ckS_g gdX11_carried_0 26 rfl
theorem dX11_carried_92 : decode cX11_carried 92 = .ok (.iload_n 1, 1) := ckS_g gdX11_carried_0 27 rfl
theorem dX11_carried_93 : decode cX11_carried 93 = .ok (.imul, 1) := ckS_g gdX11_carried_0 28 rfl
theorem dX11_carried_94 : decode cX11_carried 94 = .ok (.iload_n 3, 1) := ckS_g gdX11_carried_0 29 rfl
theorem dX11_carried_95 : decode cX11_carried 95 = .ok (.iadd, 1) := ckS_g gdX11_carried_0 30 rfl
theorem dX11_carried_96 : decode cX11_carried 96 = .ok (.iaload, 1) := ckS_g gdX11_carried_0 31 rfl
theorem dX11_carried_97 : decode cX11_carried 97 = .ok (.iastore, 1) := ckS_g gdX11_carried_0 32 rfl
theorem dX11_carried_98 : decode cX11_carried 98 = .ok (.iinc 3 1, 3) := ckS_g gdX11_carried_0 33 rfl
theorem dX11_carried_101 : decode cX11_carried 101 = .ok (.goto (-31), 3) := ckS_g gdX11_carried_0 34 rfl
theorem dX11_carried_104 : decode cX11_carried 104 = .ok (.aload_n 0, 1) := ckS_g gdX11_carried_0 35 rfl
theorem dX11_carried_105 : decode cX11_carried 105 = .ok (.invokevirtual 227, 3) := ckS_g gdX11_carried_0 36 rfl
theorem dX11_carried_108 : decode cX11_carried 108 = .ok (.goto 265, 3) := ckS_g gdX11_carried_0 37 rfl
theorem dX11_carried_111 : decode cX11_carried 111 = .ok (.aload_n 0, 1) := ckS_g gdX11_carried_0 38 rfl
theorem dX11_carried_112 : decode cX11_carried 112 = .ok (.aload_n 0, 1) := ckS_g gdX11_carried_0 39 rfl
theorem gdX11_carried_113 : ckS (List.drop 113 cX11_carried.data.toList) 113 [(113, .getfield 72, 3), (116, .aload_n 0, 1), (117, .getfield 115, 3), (120, .iconst 2, 1), (121, .isub, 1), (122, .iaload, 1), (123, .iload_n 1, 1), (124, .invokevirtual 240, 3), (127, .aload_n 0, 1), (128, .invokevirtual 227, 3), (131, .goto 242, 3), (134, .aload_n 0, 1), (135, .invokevirtual 227, 3), (138, .aload_n 0, 1), (139, .getfield 52, 3), (142, .aload_n 0, 1), (143, .invokevirtual 155, 3), (146, .iconst 1, 1), (147, .bastore, 1), (148, .goto 225, 3), (151, .aload_n 0, 1), (152, .invokevirtual 227, 3), (155, .iconst 0, 1), (156, .istore_n 3, 1), (157, .iload_n 3, 1), (158, .aload_n 0, 1), (159, .getfield 96, 3), (162, .if_icmp .ge 16, 3), (165, .aload_n 0, 1), (166, .getfield 9, 3), (169, .iload_n 3, 1), (170, .iconst 0, 1), (171, .bastore, 1), (172, .iinc 3 1, 3), (175, .goto (-18), 3), (178, .aload_n 0, 1), (179, .iconst 0, 1), (180, .putfield 100, 3), (183, .goto 190, 3), (186, .aload_n 0, 1)] = true := by decide +kernel
theorem dX11_carried_113 : decode cX11_carried 113 = .ok (.getfield 72, 3) := ckS_g gdX11_carried_113 0 rfl
theorem dX11_carried_116 : decode cX11_carried 116 = .ok (.aload_n 0, 1) := ckS_g gdX11_carried_113 1 rfl
theorem dX11_carried_117 : decode cX11_carried 117 = .ok (.getfield 115, 3) := ckS_g gdX11_carried_113 2 rfl
theorem dX11_carried_120 : decode cX11_carried 120 = .ok (.iconst 2, 1) := ckS_g gdX11_carried_113 3 rfl
theorem dX11_carried_121 : decode cX11_carried 121 = .ok (.isub, 1) := ckS_g gdX11_carried_113 4 rfl
theorem dX11_carried_122 : decode cX11_carried 122 = .ok (.iaload, 1) := ckS_g gdX11_carried_113 5 rfl
theorem dX11_carried_123 : decode cX11_carried 123 = .ok (.iload_n 1, 1) := ckS_g gdX11_carried_113 6 rfl
theorem dX11_carried_124 : decode cX11_carried 124 = .ok (.invokevirtual 240, 3) := ckS_g gdX11_carried_113 7 rfl
theorem dX11_carried_127 : decode cX11_carried 127 = .ok (.aload_n 0, 1) := ckS_g gdX11_carried_113 8 rfl
theorem dX11_carried_128 : decode cX11_carried 128 = .ok (.invokevirtual 227, 3) := ckS_g gdX11_carried_113 9 rfl
theorem dX11_carried_131 : decode cX11_carried 131 = .ok (.goto 242, 3) := ckS_g gdX11_carried_113 10 rfl
theorem dX11_carried_134 : decode cX11_carried 134 = .ok (.aload_n 0, 1) := ckS_g gdX11_carried_113 11 rfl
theorem dX11_carried_135 : decode cX11_carried 135 = .ok (.invokevirtual 227, 3) := ckS_g gdX11_carried_113 12 rfl
theorem dX11_carried_138 : decode cX11_carried 138 = .ok (.aload_n 0, 1) := ckS_g gdX11_carried_113 13 rfl
theorem dX11_carried_139 : decode cX11_carried 139 = .ok (.getfield 52, 3) := ckS_g gdX11_carried_113 14 rfl
theorem dX11_carried_142 : decode cX11_carried 142 = .ok (.aload_n 0, 1) := ckS_g gdX11_carried_113 15 rfl
theorem dX11_carried_143 : decode cX11_carried 143 = .ok (.invokevirtual 155, 3) := ckS_g gdX11_carried_113 16 rfl
theorem dX11_carried_146 : decode cX11_carried 146 = .ok (.iconst 1, 1) := ckS_g gdX11_carried_113 17 rfl
theorem dX11_carried_147 : decode cX11_carried 147 = .ok (.bastore, 1) := ckS_g gdX11_carried_113 18 rfl
theorem dX11_carried_148 : decode cX11_carried 148 = .ok (.goto 225, 3) := ckS_g gdX11_carried_113 19 rfl
theorem dX11_carried_151 : decode cX11_carried 151 = .ok (.aload_n 0, 1) := ckS_g gdX11_carried_113 20 rfl
theorem dX11_carried_152 : decode cX11_carried 152 = .ok (.invokevirtual 227, 3) := ckS_g gdX11_carried_113 21 rfl
theorem dX11_carried_155 : decode cX11_carried 155 = .ok (.iconst 0, 1) := ckS_g gdX11_carried_113 22 rfl
theorem dX11_carried_156 : decode cX11_carried 156 = .ok (.istore_n 3, 1) := ckS_g gdX11_carried_113 23 rfl
theorem dX11_carried_157 : decode cX11_carried 157 = .ok (.iload_n 3, 1) := ckS_g gdX11_carried_113 24 rfl
theorem dX11_carried_158 : decode cX11_carried 158 = .ok (.aload_n 0, 1) := ckS_g gdX11_carried_113 25 rfl
theorem dX11_carried_159 : decode cX11_carried 159 = .ok (.getfield 96, 3) := ckS_g gdX11_carried_113 26 rfl
theorem dX11_carried_162 : decode cX11_carried 162 = .ok (.if_icmp .ge 16, 3) := ckS_g gdX11_carried_113 27 rfl
theorem dX11_carried_165 : decode cX11_carried 165 = .ok (.aload_n 0, 1) := ckS_g gdX11_carried_113 28 rfl
theorem dX11_carried_166 : decode cX11_carried 166 = .ok (.getfield 9, 3) := ckS_g gdX11_carried_113 29 rfl
theorem dX11_carried_169 : decode cX11_carried 169 = .ok (.iload_n 3, 1) := ckS_g gdX11_carried_113 30 rfl
theorem dX11_carried_170 : decode cX11_carried 170 = .ok (.iconst 0, 1) := ckS_g gdX11_carried_113 31 rfl
theorem dX11_carried_171 : decode cX11_carried 171 = .ok (.bastore, 1) := ckS_g gdX11_carried_113 32 rfl
theorem dX11_carried_172 : decode cX11_carried 172 = .ok (.iinc 3 1, 3) := ckS_g gdX11_carried_113 33 rfl
theorem dX11_carried_175 : decode cX11_carried 175 = .ok (.goto (-18), 3) := ckS_g gdX11_carried_113 34 rfl
theorem dX11_carried_178 : decode cX11_carried 178 = .ok (.aload_n 0, 1) := ckS_g gdX11_carried_113 35 rfl
theorem dX11_carried_179 : decode cX11_carried 179 = .ok (.iconst 0, 1) := ckS_g gdX11_carried_113 36 rfl
theorem dX11_carried_180 : decode cX11_carried 180 = .ok (.putfield 100, 3) := ckS_g gdX11_carried_113 37 rfl
theorem dX11_carried_183 : decode cX11_carried 183 = .ok (.goto 190, 3) := ckS_g gdX11_carried_113 38 rfl
theorem dX11_carried_186 : decode cX11_carried 186 = .ok (.aload_n 0, 1) := ckS_g gdX11_carried_113 39 rfl
theorem gdX11_carried_187 : ckS (List.drop 187 cX11_carried.data.toList) 187 [(187, .invokevirtual 227, 3), (190, .aload_n 0, 1), (191, .invokevirtual 193, 3), (194, .istore_n 3, 1), (195, .iconst 0, 1), (196, .istore 4, 2), (198, .iload 4, 2), (200, .aload_n 0, 1), (201, .getfield 115, 3), (204, .if_icmp .ge 28, 3), (207, .aload_n 0, 1), (208, .getfield 78, 3), (211, .bipush 9, 2), (213, .iload_n 3, 1), (214, .imul, 1), (215, .iload 4, 2), (217, .iadd, 1), (218, .aload_n 0, 1), (219, .getfield 72, 3), (222, .iload 4, 2), (224, .iaload, 1), (225, .iastore, 1), (226, .iinc 4 1, 3), (229, .goto (-31), 3), (232, .aload_n 0, 1), (233, .getfield 81, 3), (236, .iload_n 3, 1), (237, .aload_n 0, 1), (238, .getfield 115, 3), (241, .iastore, 1), (242, .aload_n 0, 1), (243, .getfield 84, 3), (246, .iload_n 3, 1), (247, .iconst 1, 1), (248, .bastore, 1), (249, .aload_n 0, 1), (250, .iconst 0, 1), (251, .putfield 115, 3), (254, .goto 119, 3), (257, .aload_n 0, 1)] = true := by decide +kernel
theorem dX11_carried_187 : decode cX11_carried 187 = .ok (.invokevirtual 227, 3) := ckS_g gdX11_carried_187 0 rfl
theorem dX11_carried_190 : decode cX11_carried 190 = .ok (.aload_n 0, 1) := ckS_g gdX11_carried_187 1 rfl
theorem dX11_carried_191 : decode cX11_carried 191 = .ok (.invokevirtual 193, 3) := ckS_g gdX11_carried_187 2 rfl
theorem dX11_carried_194 : decode cX11_carried 194 = .ok (.istore_n 3, 1) := ckS_g gdX11_carried_187 3 rfl
theorem dX11_carried_195 : decode cX11_carried 195 = .ok (.iconst 0, 1) := ckS_g gdX11_carried_187 4 rfl
theorem dX11_carried_196 : decode cX11_carried 196 = .ok (.istore 4, 2) := ckS_g gdX11_carried_187 5 rfl
theorem dX11_carried_198 : decode cX11_carried 198 = .ok (.iload 4, 2) := ckS_g gdX11_carried_187 6 rfl
theorem dX11_carried_200 : decode cX11_carried 200 = .ok (.aload_n 0, 1) := ckS_g gdX11_carried_187 7 rfl
theorem dX11_carried_201 : decode cX11_carried 201 = .ok (.getfield 115, 3) := ckS_g gdX11_carried_187 8 rfl
theorem dX11_carried_204 : decode cX11_carried 204 = .ok (.if_icmp .ge 28, 3) := ckS_g gdX11_carried_187 9 rfl
theorem dX11_carried_207 : decode cX11_carried 207 = .ok (.aload_n 0, 1) := ckS_g gdX11_carried_187 10 rfl
theorem dX11_carried_208 : decode cX11_carried 208 = .ok (.getfield 78, 3) := ckS_g gdX11_carried_187 11 rfl
theorem dX11_carried_211 : decode cX11_carried 211 = .ok (.bipush 9, 2) := ckS_g gdX11_carried_187 12 rfl
theorem dX11_carried_213 : decode cX11_carried 213 = .ok (.iload_n 3, 1) := ckS_g gdX11_carried_187 13 rfl
theorem dX11_carried_214 : decode cX11_carried 214 = .ok (.imul, 1) := ckS_g gdX11_carried_187 14 rfl
theorem dX11_carried_215 : decode cX11_carried 215 = .ok (.iload 4, 2) := ckS_g gdX11_carried_187 15 rfl
theorem dX11_carried_217 : decode cX11_carried 217 = .ok (.iadd, 1) := ckS_g gdX11_carried_187 16 rfl
theorem dX11_carried_218 : decode cX11_carried 218 = .ok (.aload_n 0, 1) := ckS_g gdX11_carried_187 17 rfl
theorem dX11_carried_219 : decode cX11_carried 219 = .ok (.getfield 72, 3) := ckS_g gdX11_carried_187 18 rfl
theorem dX11_carried_222 : decode cX11_carried 222 = .ok (.iload 4, 2) := ckS_g gdX11_carried_187 19 rfl
theorem dX11_carried_224 : decode cX11_carried 224 = .ok (.iaload, 1) := ckS_g gdX11_carried_187 20 rfl
theorem dX11_carried_225 : decode cX11_carried 225 = .ok (.iastore, 1) := ckS_g gdX11_carried_187 21 rfl
theorem dX11_carried_226 : decode cX11_carried 226 = .ok (.iinc 4 1, 3) := ckS_g gdX11_carried_187 22 rfl
theorem dX11_carried_229 : decode cX11_carried 229 = .ok (.goto (-31), 3) := ckS_g gdX11_carried_187 23 rfl
theorem dX11_carried_232 : decode cX11_carried 232 = .ok (.aload_n 0, 1) := ckS_g gdX11_carried_187 24 rfl
theorem dX11_carried_233 : decode cX11_carried 233 = .ok (.getfield 81, 3) := ckS_g gdX11_carried_187 25 rfl
theorem dX11_carried_236 : decode cX11_carried 236 = .ok (.iload_n 3, 1) := ckS_g gdX11_carried_187 26 rfl
theorem dX11_carried_237 : decode cX11_carried 237 = .ok (.aload_n 0, 1) := ckS_g gdX11_carried_187 27 rfl
theorem dX11_carried_238 : decode cX11_carried 238 = .ok (.getfield 115, 3) := ckS_g gdX11_carried_187 28 rfl
theorem dX11_carried_241 : decode cX11_carried 241 = .ok (.iastore, 1) := ckS_g gdX11_carried_187 29 rfl
theorem dX11_carried_242 : decode cX11_carried 242 = .ok (.aload_n 0, 1) := ckS_g gdX11_carried_187 30 rfl
theorem dX11_carried_243 : decode cX11_carried 243 = .ok (.getfield 84, 3) := ckS_g gdX11_carried_187 31 rfl
theorem dX11_carried_246 : decode cX11_carried 246 = .ok (.iload_n 3, 1) := ckS_g gdX11_carried_187 32 rfl
theorem dX11_carried_247 : decode cX11_carried 247 = .ok (.iconst 1, 1) := ckS_g gdX11_carried_187 33 rfl
theorem dX11_carried_248 : decode cX11_carried 248 = .ok (.bastore, 1) := ckS_g gdX11_carried_187 34 rfl
theorem dX11_carried_249 : decode cX11_carried 249 = .ok (.aload_n 0, 1) := ckS_g gdX11_carried_187 35 rfl
theorem dX11_carried_250 : decode cX11_carried 250 = .ok (.iconst 0, 1) := ckS_g gdX11_carried_187 36 rfl
theorem dX11_carried_251 : decode cX11_carried 251 = .ok (.putfield 115, 3) := ckS_g gdX11_carried_187 37 rfl
theorem dX11_carried_254 : decode cX11_carried 254 = .ok (.goto 119, 3) := ckS_g gdX11_carried_187 38 rfl
theorem dX11_carried_257 : decode cX11_carried 257 = .ok (.aload_n 0, 1) := ckS_g gdX11_carried_187 39 rfl
theorem gdX11_carried_258 : ckS (List.drop 258 cX11_carried.data.toList) 258 [(258, .getfield 115, 3), (261, .iconst 1, 1), (262, .if_icmp .le 10, 3), (265, .aload_n 0, 1), (266, .invokevirtual 227, 3), (269, .goto (-12), 3), (272, .aload_n 0, 1), (273, .getfield 72, 3), (276, .iconst 0, 1), (277, .iaload, 1), (278, .istore_n 3, 1), (279, .aload_n 0, 1), (280, .invokevirtual 193, 3), (283, .istore 4, 2), (285, .aload_n 0, 1), (286, .getfield 78, 3), (289, .bipush 9, 2), (291, .iload 4, 2), (293, .imul, 1), (294, .iload_n 3, 1), (295, .iastore, 1), (296, .aload_n 0, 1), (297, .getfield 81, 3), (300, .iload 4, 2), (302, .iconst 1, 1), (303, .iastore, 1), (304, .aload_n 0, 1), (305, .getfield 84, 3), (308, .iload 4, 2), (310, .iconst 0, 1), (311, .bastore, 1), (312, .aload_n 0, 1), (313, .iconst 0, 1), (314, .putfield 115, 3), (317, .aload_n 0, 1), (318, .iload_n 3, 1), (319, .invokevirtual 144, 3), (322, .aload_n 0, 1), (323, .getfield 55, 3), (326, .iload_n 3, 1)] = true := by decide +kernel
theorem dX11_carried_258 : decode cX11_carried 258 = .ok (.getfield 115, 3) := ckS_g gdX11_carried_258 0 rfl
theorem dX11_carried_261 : decode cX11_carried 261 = .ok (.iconst 1, 1) := ckS_g gdX11_carried_258 1 rfl
theorem dX11_carried_262 : decode cX11_carried 262 = .ok (.if_icmp .le 10, 3) := ckS_g gdX11_carried_258 2 rfl
theorem dX11_carried_265 : decode cX11_carried 265 = .ok (.aload_n 0, 1) := ckS_g gdX11_carried_258 3 rfl
theorem dX11_carried_266 : decode cX11_carried 266 = .ok (.invokevirtual 227, 3) := ckS_g gdX11_carried_258 4 rfl
theorem dX11_carried_269 : decode cX11_carried 269 = .ok (.goto (-12), 3) := ckS_g gdX11_carried_258 5 rfl
theorem dX11_carried_272 : decode cX11_carried 272 = .ok (.aload_n 0, 1) := ckS_g gdX11_carried_258 6 rfl
theorem dX11_carried_273 : decode cX11_carried 273 = .ok (.getfield 72, 3) := ckS_g gdX11_carried_258 7 rfl
theorem dX11_carried_276 : decode cX11_carried 276 = .ok (.iconst 0, 1) := ckS_g gdX11_carried_258 8 rfl
theorem dX11_carried_277 : decode cX11_carried 277 = .ok (.iaload, 1) := ckS_g gdX11_carried_258 9 rfl
theorem dX11_carried_278 : decode cX11_carried 278 = .ok (.istore_n 3, 1) := ckS_g gdX11_carried_258 10 rfl
theorem dX11_carried_279 : decode cX11_carried 279 = .ok (.aload_n 0, 1) := ckS_g gdX11_carried_258 11 rfl
theorem dX11_carried_280 : decode cX11_carried 280 = .ok (.invokevirtual 193, 3) := ckS_g gdX11_carried_258 12 rfl
theorem dX11_carried_283 : decode cX11_carried 283 = .ok (.istore 4, 2) := ckS_g gdX11_carried_258 13 rfl
theorem dX11_carried_285 : decode cX11_carried 285 = .ok (.aload_n 0, 1) := ckS_g gdX11_carried_258 14 rfl
theorem dX11_carried_286 : decode cX11_carried 286 = .ok (.getfield 78, 3) := ckS_g gdX11_carried_258 15 rfl
theorem dX11_carried_289 : decode cX11_carried 289 = .ok (.bipush 9, 2) := ckS_g gdX11_carried_258 16 rfl
theorem dX11_carried_291 : decode cX11_carried 291 = .ok (.iload 4, 2) := ckS_g gdX11_carried_258 17 rfl
theorem dX11_carried_293 : decode cX11_carried 293 = .ok (.imul, 1) := ckS_g gdX11_carried_258 18 rfl
theorem dX11_carried_294 : decode cX11_carried 294 = .ok (.iload_n 3, 1) := ckS_g gdX11_carried_258 19 rfl
theorem dX11_carried_295 : decode cX11_carried 295 = .ok (.iastore, 1) := ckS_g gdX11_carried_258 20 rfl
theorem dX11_carried_296 : decode cX11_carried 296 = .ok (.aload_n 0, 1) := ckS_g gdX11_carried_258 21 rfl
theorem dX11_carried_297 : decode cX11_carried 297 = .ok (.getfield 81, 3) := ckS_g gdX11_carried_258 22 rfl
theorem dX11_carried_300 : decode cX11_carried 300 = .ok (.iload 4, 2) := ckS_g gdX11_carried_258 23 rfl
theorem dX11_carried_302 : decode cX11_carried 302 = .ok (.iconst 1, 1) := ckS_g gdX11_carried_258 24 rfl
theorem dX11_carried_303 : decode cX11_carried 303 = .ok (.iastore, 1) := ckS_g gdX11_carried_258 25 rfl
theorem dX11_carried_304 : decode cX11_carried 304 = .ok (.aload_n 0, 1) := ckS_g gdX11_carried_258 26 rfl
theorem dX11_carried_305 : decode cX11_carried 305 = .ok (.getfield 84, 3) := ckS_g gdX11_carried_258 27 rfl
theorem dX11_carried_308 : decode cX11_carried 308 = .ok (.iload 4, 2) := ckS_g gdX11_carried_258 28 rfl
theorem dX11_carried_310 : decode cX11_carried 310 = .ok (.iconst 0, 1) := ckS_g gdX11_carried_258 29 rfl
theorem dX11_carried_311 : decode cX11_carried 311 = .ok (.bastore, 1) := ckS_g gdX11_carried_258 30 rfl
theorem dX11_carried_312 : decode cX11_carried 312 = .ok (.aload_n 0, 1) := ckS_g gdX11_carried_258 31 rfl
theorem dX11_carried_313 : decode cX11_carried 313 = .ok (.iconst 0, 1) := ckS_g gdX11_carried_258 32 rfl
theorem dX11_carried_314 : decode cX11_carried 314 = .ok (.putfield 115, 3) := ckS_g gdX11_carried_258 33 rfl
theorem dX11_carried_317 : decode cX11_carried 317 = .ok (.aload_n 0, 1) := ckS_g gdX11_carried_258 34 rfl
theorem dX11_carried_318 : decode cX11_carried 318 = .ok (.iload_n 3, 1) := ckS_g gdX11_carried_258 35 rfl
theorem dX11_carried_319 : decode cX11_carried 319 = .ok (.invokevirtual 144, 3) := ckS_g gdX11_carried_258 36 rfl
theorem dX11_carried_322 : decode cX11_carried 322 = .ok (.aload_n 0, 1) := ckS_g gdX11_carried_258 37 rfl
theorem dX11_carried_323 : decode cX11_carried 323 = .ok (.getfield 55, 3) := ckS_g gdX11_carried_258 38 rfl
theorem dX11_carried_326 : decode cX11_carried 326 = .ok (.iload_n 3, 1) := ckS_g gdX11_carried_258 39 rfl
theorem gdX11_carried_327 : ckS (List.drop 327 cX11_carried.data.toList) 327 [(327, .iload_n 2, 1), (328, .iconst 5, 1), (329, .if_icmp .ne 7, 3), (332, .iconst 1, 1), (333, .goto 4, 3), (336, .iconst 0, 1), (337, .bastore, 1), (338, .aload_n 0, 1), (339, .getfield 61, 3), (342, .iload_n 3, 1), (343, .iload_n 2, 1), (344, .iconst 4, 1), (345, .if_icmp .ne 7, 3), (348, .iconst 1, 1), (349, .goto 4, 3), (352, .iconst 0, 1), (353, .bastore, 1), (354, .iload_n 2, 1), (355, .iconst 4, 1), (356, .if_icmp .ne 17, 3), (359, .aload_n 0, 1), (360, .getfield 25, 3), (363, .iload_n 3, 1), (364, .iconst (-1), 1), (365, .iastore, 1), (366, .aload_n 0, 1), (367, .getfield 28, 3), (370, .iload_n 3, 1), (371, .iconst (-1), 1), (372, .iastore, 1), (373, .return_, 1)] = true := by decide +kernel
theorem dX11_carried_327 : decode cX11_carried 327 = .ok (.iload_n 2, 1) := ckS_g gdX11_carried_327 0 rfl
theorem dX11_carried_328 : decode cX11_carried 328 = .ok (.iconst 5, 1) := ckS_g gdX11_carried_327 1 rfl
theorem dX11_carried_329 : decode cX11_carried 329 = .ok (.if_icmp .ne 7, 3) := ckS_g gdX11_carried_327 2 rfl
theorem dX11_carried_332 : decode cX11_carried 332 = .ok (.iconst 1, 1) := ckS_g gdX11_carried_327 3 rfl
theorem dX11_carried_333 : decode cX11_carried 333 = .ok (.goto 4, 3) := ckS_g gdX11_carried_327 4 rfl
theorem dX11_carried_336 : decode cX11_carried 336 = .ok (.iconst 0, 1) := ckS_g gdX11_carried_327 5 rfl
theorem dX11_carried_337 : decode cX11_carried 337 = .ok (.bastore, 1) := ckS_g gdX11_carried_327 6 rfl
theorem dX11_carried_338 : decode cX11_carried 338 = .ok (.aload_n 0, 1) := ckS_g gdX11_carried_327 7 rfl
theorem dX11_carried_339 : decode cX11_carried 339 = .ok (.getfield 61, 3) := ckS_g gdX11_carried_327 8 rfl
theorem dX11_carried_342 : decode cX11_carried 342 = .ok (.iload_n 3, 1) := ckS_g gdX11_carried_327 9 rfl
theorem dX11_carried_343 : decode cX11_carried 343 = .ok (.iload_n 2, 1) := ckS_g gdX11_carried_327 10 rfl
theorem dX11_carried_344 : decode cX11_carried 344 = .ok (.iconst 4, 1) := ckS_g gdX11_carried_327 11 rfl
theorem dX11_carried_345 : decode cX11_carried 345 = .ok (.if_icmp .ne 7, 3) := ckS_g gdX11_carried_327 12 rfl
theorem dX11_carried_348 : decode cX11_carried 348 = .ok (.iconst 1, 1) := ckS_g gdX11_carried_327 13 rfl
theorem dX11_carried_349 : decode cX11_carried 349 = .ok (.goto 4, 3) := ckS_g gdX11_carried_327 14 rfl
theorem dX11_carried_352 : decode cX11_carried 352 = .ok (.iconst 0, 1) := ckS_g gdX11_carried_327 15 rfl
theorem dX11_carried_353 : decode cX11_carried 353 = .ok (.bastore, 1) := ckS_g gdX11_carried_327 16 rfl
theorem dX11_carried_354 : decode cX11_carried 354 = .ok (.iload_n 2, 1) := ckS_g gdX11_carried_327 17 rfl
theorem dX11_carried_355 : decode cX11_carried 355 = .ok (.iconst 4, 1) := ckS_g gdX11_carried_327 18 rfl
theorem dX11_carried_356 : decode cX11_carried 356 = .ok (.if_icmp .ne 17, 3) := ckS_g gdX11_carried_327 19 rfl
theorem dX11_carried_359 : decode cX11_carried 359 = .ok (.aload_n 0, 1) := ckS_g gdX11_carried_327 20 rfl
theorem dX11_carried_360 : decode cX11_carried 360 = .ok (.getfield 25, 3) := ckS_g gdX11_carried_327 21 rfl
theorem dX11_carried_363 : decode cX11_carried 363 = .ok (.iload_n 3, 1) := ckS_g gdX11_carried_327 22 rfl
theorem dX11_carried_364 : decode cX11_carried 364 = .ok (.iconst (-1), 1) := ckS_g gdX11_carried_327 23 rfl
theorem dX11_carried_365 : decode cX11_carried 365 = .ok (.iastore, 1) := ckS_g gdX11_carried_327 24 rfl
theorem dX11_carried_366 : decode cX11_carried 366 = .ok (.aload_n 0, 1) := ckS_g gdX11_carried_327 25 rfl
theorem dX11_carried_367 : decode cX11_carried 367 = .ok (.getfield 28, 3) := ckS_g gdX11_carried_327 26 rfl
theorem dX11_carried_370 : decode cX11_carried 370 = .ok (.iload_n 3, 1) := ckS_g gdX11_carried_327 27 rfl
theorem dX11_carried_371 : decode cX11_carried 371 = .ok (.iconst (-1), 1) := ckS_g gdX11_carried_327 28 rfl
theorem dX11_carried_372 : decode cX11_carried 372 = .ok (.iastore, 1) := ckS_g gdX11_carried_327 29 rfl
theorem dX11_carried_373 : decode cX11_carried 373 = .ok (.return_, 1) := ckS_g gdX11_carried_327 30 rfl
set_option maxRecDepth 100000 in
theorem z151 : wZ (.selects RX11 yX11_change yX11_change) := ⟨List.mem_append_left _ (List.mem_of_getElem? (i := 25) (by decide +kernel)), Or.inl rfl⟩
set_option maxRecDepth 100000 in
theorem z152 : wZ (.instanceMethod yX11_change) := ⟨wT6 (List.mem_of_getElem? (i := 107) (by decide +kernel)), Or.inl rfl⟩
set_option maxRecDepth 100000 in
theorem z153 : wZ (.methodLink RX11 240 yX11_change) := ⟨wT6 (List.mem_of_getElem? (i := 105) (by decide +kernel)), Or.inl rfl⟩
set_option maxRecDepth 100000 in
theorem z154 : wZ (.fieldLink RX11 87 "MotionFloorModel$Hall" "last" "[I") := ⟨wT5 (List.mem_of_getElem? (i := 104) (by decide +kernel)), Or.inl rfl⟩
set_option maxRecDepth 100000 in
theorem z155 : wZ (.selects RX11 yX11_goes yX11_goes) := ⟨List.mem_append_left _ (List.mem_of_getElem? (i := 21) (by decide +kernel)), Or.inl rfl⟩
set_option maxRecDepth 100000 in
theorem z156 : wZ (.instanceMethod yX11_goes) := ⟨wT6 (List.mem_of_getElem? (i := 91) (by decide +kernel)), Or.inl rfl⟩
set_option maxRecDepth 100000 in
theorem z157 : wZ (.methodLink RX11 227 yX11_goes) := ⟨wT6 (List.mem_of_getElem? (i := 89) (by decide +kernel)), Or.inl rfl⟩
set_option maxRecDepth 100000 in
theorem z158 : wZ (.fieldLink RX11 133 "MotionFloorModel$Hall" "lastWords" "I") := ⟨wT5 (List.mem_of_getElem? (i := 105) (by decide +kernel)), Or.inl rfl⟩
set_option maxRecDepth 100000 in
theorem z159 : wZ (.fieldLink RX11 124 "MotionFloorModel$Hall" "adopted" "I") := ⟨wT5 (List.mem_of_getElem? (i := 52) (by decide +kernel)), Or.inl rfl⟩
set_option maxRecDepth 100000 in
theorem z160 : wZ (.code yX11_carried cX11_carried 5 none) := ⟨wT6 (List.mem_of_getElem? (i := 104) rfl), Or.inl rfl⟩
def b_X11_carried_373 (S : HS) (x1 x2 : Int32) : Int32 × HS := (0, S)
def q_X11_carried_373 (S : HS) (x1 x2 : Int32) : Prop := True
def b_X11_carried_a108 (S : HS) (x1 x2 x3 : Int32) : Int32 × HS := (b_X11_carried_373 S x1 x2)
def q_X11_carried_a108 (S : HS) (x1 x2 x3 : Int32) : Prop := (q_X11_carried_373 S x1 x2)
def st_X11_carried_70 (S : HS) (x1 x2 x3 : Int32) : (Int32 × HS) ⊕ (HS × Int32 × Int32 × Int32) := if (S.2 19 x1.toNatClampNeg) ≤ x3 then Sum.inl ((b_X11_carried_a108 (f_X11_goes S ).2 x1 x2 x3)) else Sum.inr ((sA S 38 x3.toNatClampNeg (S.2 28 ((400 * x1) + x3).toNatClampNeg)), x1, x2, (x3 + 1))
def ps_X11_carried_70 (S : HS) (x1 x2 x3 : Int32) : Prop := (vp_in x1 90) ∧ (if (S.2 19 x1.toNatClampNeg) ≤ x3 then (p_X11_goes S ) ∧ (q_X11_carried_a108 (f_X11_goes S ).2 x1 x2 x3) else (vp_in ((400 * x1) + x3) 36000) ∧ (vp_in x3 400) ∧ True)
def lp_X11_carried_70 : Nat → HS → Int32 → Int32 → Int32 → Int32 × HS
  | 0, S, _, _, _ => (0, S)
  | n + 1, S, x1, x2, x3 => match st_X11_carried_70 S x1 x2 x3 with
    | Sum.inl r => r
    | Sum.inr q => lp_X11_carried_70 n q.1 q.2.1 q.2.2.1 q.2.2.2
def lq_X11_carried_70 : Nat → HS → Int32 → Int32 → Int32 → Prop
  | 0, _, _, _, _ => False
  | n + 1, S, x1, x2, x3 => ps_X11_carried_70 S x1 x2 x3 ∧ (match st_X11_carried_70 S x1 x2 x3 with
    | Sum.inl _ => True
    | Sum.inr q => lq_X11_carried_70 n q.1 q.2.1 q.2.2.1 q.2.2.2)
def b_X11_carried_a131 (S : HS) (x1 x2 : Int32) : Int32 × HS := (b_X11_carried_373 S x1 x2)
def q_X11_carried_a131 (S : HS) (x1 x2 : Int32) : Prop := (q_X11_carried_373 S x1 x2)
def b_X11_carried_a127 (S : HS) (x1 x2 : Int32) : Int32 × HS := (b_X11_carried_a131 (f_X11_goes S ).2 x1 x2)
def q_X11_carried_a127 (S : HS) (x1 x2 : Int32) : Prop := (p_X11_goes S ) ∧ (q_X11_carried_a131 (f_X11_goes S ).2 x1 x2)
def b_X11_carried_111 (S : HS) (x1 x2 : Int32) : Int32 × HS := (b_X11_carried_a127 (f_X11_change S (S.2 31 ((S.1 6) - 2).toNatClampNeg) x1).2 x1 x2)
def q_X11_carried_111 (S : HS) (x1 x2 : Int32) : Prop := (vp_in ((S.1 6) - 2) 9) ∧ (p_X11_change S (S.2 31 ((S.1 6) - 2).toNatClampNeg) x1) ∧ (q_X11_carried_a127 (f_X11_change S (S.2 31 ((S.1 6) - 2).toNatClampNeg) x1).2 x1 x2)
def b_X11_carried_a146 (S : HS) (x1 x2 y0 : Int32) : Int32 × HS := (b_X11_carried_373 (sA S 24 y0.toNatClampNeg (vp_nar .boolean 1)) x1 x2)
def q_X11_carried_a146 (S : HS) (x1 x2 y0 : Int32) : Prop := (vp_in y0 90) ∧ (q_X11_carried_373 (sA S 24 y0.toNatClampNeg (vp_nar .boolean 1)) x1 x2)
def b_X11_carried_a138 (S : HS) (x1 x2 : Int32) : Int32 × HS := (b_X11_carried_a146 (f_X11_top S ).2 x1 x2 (f_X11_top S ).1)
def q_X11_carried_a138 (S : HS) (x1 x2 : Int32) : Prop := (p_X11_top S ) ∧ (q_X11_carried_a146 (f_X11_top S ).2 x1 x2 (f_X11_top S ).1)
def st_X11_carried_198 (S : HS) (x1 x2 x3 x4 : Int32) : (Int32 × HS) ⊕ (HS × Int32 × Int32 × Int32 × Int32) := if (S.1 6) ≤ x4 then Sum.inl ((b_X11_carried_373 (sI (sA (sA S 34 x3.toNatClampNeg (S.1 6)) 37 x3.toNatClampNeg (vp_nar .boolean 1)) 6 0) x1 x2)) else Sum.inr ((sA S 33 ((9 * x3) + x4).toNatClampNeg (S.2 31 x4.toNatClampNeg)), x1, x2, x3, (x4 + 1))
def ps_X11_carried_198 (S : HS) (x1 x2 x3 x4 : Int32) : Prop := (if (S.1 6) ≤ x4 then (vp_in x3 8) ∧ (vp_in x3 8) ∧ (q_X11_carried_373 (sI (sA (sA S 34 x3.toNatClampNeg (S.1 6)) 37 x3.toNatClampNeg (vp_nar .boolean 1)) 6 0) x1 x2) else (vp_in x4 9) ∧ (vp_in ((9 * x3) + x4) 72) ∧ True)
def lp_X11_carried_198 : Nat → HS → Int32 → Int32 → Int32 → Int32 → Int32 × HS
  | 0, S, _, _, _, _ => (0, S)
  | n + 1, S, x1, x2, x3, x4 => match st_X11_carried_198 S x1 x2 x3 x4 with
    | Sum.inl r => r
    | Sum.inr q => lp_X11_carried_198 n q.1 q.2.1 q.2.2.1 q.2.2.2.1 q.2.2.2.2
def lq_X11_carried_198 : Nat → HS → Int32 → Int32 → Int32 → Int32 → Prop
  | 0, _, _, _, _, _ => False
  | n + 1, S, x1, x2, x3, x4 => ps_X11_carried_198 S x1 x2 x3 x4 ∧ (match st_X11_carried_198 S x1 x2 x3 x4 with
    | Sum.inl _ => True
    | Sum.inr q => lq_X11_carried_198 n q.1 q.2.1 q.2.2.1 q.2.2.2.1 q.2.2.2.2)
def b_X11_carried_a194 (S : HS) (x1 x2 y0 : Int32) : Int32 × HS := (lp_X11_carried_198 100000 S x1 x2 y0 0)
def q_X11_carried_a194 (S : HS) (x1 x2 y0 : Int32) : Prop := (lq_X11_carried_198 100000 S x1 x2 y0 0)
def b_X11_carried_a190 (S : HS) (x1 x2 : Int32) : Int32 × HS := (b_X11_carried_a194 (f_X11_free S ).2 x1 x2 (f_X11_free S ).1)
def q_X11_carried_a190 (S : HS) (x1 x2 : Int32) : Prop := (p_X11_free S ) ∧ (q_X11_carried_a194 (f_X11_free S ).2 x1 x2 (f_X11_free S ).1)
def st_X11_carried_157 (S : HS) (x1 x2 x3 : Int32) : (Int32 × HS) ⊕ (HS × Int32 × Int32 × Int32) := if (S.1 0) ≤ x3 then Sum.inl ((b_X11_carried_373 (sI S 1 0) x1 x2)) else Sum.inr ((sA S 11 x3.toNatClampNeg (vp_nar .boolean 0)), x1, x2, (x3 + 1))
def ps_X11_carried_157 (S : HS) (x1 x2 x3 : Int32) : Prop := (if (S.1 0) ≤ x3 then (q_X11_carried_373 (sI S 1 0) x1 x2) else (vp_in x3 200) ∧ True)
def lp_X11_carried_157 : Nat → HS → Int32 → Int32 → Int32 → Int32 × HS
  | 0, S, _, _, _ => (0, S)
  | n + 1, S, x1, x2, x3 => match st_X11_carried_157 S x1 x2 x3 with
    | Sum.inl r => r
    | Sum.inr q => lp_X11_carried_157 n q.1 q.2.1 q.2.2.1 q.2.2.2
def lq_X11_carried_157 : Nat → HS → Int32 → Int32 → Int32 → Prop
  | 0, _, _, _, _ => False
  | n + 1, S, x1, x2, x3 => ps_X11_carried_157 S x1 x2 x3 ∧ (match st_X11_carried_157 S x1 x2 x3 with
    | Sum.inl _ => True
    | Sum.inr q => lq_X11_carried_157 n q.1 q.2.1 q.2.2.1 q.2.2.2)
def b_X11_carried_a155 (S : HS) (x1 x2 : Int32) : Int32 × HS := (lp_X11_carried_157 100000 S x1 x2 0)
def q_X11_carried_a155 (S : HS) (x1 x2 : Int32) : Prop := (lq_X11_carried_157 100000 S x1 x2 0)
def b_X11_carried_353 (S : HS) (x1 x2 x3 x4 y0 y1 : Int32) : Int32 × HS := if x2 = 4 then (b_X11_carried_373 (sA (sA (sA S 27 y1.toNatClampNeg (vp_nar .boolean y0)) 15 x3.toNatClampNeg (-1)) 16 x3.toNatClampNeg (-1)) x1 x2) else (b_X11_carried_373 (sA S 27 y1.toNatClampNeg (vp_nar .boolean y0)) x1 x2)
def q_X11_carried_353 (S : HS) (x1 x2 x3 x4 y0 y1 : Int32) : Prop := (vp_in y1 90) ∧ (if x2 = 4 then (vp_in x3 90) ∧ (vp_in x3 90) ∧ (q_X11_carried_373 (sA (sA (sA S 27 y1.toNatClampNeg (vp_nar .boolean y0)) 15 x3.toNatClampNeg (-1)) 16 x3.toNatClampNeg (-1)) x1 x2) else (q_X11_carried_373 (sA S 27 y1.toNatClampNeg (vp_nar .boolean y0)) x1 x2))
def b_X11_carried_337 (S : HS) (x1 x2 x3 x4 y0 y1 : Int32) : Int32 × HS := if x2 = 4 then (b_X11_carried_353 (sA S 25 y1.toNatClampNeg (vp_nar .boolean y0)) x1 x2 x3 x4 1 x3) else (b_X11_carried_353 (sA S 25 y1.toNatClampNeg (vp_nar .boolean y0)) x1 x2 x3 x4 0 x3)
def q_X11_carried_337 (S : HS) (x1 x2 x3 x4 y0 y1 : Int32) : Prop := (vp_in y1 90) ∧ (if x2 = 4 then (q_X11_carried_353 (sA S 25 y1.toNatClampNeg (vp_nar .boolean y0)) x1 x2 x3 x4 1 x3) else (q_X11_carried_353 (sA S 25 y1.toNatClampNeg (vp_nar .boolean y0)) x1 x2 x3 x4 0 x3))
def b_X11_carried_a322 (S : HS) (x1 x2 x3 x4 : Int32) : Int32 × HS := if x2 = 5 then (b_X11_carried_337 S x1 x2 x3 x4 1 x3) else (b_X11_carried_337 S x1 x2 x3 x4 0 x3)
def q_X11_carried_a322 (S : HS) (x1 x2 x3 x4 : Int32) : Prop := (if x2 = 5 then (q_X11_carried_337 S x1 x2 x3 x4 1 x3) else (q_X11_carried_337 S x1 x2 x3 x4 0 x3))
def b_X11_carried_a283 (S : HS) (x1 x2 x3 y0 : Int32) : Int32 × HS := (b_X11_carried_a322 (f_X11_anew (sI (sA (sA (sA S 33 (9 * y0).toNatClampNeg x3) 34 y0.toNatClampNeg 1) 37 y0.toNatClampNeg (vp_nar .boolean 0)) 6 0) x3).2 x1 x2 x3 y0)
def q_X11_carried_a283 (S : HS) (x1 x2 x3 y0 : Int32) : Prop := (vp_in (9 * y0) 72) ∧ (vp_in y0 8) ∧ (vp_in y0 8) ∧ (p_X11_anew (sI (sA (sA (sA S 33 (9 * y0).toNatClampNeg x3) 34 y0.toNatClampNeg 1) 37 y0.toNatClampNeg (vp_nar .boolean 0)) 6 0) x3) ∧ (q_X11_carried_a322 (f_X11_anew (sI (sA (sA (sA S 33 (9 * y0).toNatClampNeg x3) 34 y0.toNatClampNeg 1) 37 y0.toNatClampNeg (vp_nar .boolean 0)) 6 0) x3).2 x1 x2 x3 y0)
def b_X11_carried_a269 (S : HS) (x1 x2 : Int32) : (Int32 × HS) ⊕ (HS × Int32 × Int32) := Sum.inr (S, x1, x2)
def q_X11_carried_a269 (S : HS) (x1 x2 : Int32) : Prop := True
def st_X11_carried_257 (S : HS) (x1 x2 : Int32) : (Int32 × HS) ⊕ (HS × Int32 × Int32) := if (S.1 6) ≤ 1 then Sum.inl ((b_X11_carried_a283 (f_X11_free S ).2 x1 x2 (S.2 31 (0 : Int32).toNatClampNeg) (f_X11_free S ).1)) else (b_X11_carried_a269 (f_X11_goes S ).2 x1 x2)
def ps_X11_carried_257 (S : HS) (x1 x2 : Int32) : Prop := (if (S.1 6) ≤ 1 then (vp_in 0 9) ∧ (p_X11_free S ) ∧ (q_X11_carried_a283 (f_X11_free S ).2 x1 x2 (S.2 31 (0 : Int32).toNatClampNeg) (f_X11_free S ).1) else (p_X11_goes S ) ∧ (q_X11_carried_a269 (f_X11_goes S ).2 x1 x2))
def lp_X11_carried_257 : Nat → HS → Int32 → Int32 → Int32 × HS
  | 0, S, _, _ => (0, S)
  | n + 1, S, x1, x2 => match st_X11_carried_257 S x1 x2 with
    | Sum.inl r => r
    | Sum.inr q => lp_X11_carried_257 n q.1 q.2.1 q.2.2
def lq_X11_carried_257 : Nat → HS → Int32 → Int32 → Prop
  | 0, _, _, _ => False
  | n + 1, S, x1, x2 => ps_X11_carried_257 S x1 x2 ∧ (match st_X11_carried_257 S x1 x2 with
    | Sum.inl _ => True
    | Sum.inr q => lq_X11_carried_257 n q.1 q.2.1 q.2.2)
def f_X11_carried (S : HS) (x1 x2 : Int32) : Int32 × HS := if x2 = 1 then (lp_X11_carried_70 100000 (sI (sI S 9 ((S.1 9) + 1)) 39 ((sI S 9 ((S.1 9) + 1)).2 19 x1.toNatClampNeg)) x1 x2 0) else if x2 = 2 then (b_X11_carried_111 S x1 x2) else if x2 = 3 then (b_X11_carried_111 S x1 x2) else if x2 = 6 then (b_X11_carried_a138 (f_X11_goes S ).2 x1 x2) else if x2 = 7 then (b_X11_carried_a190 (f_X11_goes S ).2 x1 x2) else if x2 = 8 then (b_X11_carried_a155 (f_X11_goes S ).2 x1 x2) else (lp_X11_carried_257 100000 S x1 x2)
def p_X11_carried (S : HS) (x1 x2 : Int32) : Prop := (if x2 = 1 then (vp_in x1 90) ∧ (lq_X11_carried_70 100000 (sI (sI S 9 ((S.1 9) + 1)) 39 ((sI S 9 ((S.1 9) + 1)).2 19 x1.toNatClampNeg)) x1 x2 0) else (if x2 = 2 then (q_X11_carried_111 S x1 x2) else (if x2 = 3 then (q_X11_carried_111 S x1 x2) else (if x2 = 6 then (p_X11_goes S ) ∧ (q_X11_carried_a138 (f_X11_goes S ).2 x1 x2) else (if x2 = 7 then (p_X11_goes S ) ∧ (q_X11_carried_a190 (f_X11_goes S ).2 x1 x2) else (if x2 = 8 then (p_X11_goes S ) ∧ (q_X11_carried_a155 (f_X11_goes S ).2 x1 x2) else (lq_X11_carried_257 100000 S x1 x2)))))))
def e_X11_carried : List Cond := [.fieldLink RX11 124 "MotionFloorModel$Hall" "adopted" "I", .fieldLink RX11 37 "MotionFloorModel$Hall" "words" "[I", .fieldLink RX11 133 "MotionFloorModel$Hall" "lastWords" "I", .methodLink RX11 227 yX11_goes, .instanceMethod yX11_goes, .selects RX11 yX11_goes yX11_goes, .initialized RX11, .fieldLink RX11 87 "MotionFloorModel$Hall" "last" "[I", .fieldLink RX11 65 "MotionFloorModel$Hall" "text" "[I", .fieldLink RX11 72 "MotionFloorModel$Hall" "row" "[I", .fieldLink RX11 115 "MotionFloorModel$Hall" "pending" "I", .methodLink RX11 240 yX11_change, .instanceMethod yX11_change, .selects RX11 yX11_change yX11_change, .fieldLink RX11 52 "MotionFloorModel$Hall" "closed" "[Z", .methodLink RX11 155 yX11_top, .instanceMethod yX11_top, .selects RX11 yX11_top yX11_top, .methodLink RX11 193 yX11_free, .instanceMethod yX11_free, .selects RX11 yX11_free yX11_free, .fieldLink RX11 81 "MotionFloorModel$Hall" "lying" "[I", .fieldLink RX11 84 "MotionFloorModel$Hall" "tabled" "[Z", .fieldLink RX11 78 "MotionFloorModel$Hall" "desk" "[I", .fieldLink RX11 96 "MotionFloorModel$Hall" "seats" "I", .fieldLink RX11 100 "MotionFloorModel$Hall" "there" "I", .fieldLink RX11 9 "MotionFloorModel$Hall" "isThere" "[Z", .methodLink RX11 144 yX11_anew, .instanceMethod yX11_anew, .selects RX11 yX11_anew yX11_anew, .fieldLink RX11 55 "MotionFloorModel$Hall" "laid" "[Z", .fieldLink RX11 61 "MotionFloorModel$Hall" "letter" "[Z", .fieldLink RX11 25 "MotionFloorModel$Hall" "mover" "[I", .fieldLink RX11 28 "MotionFloorModel$Hall" "seconder" "[I"]
def v_X11_carried : List Cond := .code yX11_carried cX11_carried 5 none :: (e_X11_carried ++ (wsX110 ++ (v_X11_goes ++ (v_X11_change ++ (v_X11_top ++ (v_X11_free ++ (v_X11_anew ++ [])))))))
theorem te_X11_carried : GoodIn lw_tbl e_X11_carried := wGc z159 (wGc z76 (wGc z158 (wGc z157 (wGc z156 (wGc z155 (wGc z51 (wGc z154 (wGc z137 (wGc z57 (wGc z56 (wGc z153 (wGc z152 (wGc z151 (wGc z60 (wGc z91 (wGc z90 (wGc z89 (wGc z115 (wGc z114 (wGc z113 (wGc z81 (wGc z141 (wGc z140 (wGc z48 (wGc z117 (wGc z50 (wGc z69 (wGc z68 (wGc z67 (wGc z72 (wGc z70 (wGc z77 (wGc z66 (wG0))))))))))))))))))))))))))))))))))
theorem t_X11_carried : GoodIn lw_tbl v_X11_carried := wGc z160 (wGa te_X11_carried (wGa zcX11 (wGa t_X11_goes (wGa t_X11_change (wGa t_X11_top (wGa t_X11_free (wGa t_X11_anew (wG0))))))))
set_option maxHeartbeats 4000000 in
set_option maxRecDepth 100000 in
theorem c_X11_carried (l : Launch) (G : va_G) (K : Nat → ClassId) (h : Nat) (g : Nat → Nat) (S0 : HS) (a1 a2 : Int32) (sz : Nat) : Met l yX11_carried v_X11_carried ({ frames := 2, cells := 0, slots := 0, locals := 51 }) (va_Pc [.ref h, .int a1, .int a2] (hS G K h g sz S0 (p_X11_carried S0 a1 a2))) (va_Qv (fun u : HS => (0, u) = f_X11_carried S0 a1 a2) (hB G K h g (va_A (hW K h g S0) sz)) (va_A (hW K h g S0) sz)) 0 0 (va_A (hW K h g S0) sz) := by
  refine Met.ofW (cc := cX11_carried) (maxL := 5) (ret := none) (by decide) rfl ?_
  intro p e s m args below meth c s₁ B hml hv
  obtain ⟨rfl, ⟨hsz, hP, hK, hD0, hTE⟩, hp⟩ := hv
  have hx := B.exec
  have hb := B.bytes
  have hr := B.returns
  have hts := atoms_spec (ws := v_X11_carried) B.pre
  have t_ := t_X11_carried
  have mw : ∀ w ∈ e_X11_carried, w ∈ v_X11_carried := fun w h => List.mem_cons_of_mem _ (List.mem_append_left _ h)
  have hw := fun w (h : w ∈ e_X11_carried) => hts w (mw w h)
  have iX11 : ∀ w ∈ wsX110, w ∈ v_X11_carried := fun w h => List.mem_cons_of_mem _ (List.mem_append_right _ (List.mem_append_left _ h))
  have j_X11_goes : ∀ w ∈ v_X11_goes, w ∈ v_X11_carried := fun w h => List.mem_cons_of_mem _ (List.mem_append_right _ (List.mem_append_right _ (List.mem_append_left _ h)))
  have j_X11_change : ∀ w ∈ v_X11_change, w ∈ v_X11_carried := fun w h => List.mem_cons_of_mem _ (List.mem_append_right _ (List.mem_append_right _ (List.mem_append_right _ (List.mem_append_left _ h))))
  have j_X11_top : ∀ w ∈ v_X11_top, w ∈ v_X11_carried := fun w h => List.mem_cons_of_mem _ (List.mem_append_right _ (List.mem_append_right _ (List.mem_append_right _ (List.mem_append_right _ (List.mem_append_left _ h)))))
  have j_X11_free : ∀ w ∈ v_X11_free, w ∈ v_X11_carried := fun w h => List.mem_cons_of_mem _ (List.mem_append_right _ (List.mem_append_right _ (List.mem_append_right _ (List.mem_append_right _ (List.mem_append_right _ (List.mem_append_left _ h))))))
  have j_X11_anew : ∀ w ∈ v_X11_anew, w ∈ v_X11_carried := fun w h => List.mem_cons_of_mem _ (List.mem_append_right _ (List.mem_append_right _ (List.mem_append_right _ (List.mem_append_right _ (List.mem_append_right _ (List.mem_append_right _ (List.mem_append_left _ h)))))))
  have hown : s.vm.findClass RX11 = some m.cls := findClass_of_methodNamed B.named
  have hlocks := B.notSynchronized
  subst hsz
  have hD := hD0.self (sz := s.heap.size)
  generalize hAe : va_A (hW K h g S0) s.heap.size = A at hD ⊢
  have hA : ∀ q : Nat, s.heap.size ≤ q → A q := fun q h => by rw [← hAe]; exact Or.inr h
  have hS : va_S A s.heap s.heap [] := va_S.rf
  have hl := lv_entry ([.ref h, .int a1, .int a2]) (n := 5) (Nat.le_of_ble_eq_true rfl)
  rw [lg_entry_eq]
  generalize (lg_sl ([.ref h, .int a1, .int a2]) ++ List.replicate (5 - (lg_sl ([.ref h, .int a1, .int a2])).length) Slot.unset).toArray = ls at hl ⊢
  have hl : lv_has ls 5 [(0, .ref h), (1, .int a1), (2, .int a2)] := hl
  refine wGen (fun Q hQ => ?_)
  obtain ⟨X, hX⟩ : ∃ X, f_X11_carried S0 a1 a2 = X := ⟨_, rfl⟩
  have B_373 : ∀ (S : HS) (x1 x2 : Int32) (H : Heap) (locs : List Loc) (ls : Array Slot), b_X11_carried_373 S x1 x2 = X → q_X11_carried_373 S x1 x2 → va_P G vwCl (hW K h g S) H → va_D A (hW K h g S) → va_S A s.heap H locs → lv_has ls 5 [(0, .ref h), (1, .int x1), (2, .int x2)] → W p l e ({ frames := 2, cells := 0, slots := 0, locals := 51 } : Room) s m #[Value.ref h, Value.int a1, Value.int a2] below meth c H locs 0 0 Q (F0 m 373 ls []) := by
    intro S x1 x2 H locs ls hE hp hP hD hS hl
    unfold b_X11_carried_373 at hE
    unfold q_X11_carried_373 at hp
    subst hQ
    exact W.vret hx hb hr (fun t ht hW => ⟨⟨S, rfl, hE.trans hX.symm, by rw [ht]; exact hP, hD⟩, hS.F ht⟩) hS.2.2 dX11_carried_373
  have L_70 : ∀ (n : Nat) (S : HS) (x1 x2 x3 : Int32) (H : Heap) (locs : List Loc) (ls : Array Slot), lp_X11_carried_70 n S x1 x2 x3 = X → lq_X11_carried_70 n S x1 x2 x3 → va_P G vwCl (hW K h g S) H → va_D A (hW K h g S) → va_S A s.heap H locs → lv_has ls 5 [(0, .ref h), (1, .int x1), (2, .int x2), (3, .int x3)] → W p l e ({ frames := 2, cells := 0, slots := 0, locals := 51 } : Room) s m #[Value.ref h, Value.int a1, Value.int a2] below meth c H locs 0 0 Q (F0 m 70 ls []) := by
    intro n1
    induction n1 with
    | zero => intro S x1 x2 x3 H locs ls hE hp; exact False.elim hp
    | succ n1 ih1 =>
      intro S x1 x2 x3 H locs ls hO1 hp hP hD hS hl
      rw [lp_X11_carried_70] at hO1
      rw [lq_X11_carried_70] at hp
      obtain ⟨hp, hq1⟩ := hp
      generalize hE : st_X11_carried_70 S x1 x2 x3 = Y1 at hO1 hq1
      unfold st_X11_carried_70 at hE
      unfold ps_X11_carried_70 at hp
      refine lv_iload_n hx hb dX11_carried_70 rfl (lv_at hl 3 rfl) ?_
      refine lv_aload_n hx hb dX11_carried_71 rfl (lv_at hl 0 rfl) ?_
      refine va_get (D := G) (ci := 8) (v := .ref (g 19)) (C := RX11) (T := TX11) (N := 42) hx hb hts iX11 hown hK hP 0 rfl rfl 19 (by decide) (hw (.fieldLink RX11 37 "MotionFloorModel$Hall" "words" "[I") (List.mem_of_getElem? (i := 1) rfl)) (fun _ h9 => h9) rfl dX11_carried_72 ?_
      refine lv_iload_n hx hb dX11_carried_75 rfl (lv_at hl 1 rfl) ?_
      obtain ⟨hy2, hp⟩ := hp
      refine va_iald hx hb hK hP 9 0 rfl rfl hy2 dX11_carried_76 ?_
      refine lv_icmp_ge (tgt := 104) hx hb dX11_carried_77 (by decide) (fun c3 => ?_) (fun c3 => ?_)
      · rw [if_pos c3] at hE hp
        subst hE
        have hE := hO1
        dsimp only at hE
        refine lv_aload_n hx hb dX11_carried_104 rfl (lv_at hl 0 rfl) ?_
        obtain ⟨hy4, hp⟩ := hp
        refine hGov (va_runV (As := []) (rest := []) ⟨hx, hb, hml, hown, hts⟩ (c_X11_goes l G K h g S _) (cwV 0 hts (wGV t_ (mw (.methodLink RX11 227 yX11_goes) (List.mem_of_getElem? (i := 3) rfl)) (mw (.instanceMethod yX11_goes) (List.mem_of_getElem? (i := 4) rfl)) (mw (.selects RX11 yX11_goes yX11_goes) (List.mem_of_getElem? (i := 5) rfl)) (mw (.initialized RX11) (List.mem_of_getElem? (i := 6) rfl)) j_X11_goes) rfl rfl rfl (by decide +kernel) ⟨Nat.le_of_ble_eq_true rfl, Nat.le_of_ble_eq_true rfl⟩) (hPV hK hTE hP hD hy4) rfl rfl hl.1 rfl (lv_room (Nat.le_of_ble_eq_true rfl)) dX11_carried_105 ⟨Nat.le_of_ble_eq_true rfl, Nat.le_of_ble_eq_true rfl⟩) hP hD hS hA (fun u5 H locs hv hP hD hS => ?_)
        rw [← hv] at hE hp
        dsimp only at hE hp
        unfold b_X11_carried_a108 at hE
        unfold q_X11_carried_a108 at hp
        refine lv_goto (tgt := 373) hx hb dX11_carried_108 (by decide) ?_
        exact B_373 u5 x1 x2 _ _ _ hE hp hP hD hS (lv_sub hl [0, 1, 2] rfl)
      · rw [if_neg c3] at hE hp
        refine lv_aload_n hx hb dX11_carried_80 rfl (lv_at hl 0 rfl) ?_
        refine va_get (D := G) (ci := 8) (v := .ref (g 38)) (C := RX11) (T := TX11) (N := 42) hx hb hts iX11 hown hK hP 0 rfl rfl 38 (by decide) (hw (.fieldLink RX11 87 "MotionFloorModel$Hall" "last" "[I") (List.mem_of_getElem? (i := 7) rfl)) (fun _ h9 => h9) rfl dX11_carried_81 ?_
        refine lv_iload_n hx hb dX11_carried_84 rfl (lv_at hl 3 rfl) ?_
        refine lv_aload_n hx hb dX11_carried_85 rfl (lv_at hl 0 rfl) ?_
        refine va_get (D := G) (ci := 8) (v := .ref (g 28)) (C := RX11) (T := TX11) (N := 42) hx hb hts iX11 hown hK hP 0 rfl rfl 28 (by decide) (hw (.fieldLink RX11 65 "MotionFloorModel$Hall" "text" "[I") (List.mem_of_getElem? (i := 8) rfl)) (fun _ h9 => h9) rfl dX11_carried_86 ?_
        refine lv_sipush (v := 400) hx hb dX11_carried_89 (by decide) ?_
        refine lv_iload_n hx hb dX11_carried_92 rfl (lv_at hl 1 rfl) ?_
        refine lv_imul hx hb dX11_carried_93 ?_
        refine lv_iload_n hx hb dX11_carried_94 rfl (lv_at hl 3 rfl) ?_
        refine lv_iadd hx hb dX11_carried_95 ?_
        obtain ⟨hy7, hp⟩ := hp
        refine va_iald hx hb hK hP 18 0 rfl rfl hy7 dX11_carried_96 ?_
        obtain ⟨hy8, hp⟩ := hp
        refine va_iast hx hb hK hP hD hS 25 0 rfl rfl hy8 dX11_carried_97 (fun H locs hP hD hS => ?_)
        rw [sA_38] at hP hD
        refine lv_iinc (v := (x3 + 1)) (lv' := [(3, .int (x3 + 1)), (0, .ref h), (1, .int x1), (2, .int x2)]) hx hb dX11_carried_98 hl (k := 3) rfl rfl (by decide) rfl (fun ls hl => ?_)
        refine lv_goto (tgt := 70) hx hb dX11_carried_101 (by decide) ?_
        subst hE
        dsimp only at hO1 hq1
        exact ih1 (sA S 38 x3.toNatClampNeg (S.2 28 ((400 * x1) + x3).toNatClampNeg)) x1 x2 (x3 + 1) _ _ _ hO1 hq1 hP hD hS (lv_sub hl [1, 2, 3, 0] rfl)
  have B_111 : ∀ (S : HS) (x1 x2 : Int32) (H : Heap) (locs : List Loc) (ls : Array Slot), b_X11_carried_111 S x1 x2 = X → q_X11_carried_111 S x1 x2 → va_P G vwCl (hW K h g S) H → va_D A (hW K h g S) → va_S A s.heap H locs → lv_has ls 5 [(0, .ref h), (1, .int x1), (2, .int x2)] → W p l e ({ frames := 2, cells := 0, slots := 0, locals := 51 } : Room) s m #[Value.ref h, Value.int a1, Value.int a2] below meth c H locs 0 0 Q (F0 m 111 ls []) := by
    intro S x1 x2 H locs ls hE hp hP hD hS hl
    unfold b_X11_carried_111 at hE
    unfold q_X11_carried_111 at hp
    refine lv_aload_n hx hb dX11_carried_111 rfl (lv_at hl 0 rfl) ?_
    refine lv_aload_n hx hb dX11_carried_112 rfl (lv_at hl 0 rfl) ?_
    refine va_get (D := G) (ci := 8) (v := .ref (g 31)) (C := RX11) (T := TX11) (N := 42) hx hb hts iX11 hown hK hP 0 rfl rfl 31 (by decide) (hw (.fieldLink RX11 72 "MotionFloorModel$Hall" "row" "[I") (List.mem_of_getElem? (i := 9) rfl)) (fun _ h9 => h9) rfl dX11_carried_113 ?_
    refine lv_aload_n hx hb dX11_carried_116 rfl (lv_at hl 0 rfl) ?_
    refine va_get (D := G) (ci := 8) (v := .int (S.1 6)) (C := RX11) (T := TX11) (N := 42) hx hb hts iX11 hown hK hP 0 rfl rfl 6 (by decide) (hw (.fieldLink RX11 115 "MotionFloorModel$Hall" "pending" "I") (List.mem_of_getElem? (i := 10) rfl)) (fun _ h9 => h9) rfl dX11_carried_117 ?_
    refine lv_iconst (v := 2) hx hb dX11_carried_120 (by decide) ?_
    refine lv_isub hx hb dX11_carried_121 ?_
    obtain ⟨hy9, hp⟩ := hp
    refine va_iald hx hb hK hP 20 0 rfl rfl hy9 dX11_carried_122 ?_
    refine lv_iload_n hx hb dX11_carried_123 rfl (lv_at hl 1 rfl) ?_
    obtain ⟨hy10, hp⟩ := hp
    refine hGov (va_runV (As := [.int (S.2 31 ((S.1 6) - 2).toNatClampNeg), .int x1]) (rest := []) ⟨hx, hb, hml, hown, hts⟩ (c_X11_change l G K h g S (S.2 31 ((S.1 6) - 2).toNatClampNeg) x1 _) (cwV 2 hts (wGV t_ (mw (.methodLink RX11 240 yX11_change) (List.mem_of_getElem? (i := 11) rfl)) (mw (.instanceMethod yX11_change) (List.mem_of_getElem? (i := 12) rfl)) (mw (.selects RX11 yX11_change yX11_change) (List.mem_of_getElem? (i := 13) rfl)) (mw (.initialized RX11) (List.mem_of_getElem? (i := 6) rfl)) j_X11_change) rfl rfl rfl (by decide +kernel) ⟨Nat.le_of_ble_eq_true rfl, Nat.le_of_ble_eq_true rfl⟩) (hPV hK hTE hP hD hy10) rfl rfl hl.1 rfl (lv_room (Nat.le_of_ble_eq_true rfl)) dX11_carried_124 ⟨Nat.le_of_ble_eq_true rfl, Nat.le_of_ble_eq_true rfl⟩) hP hD hS hA (fun u11 H locs hv hP hD hS => ?_)
    rw [← hv] at hE hp
    dsimp only at hE hp
    unfold b_X11_carried_a127 at hE
    unfold q_X11_carried_a127 at hp
    refine lv_aload_n hx hb dX11_carried_127 rfl (lv_at hl 0 rfl) ?_
    obtain ⟨hy13, hp⟩ := hp
    refine hGov (va_runV (As := []) (rest := []) ⟨hx, hb, hml, hown, hts⟩ (c_X11_goes l G K h g u11 _) (cwV 0 hts (wGV t_ (mw (.methodLink RX11 227 yX11_goes) (List.mem_of_getElem? (i := 3) rfl)) (mw (.instanceMethod yX11_goes) (List.mem_of_getElem? (i := 4) rfl)) (mw (.selects RX11 yX11_goes yX11_goes) (List.mem_of_getElem? (i := 5) rfl)) (mw (.initialized RX11) (List.mem_of_getElem? (i := 6) rfl)) j_X11_goes) rfl rfl rfl (by decide +kernel) ⟨Nat.le_of_ble_eq_true rfl, Nat.le_of_ble_eq_true rfl⟩) (hPV hK hTE hP hD hy13) rfl rfl hl.1 rfl (lv_room (Nat.le_of_ble_eq_true rfl)) dX11_carried_128 ⟨Nat.le_of_ble_eq_true rfl, Nat.le_of_ble_eq_true rfl⟩) hP hD hS hA (fun u14 H locs hv hP hD hS => ?_)
    rw [← hv] at hE hp
    dsimp only at hE hp
    unfold b_X11_carried_a131 at hE
    unfold q_X11_carried_a131 at hp
    refine lv_goto (tgt := 373) hx hb dX11_carried_131 (by decide) ?_
    exact B_373 u14 x1 x2 _ _ _ hE hp hP hD hS (lv_sub hl [0, 1, 2] rfl)
  have L_198 : ∀ (n : Nat) (S : HS) (x1 x2 x3 x4 : Int32) (H : Heap) (locs : List Loc) (ls : Array Slot), lp_X11_carried_198 n S x1 x2 x3 x4 = X → lq_X11_carried_198 n S x1 x2 x3 x4 → va_P G vwCl (hW K h g S) H → va_D A (hW K h g S) → va_S A s.heap H locs → lv_has ls 5 [(0, .ref h), (1, .int x1), (2, .int x2), (3, .int x3), (4, .int x4)] → W p l e ({ frames := 2, cells := 0, slots := 0, locals := 51 } : Room) s m #[Value.ref h, Value.int a1, Value.int a2] below meth c H locs 0 0 Q (F0 m 198 ls []) := by
    intro n1
    induction n1 with
    | zero => intro S x1 x2 x3 x4 H locs ls hE hp; exact False.elim hp
    | succ n1 ih1 =>
      intro S x1 x2 x3 x4 H locs ls hO1 hp hP hD hS hl
      rw [lp_X11_carried_198] at hO1
      rw [lq_X11_carried_198] at hp
      obtain ⟨hp, hq1⟩ := hp
      generalize hE : st_X11_carried_198 S x1 x2 x3 x4 = Y1 at hO1 hq1
      unfold st_X11_carried_198 at hE
      unfold ps_X11_carried_198 at hp
      refine lv_iload hx hb dX11_carried_198 (lv_at hl 4 rfl) ?_
      refine lv_aload_n hx hb dX11_carried_200 rfl (lv_at hl 0 rfl) ?_
      refine va_get (D := G) (ci := 8) (v := .int (S.1 6)) (C := RX11) (T := TX11) (N := 42) hx hb hts iX11 hown hK hP 0 rfl rfl 6 (by decide) (hw (.fieldLink RX11 115 "MotionFloorModel$Hall" "pending" "I") (List.mem_of_getElem? (i := 10) rfl)) (fun _ h9 => h9) rfl dX11_carried_201 ?_
      refine lv_icmp_ge (tgt := 232) hx hb dX11_carried_204 (by decide) (fun c37 => ?_) (fun c37 => ?_)
      · rw [if_pos c37] at hE hp
        subst hE
        have hE := hO1
        dsimp only at hE
        refine lv_aload_n hx hb dX11_carried_232 rfl (lv_at hl 0 rfl) ?_
        refine va_get (D := G) (ci := 8) (v := .ref (g 34)) (C := RX11) (T := TX11) (N := 42) hx hb hts iX11 hown hK hP 0 rfl rfl 34 (by decide) (hw (.fieldLink RX11 81 "MotionFloorModel$Hall" "lying" "[I") (List.mem_of_getElem? (i := 21) rfl)) (fun _ h9 => h9) rfl dX11_carried_233 ?_
        refine lv_iload_n hx hb dX11_carried_236 rfl (lv_at hl 3 rfl) ?_
        refine lv_aload_n hx hb dX11_carried_237 rfl (lv_at hl 0 rfl) ?_
        refine va_get (D := G) (ci := 8) (v := .int (S.1 6)) (C := RX11) (T := TX11) (N := 42) hx hb hts iX11 hown hK hP 0 rfl rfl 6 (by decide) (hw (.fieldLink RX11 115 "MotionFloorModel$Hall" "pending" "I") (List.mem_of_getElem? (i := 10) rfl)) (fun _ h9 => h9) rfl dX11_carried_238 ?_
        obtain ⟨hy38, hp⟩ := hp
        refine va_iast hx hb hK hP hD hS 23 0 rfl rfl hy38 dX11_carried_241 (fun H locs hP hD hS => ?_)
        rw [sA_34] at hP hD
        refine lv_aload_n hx hb dX11_carried_242 rfl (lv_at hl 0 rfl) ?_
        refine va_get (D := G) (ci := 8) (v := .ref (g 37)) (C := RX11) (T := TX11) (N := 42) hx hb hts iX11 hown hK hP 0 rfl rfl 37 (by decide) (hw (.fieldLink RX11 84 "MotionFloorModel$Hall" "tabled" "[Z") (List.mem_of_getElem? (i := 22) rfl)) (fun _ h9 => h9) rfl dX11_carried_243 ?_
        refine lv_iload_n hx hb dX11_carried_246 rfl (lv_at hl 3 rfl) ?_
        refine lv_iconst (v := 1) hx hb dX11_carried_247 (by decide) ?_
        obtain ⟨hy39, hp⟩ := hp
        refine va_zast hx hb hK hP hD hS 24 1 rfl rfl hy39 dX11_carried_248 (fun H locs hP hD hS => ?_)
        rw [sA_37] at hP hD
        refine lv_aload_n hx hb dX11_carried_249 rfl (lv_at hl 0 rfl) ?_
        refine lv_iconst (v := 0) hx hb dX11_carried_250 (by decide) ?_
        refine va_put (D := G) (ci := 8) (v := .int 0) (ty := .int) (C := RX11) (T := TX11) (N := 42) hx hb hts iX11 tyX11 tyX11_ok nmX11 hown hK hP hD hS 0 rfl rfl 6 (by decide) (hw (.fieldLink RX11 115 "MotionFloorModel$Hall" "pending" "I") (List.mem_of_getElem? (i := 10) rfl)) (fun _ h9 => h9) rfl (by decide +kernel) rfl rfl (Nat.le_of_ble_eq_true rfl) dX11_carried_251 (fun H locs hP hD hS => ?_)
        rw [sI_6] at hP hD
        refine lv_goto (tgt := 373) hx hb dX11_carried_254 (by decide) ?_
        exact B_373 (sI (sA (sA S 34 x3.toNatClampNeg (S.1 6)) 37 x3.toNatClampNeg (vp_nar .boolean 1)) 6 0) x1 x2 _ _ _ hE hp hP hD hS (lv_sub hl [0, 1, 2] rfl)
      · rw [if_neg c37] at hE hp
        refine lv_aload_n hx hb dX11_carried_207 rfl (lv_at hl 0 rfl) ?_
        refine va_get (D := G) (ci := 8) (v := .ref (g 33)) (C := RX11) (T := TX11) (N := 42) hx hb hts iX11 hown hK hP 0 rfl rfl 33 (by decide) (hw (.fieldLink RX11 78 "MotionFloorModel$Hall" "desk" "[I") (List.mem_of_getElem? (i := 23) rfl)) (fun _ h9 => h9) rfl dX11_carried_208 ?_
        refine lv_bipush (v := 9) hx hb dX11_carried_211 (by decide) ?_
        refine lv_iload_n hx hb dX11_carried_213 rfl (lv_at hl 3 rfl) ?_
        refine lv_imul hx hb dX11_carried_214 ?_
        refine lv_iload hx hb dX11_carried_215 (lv_at hl 4 rfl) ?_
        refine lv_iadd hx hb dX11_carried_217 ?_
        refine lv_aload_n hx hb dX11_carried_218 rfl (lv_at hl 0 rfl) ?_
        refine va_get (D := G) (ci := 8) (v := .ref (g 31)) (C := RX11) (T := TX11) (N := 42) hx hb hts iX11 hown hK hP 0 rfl rfl 31 (by decide) (hw (.fieldLink RX11 72 "MotionFloorModel$Hall" "row" "[I") (List.mem_of_getElem? (i := 9) rfl)) (fun _ h9 => h9) rfl dX11_carried_219 ?_
        refine lv_iload hx hb dX11_carried_222 (lv_at hl 4 rfl) ?_
        obtain ⟨hy40, hp⟩ := hp
        refine va_iald hx hb hK hP 20 0 rfl rfl hy40 dX11_carried_224 ?_
        obtain ⟨hy41, hp⟩ := hp
        refine va_iast hx hb hK hP hD hS 22 0 rfl rfl hy41 dX11_carried_225 (fun H locs hP hD hS => ?_)
        rw [sA_33] at hP hD
        refine lv_iinc (v := (x4 + 1)) (lv' := [(4, .int (x4 + 1)), (0, .ref h), (1, .int x1), (2, .int x2), (3, .int x3)]) hx hb dX11_carried_226 hl (k := 4) rfl rfl (by decide) rfl (fun ls hl => ?_)
        refine lv_goto (tgt := 198) hx hb dX11_carried_229 (by decide) ?_
        subst hE
        dsimp only at hO1 hq1
        exact ih1 (sA S 33 ((9 * x3) + x4).toNatClampNeg (S.2 31 x4.toNatClampNeg)) x1 x2 x3 (x4 + 1) _ _ _ hO1 hq1 hP hD hS (lv_sub hl [1, 2, 3, 4, 0] rfl)
  have L_157 : ∀ (n : Nat) (S : HS) (x1 x2 x3 : Int32) (H : Heap) (locs : List Loc) (ls : Array Slot), lp_X11_carried_157 n S x1 x2 x3 = X → lq_X11_carried_157 n S x1 x2 x3 → va_P G vwCl (hW K h g S) H → va_D A (hW K h g S) → va_S A s.heap H locs → lv_has ls 5 [(0, .ref h), (1, .int x1), (2, .int x2), (3, .int x3)] → W p l e ({ frames := 2, cells := 0, slots := 0, locals := 51 } : Room) s m #[Value.ref h, Value.int a1, Value.int a2] below meth c H locs 0 0 Q (F0 m 157 ls []) := by
    intro n1
    induction n1 with
    | zero => intro S x1 x2 x3 H locs ls hE hp; exact False.elim hp
    | succ n1 ih1 =>
      intro S x1 x2 x3 H locs ls hO1 hp hP hD hS hl
      rw [lp_X11_carried_157] at hO1
      rw [lq_X11_carried_157] at hp
      obtain ⟨hp, hq1⟩ := hp
      generalize hE : st_X11_carried_157 S x1 x2 x3 = Y1 at hO1 hq1
      unfold st_X11_carried_157 at hE
      unfold ps_X11_carried_157 at hp
      refine lv_iload_n hx hb dX11_carried_157 rfl (lv_at hl 3 rfl) ?_
      refine lv_aload_n hx hb dX11_carried_158 rfl (lv_at hl 0 rfl) ?_
      refine va_get (D := G) (ci := 8) (v := .int (S.1 0)) (C := RX11) (T := TX11) (N := 42) hx hb hts iX11 hown hK hP 0 rfl rfl 0 (by decide) (hw (.fieldLink RX11 96 "MotionFloorModel$Hall" "seats" "I") (List.mem_of_getElem? (i := 24) rfl)) (fun _ h9 => h9) rfl dX11_carried_159 ?_
      refine lv_icmp_ge (tgt := 178) hx hb dX11_carried_162 (by decide) (fun c48 => ?_) (fun c48 => ?_)
      · rw [if_pos c48] at hE hp
        subst hE
        have hE := hO1
        dsimp only at hE
        refine lv_aload_n hx hb dX11_carried_178 rfl (lv_at hl 0 rfl) ?_
        refine lv_iconst (v := 0) hx hb dX11_carried_179 (by decide) ?_
        refine va_put (D := G) (ci := 8) (v := .int 0) (ty := .int) (C := RX11) (T := TX11) (N := 42) hx hb hts iX11 tyX11 tyX11_ok nmX11 hown hK hP hD hS 0 rfl rfl 1 (by decide) (hw (.fieldLink RX11 100 "MotionFloorModel$Hall" "there" "I") (List.mem_of_getElem? (i := 25) rfl)) (fun _ h9 => h9) rfl (by decide +kernel) rfl rfl (Nat.le_of_ble_eq_true rfl) dX11_carried_180 (fun H locs hP hD hS => ?_)
        rw [sI_1] at hP hD
        refine lv_goto (tgt := 373) hx hb dX11_carried_183 (by decide) ?_
        exact B_373 (sI S 1 0) x1 x2 _ _ _ hE hp hP hD hS (lv_sub hl [0, 1, 2] rfl)
      · rw [if_neg c48] at hE hp
        refine lv_aload_n hx hb dX11_carried_165 rfl (lv_at hl 0 rfl) ?_
        refine va_get (D := G) (ci := 8) (v := .ref (g 11)) (C := RX11) (T := TX11) (N := 42) hx hb hts iX11 hown hK hP 0 rfl rfl 11 (by decide) (hw (.fieldLink RX11 9 "MotionFloorModel$Hall" "isThere" "[Z") (List.mem_of_getElem? (i := 26) rfl)) (fun _ h9 => h9) rfl dX11_carried_166 ?_
        refine lv_iload_n hx hb dX11_carried_169 rfl (lv_at hl 3 rfl) ?_
        refine lv_iconst (v := 0) hx hb dX11_carried_170 (by decide) ?_
        obtain ⟨hy49, hp⟩ := hp
        refine va_zast hx hb hK hP hD hS 1 1 rfl rfl hy49 dX11_carried_171 (fun H locs hP hD hS => ?_)
        rw [sA_11] at hP hD
        refine lv_iinc (v := (x3 + 1)) (lv' := [(3, .int (x3 + 1)), (0, .ref h), (1, .int x1), (2, .int x2)]) hx hb dX11_carried_172 hl (k := 3) rfl rfl (by decide) rfl (fun ls hl => ?_)
        refine lv_goto (tgt := 157) hx hb dX11_carried_175 (by decide) ?_
        subst hE
        dsimp only at hO1 hq1
        exact ih1 (sA S 11 x3.toNatClampNeg (vp_nar .boolean 0)) x1 x2 (x3 + 1) _ _ _ hO1 hq1 hP hD hS (lv_sub hl [1, 2, 3, 0] rfl)
  have B_353 : ∀ (S : HS) (x1 x2 x3 x4 y0 y1 : Int32) (H : Heap) (locs : List Loc) (ls : Array Slot), b_X11_carried_353 S x1 x2 x3 x4 y0 y1 = X → q_X11_carried_353 S x1 x2 x3 x4 y0 y1 → va_P G vwCl (hW K h g S) H → va_D A (hW K h g S) → va_S A s.heap H locs → lv_has ls 5 [(0, .ref h), (1, .int x1), (2, .int x2), (3, .int x3), (4, .int x4)] → W p l e ({ frames := 2, cells := 0, slots := 0, locals := 51 } : Room) s m #[Value.ref h, Value.int a1, Value.int a2] below meth c H locs 0 0 Q (F0 m 353 ls [.int y0, .int y1, .ref (g 27)]) := by
    intro S x1 x2 x3 x4 y0 y1 H locs ls hE hp hP hD hS hl
    unfold b_X11_carried_353 at hE
    unfold q_X11_carried_353 at hp
    obtain ⟨hy64, hp⟩ := hp
    refine va_zast hx hb hK hP hD hS 17 1 rfl rfl hy64 dX11_carried_353 (fun H locs hP hD hS => ?_)
    rw [sA_27] at hP hD
    refine lv_iload_n hx hb dX11_carried_354 rfl (lv_at hl 2 rfl) ?_
    refine lv_iconst (v := 4) hx hb dX11_carried_355 (by decide) ?_
    refine lv_icmp_ne (tgt := 373) hx hb dX11_carried_356 (by decide) (fun c65 => ?_) (fun c65 => ?_)
    · rw [if_neg c65] at hE hp
      exact B_373 (sA S 27 y1.toNatClampNeg (vp_nar .boolean y0)) x1 x2 _ _ _ hE hp hP hD hS (lv_sub hl [0, 1, 2] rfl)
    · rw [if_pos c65] at hE hp
      refine lv_aload_n hx hb dX11_carried_359 rfl (lv_at hl 0 rfl) ?_
      refine va_get (D := G) (ci := 8) (v := .ref (g 15)) (C := RX11) (T := TX11) (N := 42) hx hb hts iX11 hown hK hP 0 rfl rfl 15 (by decide) (hw (.fieldLink RX11 25 "MotionFloorModel$Hall" "mover" "[I") (List.mem_of_getElem? (i := 32) rfl)) (fun _ h9 => h9) rfl dX11_carried_360 ?_
      refine lv_iload_n hx hb dX11_carried_363 rfl (lv_at hl 3 rfl) ?_
      refine lv_iconst (v := (-1)) hx hb dX11_carried_364 (by decide) ?_
      obtain ⟨hy66, hp⟩ := hp
      refine va_iast hx hb hK hP hD hS 5 0 rfl rfl hy66 dX11_carried_365 (fun H locs hP hD hS => ?_)
      rw [sA_15] at hP hD
      refine lv_aload_n hx hb dX11_carried_366 rfl (lv_at hl 0 rfl) ?_
      refine va_get (D := G) (ci := 8) (v := .ref (g 16)) (C := RX11) (T := TX11) (N := 42) hx hb hts iX11 hown hK hP 0 rfl rfl 16 (by decide) (hw (.fieldLink RX11 28 "MotionFloorModel$Hall" "seconder" "[I") (List.mem_of_getElem? (i := 33) rfl)) (fun _ h9 => h9) rfl dX11_carried_367 ?_
      refine lv_iload_n hx hb dX11_carried_370 rfl (lv_at hl 3 rfl) ?_
      refine lv_iconst (v := (-1)) hx hb dX11_carried_371 (by decide) ?_
      obtain ⟨hy67, hp⟩ := hp
      refine va_iast hx hb hK hP hD hS 6 0 rfl rfl hy67 dX11_carried_372 (fun H locs hP hD hS => ?_)
      rw [sA_16] at hP hD
      exact B_373 (sA (sA (sA S 27 y1.toNatClampNeg (vp_nar .boolean y0)) 15 x3.toNatClampNeg (-1)) 16 x3.toNatClampNeg (-1)) x1 x2 _ _ _ hE hp hP hD hS (lv_sub hl [0, 1, 2] rfl)
  have B_337 : ∀ (S : HS) (x1 x2 x3 x4 y0 y1 : Int32) (H : Heap) (locs : List Loc) (ls : Array Slot), b_X11_carried_337 S x1 x2 x3 x4 y0 y1 = X → q_X11_carried_337 S x1 x2 x3 x4 y0 y1 → va_P G vwCl (hW K h g S) H → va_D A (hW K h g S) → va_S A s.heap H locs → lv_has ls 5 [(0, .ref h), (1, .int x1), (2, .int x2), (3, .int x3), (4, .int x4)] → W p l e ({ frames := 2, cells := 0, slots := 0, locals := 51 } : Room) s m #[Value.ref h, Value.int a1, Value.int a2] below meth c H locs 0 0 Q (F0 m 337 ls [.int y0, .int y1, .ref (g 25)]) := by
    intro S x1 x2 x3 x4 y0 y1 H locs ls hE hp hP hD hS hl
    unfold b_X11_carried_337 at hE
    unfold q_X11_carried_337 at hp
    obtain ⟨hy62, hp⟩ := hp
    refine va_zast hx hb hK hP hD hS 15 1 rfl rfl hy62 dX11_carried_337 (fun H locs hP hD hS => ?_)
    rw [sA_25] at hP hD
    refine lv_aload_n hx hb dX11_carried_338 rfl (lv_at hl 0 rfl) ?_
    refine va_get (D := G) (ci := 8) (v := .ref (g 27)) (C := RX11) (T := TX11) (N := 42) hx hb hts iX11 hown hK hP 0 rfl rfl 27 (by decide) (hw (.fieldLink RX11 61 "MotionFloorModel$Hall" "letter" "[Z") (List.mem_of_getElem? (i := 31) rfl)) (fun _ h9 => h9) rfl dX11_carried_339 ?_
    refine lv_iload_n hx hb dX11_carried_342 rfl (lv_at hl 3 rfl) ?_
    refine lv_iload_n hx hb dX11_carried_343 rfl (lv_at hl 2 rfl) ?_
    refine lv_iconst (v := 4) hx hb dX11_carried_344 (by decide) ?_
    refine lv_icmp_ne (tgt := 352) hx hb dX11_carried_345 (by decide) (fun c63 => ?_) (fun c63 => ?_)
    · rw [if_neg c63] at hE hp
      refine lv_iconst (v := 0) hx hb dX11_carried_352 (by decide) ?_
      exact B_353 (sA S 25 y1.toNatClampNeg (vp_nar .boolean y0)) x1 x2 x3 x4 0 x3 _ _ _ hE hp hP hD hS (lv_sub hl [0, 1, 2, 3, 4] rfl)
    · rw [if_pos c63] at hE hp
      refine lv_iconst (v := 1) hx hb dX11_carried_348 (by decide) ?_
      refine lv_goto (tgt := 353) hx hb dX11_carried_349 (by decide) ?_
      exact B_353 (sA S 25 y1.toNatClampNeg (vp_nar .boolean y0)) x1 x2 x3 x4 1 x3 _ _ _ hE hp hP hD hS (lv_sub hl [0, 1, 2, 3, 4] rfl)
  have L_257 : ∀ (n : Nat) (S : HS) (x1 x2 : Int32) (H : Heap) (locs : List Loc) (ls : Array Slot), lp_X11_carried_257 n S x1 x2 = X → lq_X11_carried_257 n S x1 x2 → va_P G vwCl (hW K h g S) H → va_D A (hW K h g S) → va_S A s.heap H locs → lv_has ls 5 [(0, .ref h), (1, .int x1), (2, .int x2)] → W p l e ({ frames := 2, cells := 0, slots := 0, locals := 51 } : Room) s m #[Value.ref h, Value.int a1, Value.int a2] below meth c H locs 0 0 Q (F0 m 257 ls []) := by
    intro n1
    induction n1 with
    | zero => intro S x1 x2 H locs ls hE hp; exact False.elim hp
    | succ n1 ih1 =>
      intro S x1 x2 H locs ls hO1 hp hP hD hS hl
      rw [lp_X11_carried_257] at hO1
      rw [lq_X11_carried_257] at hp
      obtain ⟨hp, hq1⟩ := hp
      generalize hE : st_X11_carried_257 S x1 x2 = Y1 at hO1 hq1
      unfold st_X11_carried_257 at hE
      unfold ps_X11_carried_257 at hp
      refine lv_aload_n hx hb dX11_carried_257 rfl (lv_at hl 0 rfl) ?_
      refine va_get (D := G) (ci := 8) (v := .int (S.1 6)) (C := RX11) (T := TX11) (N := 42) hx hb hts iX11 hown hK hP 0 rfl rfl 6 (by decide) (hw (.fieldLink RX11 115 "MotionFloorModel$Hall" "pending" "I") (List.mem_of_getElem? (i := 10) rfl)) (fun _ h9 => h9) rfl dX11_carried_258 ?_
      refine lv_iconst (v := 1) hx hb dX11_carried_261 (by decide) ?_
      refine lv_icmp_le (tgt := 272) hx hb dX11_carried_262 (by decide) (fun c50 => ?_) (fun c50 => ?_)
      · rw [if_pos c50] at hE hp
        subst hE
        have hE := hO1
        dsimp only at hE
        refine lv_aload_n hx hb dX11_carried_272 rfl (lv_at hl 0 rfl) ?_
        refine va_get (D := G) (ci := 8) (v := .ref (g 31)) (C := RX11) (T := TX11) (N := 42) hx hb hts iX11 hown hK hP 0 rfl rfl 31 (by decide) (hw (.fieldLink RX11 72 "MotionFloorModel$Hall" "row" "[I") (List.mem_of_getElem? (i := 9) rfl)) (fun _ h9 => h9) rfl dX11_carried_273 ?_
        refine lv_iconst (v := 0) hx hb dX11_carried_276 (by decide) ?_
        obtain ⟨hy51, hp⟩ := hp
        refine va_iald hx hb hK hP 20 0 rfl rfl hy51 dX11_carried_277 ?_
        refine lv_istore_n (lv' := [(3, .int (S.2 31 (0 : Int32).toNatClampNeg)), (0, .ref h), (1, .int x1), (2, .int x2)]) hx hb dX11_carried_278 rfl hl (by decide) rfl (fun ls hl => ?_)
        refine lv_aload_n hx hb dX11_carried_279 rfl (lv_at hl 1 rfl) ?_
        obtain ⟨hy52, hp⟩ := hp
        refine hGoi (va_runV (As := []) (rest := []) ⟨hx, hb, hml, hown, hts⟩ (c_X11_free l G K h g S _) (cwV 0 hts (wGV t_ (mw (.methodLink RX11 193 yX11_free) (List.mem_of_getElem? (i := 18) rfl)) (mw (.instanceMethod yX11_free) (List.mem_of_getElem? (i := 19) rfl)) (mw (.selects RX11 yX11_free yX11_free) (List.mem_of_getElem? (i := 20) rfl)) (mw (.initialized RX11) (List.mem_of_getElem? (i := 6) rfl)) j_X11_free) rfl rfl rfl (by decide +kernel) ⟨Nat.le_of_ble_eq_true rfl, Nat.le_of_ble_eq_true rfl⟩) (hPV hK hTE hP hD hy52) rfl rfl hl.1 rfl (lv_room (Nat.le_of_ble_eq_true rfl)) dX11_carried_280 ⟨Nat.le_of_ble_eq_true rfl, Nat.le_of_ble_eq_true rfl⟩) hP hD hS hA (fun r54 u53 H locs hv hP hD hS => ?_)
        rw [← hv] at hE hp
        dsimp only at hE hp
        unfold b_X11_carried_a283 at hE
        unfold q_X11_carried_a283 at hp
        refine lv_istore (lv' := [(4, .int r54), (3, .int (S.2 31 (0 : Int32).toNatClampNeg)), (0, .ref h), (1, .int x1), (2, .int x2)]) hx hb dX11_carried_283 hl (by decide) rfl (fun ls hl => ?_)
        refine lv_aload_n hx hb dX11_carried_285 rfl (lv_at hl 2 rfl) ?_
        refine va_get (D := G) (ci := 8) (v := .ref (g 33)) (C := RX11) (T := TX11) (N := 42) hx hb hts iX11 hown hK hP 0 rfl rfl 33 (by decide) (hw (.fieldLink RX11 78 "MotionFloorModel$Hall" "desk" "[I") (List.mem_of_getElem? (i := 23) rfl)) (fun _ h9 => h9) rfl dX11_carried_286 ?_
        refine lv_bipush (v := 9) hx hb dX11_carried_289 (by decide) ?_
        refine lv_iload hx hb dX11_carried_291 (lv_at hl 0 rfl) ?_
        refine lv_imul hx hb dX11_carried_293 ?_
        refine lv_iload_n hx hb dX11_carried_294 rfl (lv_at hl 1 rfl) ?_
        obtain ⟨hy55, hp⟩ := hp
        refine va_iast hx hb hK hP hD hS 22 0 rfl rfl hy55 dX11_carried_295 (fun H locs hP hD hS => ?_)
        rw [sA_33] at hP hD
        refine lv_aload_n hx hb dX11_carried_296 rfl (lv_at hl 2 rfl) ?_
        refine va_get (D := G) (ci := 8) (v := .ref (g 34)) (C := RX11) (T := TX11) (N := 42) hx hb hts iX11 hown hK hP 0 rfl rfl 34 (by decide) (hw (.fieldLink RX11 81 "MotionFloorModel$Hall" "lying" "[I") (List.mem_of_getElem? (i := 21) rfl)) (fun _ h9 => h9) rfl dX11_carried_297 ?_
        refine lv_iload hx hb dX11_carried_300 (lv_at hl 0 rfl) ?_
        refine lv_iconst (v := 1) hx hb dX11_carried_302 (by decide) ?_
        obtain ⟨hy56, hp⟩ := hp
        refine va_iast hx hb hK hP hD hS 23 0 rfl rfl hy56 dX11_carried_303 (fun H locs hP hD hS => ?_)
        rw [sA_34] at hP hD
        refine lv_aload_n hx hb dX11_carried_304 rfl (lv_at hl 2 rfl) ?_
        refine va_get (D := G) (ci := 8) (v := .ref (g 37)) (C := RX11) (T := TX11) (N := 42) hx hb hts iX11 hown hK hP 0 rfl rfl 37 (by decide) (hw (.fieldLink RX11 84 "MotionFloorModel$Hall" "tabled" "[Z") (List.mem_of_getElem? (i := 22) rfl)) (fun _ h9 => h9) rfl dX11_carried_305 ?_
        refine lv_iload hx hb dX11_carried_308 (lv_at hl 0 rfl) ?_
        refine lv_iconst (v := 0) hx hb dX11_carried_310 (by decide) ?_
        obtain ⟨hy57, hp⟩ := hp
        refine va_zast hx hb hK hP hD hS 24 1 rfl rfl hy57 dX11_carried_311 (fun H locs hP hD hS => ?_)
        rw [sA_37] at hP hD
        refine lv_aload_n hx hb dX11_carried_312 rfl (lv_at hl 2 rfl) ?_
        refine lv_iconst (v := 0) hx hb dX11_carried_313 (by decide) ?_
        refine va_put (D := G) (ci := 8) (v := .int 0) (ty := .int) (C := RX11) (T := TX11) (N := 42) hx hb hts iX11 tyX11 tyX11_ok nmX11 hown hK hP hD hS 0 rfl rfl 6 (by decide) (hw (.fieldLink RX11 115 "MotionFloorModel$Hall" "pending" "I") (List.mem_of_getElem? (i := 10) rfl)) (fun _ h9 => h9) rfl (by decide +kernel) rfl rfl (Nat.le_of_ble_eq_true rfl) dX11_carried_314 (fun H locs hP hD hS => ?_)
        rw [sI_6] at hP hD
        refine lv_aload_n hx hb dX11_carried_317 rfl (lv_at hl 2 rfl) ?_
        refine lv_iload_n hx hb dX11_carried_318 rfl (lv_at hl 1 rfl) ?_
        obtain ⟨hy58, hp⟩ := hp
        refine hGov (va_runV (As := [.int (S.2 31 (0 : Int32).toNatClampNeg)]) (rest := []) ⟨hx, hb, hml, hown, hts⟩ (c_X11_anew l G K h g (sI (sA (sA (sA u53 33 (9 * r54).toNatClampNeg (S.2 31 (0 : Int32).toNatClampNeg)) 34 r54.toNatClampNeg 1) 37 r54.toNatClampNeg (vp_nar .boolean 0)) 6 0) (S.2 31 (0 : Int32).toNatClampNeg) _) (cwV 1 hts (wGV t_ (mw (.methodLink RX11 144 yX11_anew) (List.mem_of_getElem? (i := 27) rfl)) (mw (.instanceMethod yX11_anew) (List.mem_of_getElem? (i := 28) rfl)) (mw (.selects RX11 yX11_anew yX11_anew) (List.mem_of_getElem? (i := 29) rfl)) (mw (.initialized RX11) (List.mem_of_getElem? (i := 6) rfl)) j_X11_anew) rfl rfl rfl (by decide +kernel) ⟨Nat.le_of_ble_eq_true rfl, Nat.le_of_ble_eq_true rfl⟩) (hPV hK hTE hP hD hy58) rfl rfl hl.1 rfl (lv_room (Nat.le_of_ble_eq_true rfl)) dX11_carried_319 ⟨Nat.le_of_ble_eq_true rfl, Nat.le_of_ble_eq_true rfl⟩) hP hD hS hA (fun u59 H locs hv hP hD hS => ?_)
        rw [← hv] at hE hp
        dsimp only at hE hp
        unfold b_X11_carried_a322 at hE
        unfold q_X11_carried_a322 at hp
        refine lv_aload_n hx hb dX11_carried_322 rfl (lv_at hl 2 rfl) ?_
        refine va_get (D := G) (ci := 8) (v := .ref (g 25)) (C := RX11) (T := TX11) (N := 42) hx hb hts iX11 hown hK hP 0 rfl rfl 25 (by decide) (hw (.fieldLink RX11 55 "MotionFloorModel$Hall" "laid" "[Z") (List.mem_of_getElem? (i := 30) rfl)) (fun _ h9 => h9) rfl dX11_carried_323 ?_
        refine lv_iload_n hx hb dX11_carried_326 rfl (lv_at hl 1 rfl) ?_
        refine lv_iload_n hx hb dX11_carried_327 rfl (lv_at hl 4 rfl) ?_
        refine lv_iconst (v := 5) hx hb dX11_carried_328 (by decide) ?_
        refine lv_icmp_ne (tgt := 336) hx hb dX11_carried_329 (by decide) (fun c61 => ?_) (fun c61 => ?_)
        · rw [if_neg c61] at hE hp
          refine lv_iconst (v := 0) hx hb dX11_carried_336 (by decide) ?_
          exact B_337 u59 x1 x2 (S.2 31 (0 : Int32).toNatClampNeg) r54 0 (S.2 31 (0 : Int32).toNatClampNeg) _ _ _ hE hp hP hD hS (lv_sub hl [2, 3, 4, 1, 0] rfl)
        · rw [if_pos c61] at hE hp
          refine lv_iconst (v := 1) hx hb dX11_carried_332 (by decide) ?_
          refine lv_goto (tgt := 337) hx hb dX11_carried_333 (by decide) ?_
          exact B_337 u59 x1 x2 (S.2 31 (0 : Int32).toNatClampNeg) r54 1 (S.2 31 (0 : Int32).toNatClampNeg) _ _ _ hE hp hP hD hS (lv_sub hl [2, 3, 4, 1, 0] rfl)
      · rw [if_neg c50] at hE hp
        refine lv_aload_n hx hb dX11_carried_265 rfl (lv_at hl 0 rfl) ?_
        obtain ⟨hy76, hp⟩ := hp
        refine hGov (va_runV (As := []) (rest := []) ⟨hx, hb, hml, hown, hts⟩ (c_X11_goes l G K h g S _) (cwV 0 hts (wGV t_ (mw (.methodLink RX11 227 yX11_goes) (List.mem_of_getElem? (i := 3) rfl)) (mw (.instanceMethod yX11_goes) (List.mem_of_getElem? (i := 4) rfl)) (mw (.selects RX11 yX11_goes yX11_goes) (List.mem_of_getElem? (i := 5) rfl)) (mw (.initialized RX11) (List.mem_of_getElem? (i := 6) rfl)) j_X11_goes) rfl rfl rfl (by decide +kernel) ⟨Nat.le_of_ble_eq_true rfl, Nat.le_of_ble_eq_true rfl⟩) (hPV hK hTE hP hD hy76) rfl rfl hl.1 rfl (lv_room (Nat.le_of_ble_eq_true rfl)) dX11_carried_266 ⟨Nat.le_of_ble_eq_true rfl, Nat.le_of_ble_eq_true rfl⟩) hP hD hS hA (fun u77 H locs hv hP hD hS => ?_)
        rw [← hv] at hE hp
        dsimp only at hE hp
        unfold b_X11_carried_a269 at hE
        unfold q_X11_carried_a269 at hp
        refine lv_goto (tgt := 257) hx hb dX11_carried_269 (by decide) ?_
        subst hE
        dsimp only at hO1 hq1
        exact ih1 u77 x1 x2 _ _ _ hO1 hq1 hP hD hS (lv_sub hl [0, 1, 2] rfl)
  have B_M : ∀ (S : HS) (x1 x2 : Int32) (H : Heap) (locs : List Loc) (ls : Array Slot), f_X11_carried S x1 x2 = X → p_X11_carried S x1 x2 → va_P G vwCl (hW K h g S) H → va_D A (hW K h g S) → va_S A s.heap H locs → lv_has ls 5 [(0, .ref h), (1, .int x1), (2, .int x2)] → W p l e ({ frames := 2, cells := 0, slots := 0, locals := 51 } : Room) s m #[Value.ref h, Value.int a1, Value.int a2] below meth c H locs 0 0 Q (F0 m 0 ls []) := by
    intro S x1 x2 H locs ls hE hp hP hD hS hl
    unfold f_X11_carried at hE
    unfold p_X11_carried at hp
    refine lv_iload_n hx hb dX11_carried_0 rfl (lv_at hl 2 rfl) ?_
    by_cases s1 : x2 = 1
    · rw [if_pos s1] at hE hp
      refine lv_tableIn (off := 47) (tgt := 48) hx hb dX11_carried_1 (by rw [s1]; decide) (by rw [s1]; decide) (by rw [s1]; decide) (by decide) ?_
      refine lv_aload_n hx hb dX11_carried_48 rfl (lv_at hl 0 rfl) ?_
      refine lv_dup hx hb dX11_carried_49 rfl ?_
      refine va_get (D := G) (ci := 8) (v := .int (S.1 9)) (C := RX11) (T := TX11) (N := 42) hx hb hts iX11 hown hK hP 0 rfl rfl 9 (by decide) (hw (.fieldLink RX11 124 "MotionFloorModel$Hall" "adopted" "I") (List.mem_of_getElem? (i := 0) rfl)) (fun _ h9 => h9) rfl dX11_carried_50 ?_
      refine lv_iconst (v := 1) hx hb dX11_carried_53 (by decide) ?_
      refine lv_iadd hx hb dX11_carried_54 ?_
      refine va_put (D := G) (ci := 8) (v := .int ((S.1 9) + 1)) (ty := .int) (C := RX11) (T := TX11) (N := 42) hx hb hts iX11 tyX11 tyX11_ok nmX11 hown hK hP hD hS 0 rfl rfl 9 (by decide) (hw (.fieldLink RX11 124 "MotionFloorModel$Hall" "adopted" "I") (List.mem_of_getElem? (i := 0) rfl)) (fun _ h9 => h9) rfl (by decide +kernel) rfl rfl (Nat.le_of_ble_eq_true rfl) dX11_carried_55 (fun H locs hP hD hS => ?_)
      rw [sI_9] at hP hD
      refine lv_aload_n hx hb dX11_carried_58 rfl (lv_at hl 0 rfl) ?_
      refine lv_aload_n hx hb dX11_carried_59 rfl (lv_at hl 0 rfl) ?_
      refine va_get (D := G) (ci := 8) (v := .ref (g 19)) (C := RX11) (T := TX11) (N := 42) hx hb hts iX11 hown hK hP 0 rfl rfl 19 (by decide) (hw (.fieldLink RX11 37 "MotionFloorModel$Hall" "words" "[I") (List.mem_of_getElem? (i := 1) rfl)) (fun _ h9 => h9) rfl dX11_carried_60 ?_
      refine lv_iload_n hx hb dX11_carried_63 rfl (lv_at hl 1 rfl) ?_
      obtain ⟨hy1, hp⟩ := hp
      refine va_iald hx hb hK hP 9 0 rfl rfl hy1 dX11_carried_64 ?_
      refine va_put (D := G) (ci := 8) (v := .int ((sI S 9 ((S.1 9) + 1)).2 19 x1.toNatClampNeg)) (ty := .int) (C := RX11) (T := TX11) (N := 42) hx hb hts iX11 tyX11 tyX11_ok nmX11 hown hK hP hD hS 0 rfl rfl 39 (by decide) (hw (.fieldLink RX11 133 "MotionFloorModel$Hall" "lastWords" "I") (List.mem_of_getElem? (i := 2) rfl)) (fun _ h9 => h9) rfl (by decide +kernel) rfl rfl (Nat.le_of_ble_eq_true rfl) dX11_carried_65 (fun H locs hP hD hS => ?_)
      rw [sI_39] at hP hD
      refine lv_iconst (v := 0) hx hb dX11_carried_68 (by decide) ?_
      refine lv_istore_n (lv' := [(3, .int 0), (0, .ref h), (1, .int x1), (2, .int x2)]) hx hb dX11_carried_69 rfl hl (by decide) rfl (fun ls hl => ?_)
      exact L_70 100000 (sI (sI S 9 ((S.1 9) + 1)) 39 ((sI S 9 ((S.1 9) + 1)).2 19 x1.toNatClampNeg)) x1 x2 0 _ _ _ hE hp hP hD hS (lv_sub hl [1, 2, 3, 0] rfl)
    rw [if_neg s1] at hE hp
    have s1 := wNe (b := 1) rfl (by decide) s1
    by_cases s2 : x2 = 2
    · rw [if_pos s2] at hE hp
      refine lv_tableIn (off := 110) (tgt := 111) hx hb dX11_carried_1 (by rw [s2]; decide) (by rw [s2]; decide) (by rw [s2]; decide) (by decide) ?_
      exact B_111 S x1 x2 _ _ _ hE hp hP hD hS (lv_sub hl [0, 1, 2] rfl)
    rw [if_neg s2] at hE hp
    have s2 := wNe (b := 2) rfl (by decide) s2
    by_cases s3 : x2 = 3
    · rw [if_pos s3] at hE hp
      refine lv_tableIn (off := 110) (tgt := 111) hx hb dX11_carried_1 (by rw [s3]; decide) (by rw [s3]; decide) (by rw [s3]; decide) (by decide) ?_
      exact B_111 S x1 x2 _ _ _ hE hp hP hD hS (lv_sub hl [0, 1, 2] rfl)
    rw [if_neg s3] at hE hp
    have s3 := wNe (b := 3) rfl (by decide) s3
    by_cases s6 : x2 = 6
    · rw [if_pos s6] at hE hp
      refine lv_tableIn (off := 133) (tgt := 134) hx hb dX11_carried_1 (by rw [s6]; decide) (by rw [s6]; decide) (by rw [s6]; decide) (by decide) ?_
      refine lv_aload_n hx hb dX11_carried_134 rfl (lv_at hl 0 rfl) ?_
      obtain ⟨hy19, hp⟩ := hp
      refine hGov (va_runV (As := []) (rest := []) ⟨hx, hb, hml, hown, hts⟩ (c_X11_goes l G K h g S _) (cwV 0 hts (wGV t_ (mw (.methodLink RX11 227 yX11_goes) (List.mem_of_getElem? (i := 3) rfl)) (mw (.instanceMethod yX11_goes) (List.mem_of_getElem? (i := 4) rfl)) (mw (.selects RX11 yX11_goes yX11_goes) (List.mem_of_getElem? (i := 5) rfl)) (mw (.initialized RX11) (List.mem_of_getElem? (i := 6) rfl)) j_X11_goes) rfl rfl rfl (by decide +kernel) ⟨Nat.le_of_ble_eq_true rfl, Nat.le_of_ble_eq_true rfl⟩) (hPV hK hTE hP hD hy19) rfl rfl hl.1 rfl (lv_room (Nat.le_of_ble_eq_true rfl)) dX11_carried_135 ⟨Nat.le_of_ble_eq_true rfl, Nat.le_of_ble_eq_true rfl⟩) hP hD hS hA (fun u20 H locs hv hP hD hS => ?_)
      rw [← hv] at hE hp
      dsimp only at hE hp
      unfold b_X11_carried_a138 at hE
      unfold q_X11_carried_a138 at hp
      refine lv_aload_n hx hb dX11_carried_138 rfl (lv_at hl 0 rfl) ?_
      refine va_get (D := G) (ci := 8) (v := .ref (g 24)) (C := RX11) (T := TX11) (N := 42) hx hb hts iX11 hown hK hP 0 rfl rfl 24 (by decide) (hw (.fieldLink RX11 52 "MotionFloorModel$Hall" "closed" "[Z") (List.mem_of_getElem? (i := 14) rfl)) (fun _ h9 => h9) rfl dX11_carried_139 ?_
      refine lv_aload_n hx hb dX11_carried_142 rfl (lv_at hl 0 rfl) ?_
      obtain ⟨hy22, hp⟩ := hp
      refine hGoi (va_runV (As := []) (rest := [.ref (g 24)]) ⟨hx, hb, hml, hown, hts⟩ (c_X11_top l G K h g u20 _) (cwV 0 hts (wGV t_ (mw (.methodLink RX11 155 yX11_top) (List.mem_of_getElem? (i := 15) rfl)) (mw (.instanceMethod yX11_top) (List.mem_of_getElem? (i := 16) rfl)) (mw (.selects RX11 yX11_top yX11_top) (List.mem_of_getElem? (i := 17) rfl)) (mw (.initialized RX11) (List.mem_of_getElem? (i := 6) rfl)) j_X11_top) rfl rfl rfl (by decide +kernel) ⟨Nat.le_of_ble_eq_true rfl, Nat.le_of_ble_eq_true rfl⟩) (hPV hK hTE hP hD hy22) rfl rfl hl.1 rfl (lv_room (Nat.le_of_ble_eq_true rfl)) dX11_carried_143 ⟨Nat.le_of_ble_eq_true rfl, Nat.le_of_ble_eq_true rfl⟩) hP hD hS hA (fun r24 u23 H locs hv hP hD hS => ?_)
      rw [← hv] at hE hp
      dsimp only at hE hp
      unfold b_X11_carried_a146 at hE
      unfold q_X11_carried_a146 at hp
      refine lv_iconst (v := 1) hx hb dX11_carried_146 (by decide) ?_
      obtain ⟨hy25, hp⟩ := hp
      refine va_zast hx hb hK hP hD hS 14 1 rfl rfl hy25 dX11_carried_147 (fun H locs hP hD hS => ?_)
      rw [sA_24] at hP hD
      refine lv_goto (tgt := 373) hx hb dX11_carried_148 (by decide) ?_
      exact B_373 (sA u23 24 r24.toNatClampNeg (vp_nar .boolean 1)) x1 x2 _ _ _ hE hp hP hD hS (lv_sub hl [0, 1, 2] rfl)
    rw [if_neg s6] at hE hp
    have s6 := wNe (b := 6) rfl (by decide) s6
    by_cases s7 : x2 = 7
    · rw [if_pos s7] at hE hp
      refine lv_tableIn (off := 185) (tgt := 186) hx hb dX11_carried_1 (by rw [s7]; decide) (by rw [s7]; decide) (by rw [s7]; decide) (by decide) ?_
      refine lv_aload_n hx hb dX11_carried_186 rfl (lv_at hl 0 rfl) ?_
      obtain ⟨hy31, hp⟩ := hp
      refine hGov (va_runV (As := []) (rest := []) ⟨hx, hb, hml, hown, hts⟩ (c_X11_goes l G K h g S _) (cwV 0 hts (wGV t_ (mw (.methodLink RX11 227 yX11_goes) (List.mem_of_getElem? (i := 3) rfl)) (mw (.instanceMethod yX11_goes) (List.mem_of_getElem? (i := 4) rfl)) (mw (.selects RX11 yX11_goes yX11_goes) (List.mem_of_getElem? (i := 5) rfl)) (mw (.initialized RX11) (List.mem_of_getElem? (i := 6) rfl)) j_X11_goes) rfl rfl rfl (by decide +kernel) ⟨Nat.le_of_ble_eq_true rfl, Nat.le_of_ble_eq_true rfl⟩) (hPV hK hTE hP hD hy31) rfl rfl hl.1 rfl (lv_room (Nat.le_of_ble_eq_true rfl)) dX11_carried_187 ⟨Nat.le_of_ble_eq_true rfl, Nat.le_of_ble_eq_true rfl⟩) hP hD hS hA (fun u32 H locs hv hP hD hS => ?_)
      rw [← hv] at hE hp
      dsimp only at hE hp
      unfold b_X11_carried_a190 at hE
      unfold q_X11_carried_a190 at hp
      refine lv_aload_n hx hb dX11_carried_190 rfl (lv_at hl 0 rfl) ?_
      obtain ⟨hy34, hp⟩ := hp
      refine hGoi (va_runV (As := []) (rest := []) ⟨hx, hb, hml, hown, hts⟩ (c_X11_free l G K h g u32 _) (cwV 0 hts (wGV t_ (mw (.methodLink RX11 193 yX11_free) (List.mem_of_getElem? (i := 18) rfl)) (mw (.instanceMethod yX11_free) (List.mem_of_getElem? (i := 19) rfl)) (mw (.selects RX11 yX11_free yX11_free) (List.mem_of_getElem? (i := 20) rfl)) (mw (.initialized RX11) (List.mem_of_getElem? (i := 6) rfl)) j_X11_free) rfl rfl rfl (by decide +kernel) ⟨Nat.le_of_ble_eq_true rfl, Nat.le_of_ble_eq_true rfl⟩) (hPV hK hTE hP hD hy34) rfl rfl hl.1 rfl (lv_room (Nat.le_of_ble_eq_true rfl)) dX11_carried_191 ⟨Nat.le_of_ble_eq_true rfl, Nat.le_of_ble_eq_true rfl⟩) hP hD hS hA (fun r36 u35 H locs hv hP hD hS => ?_)
      rw [← hv] at hE hp
      dsimp only at hE hp
      unfold b_X11_carried_a194 at hE
      unfold q_X11_carried_a194 at hp
      refine lv_istore_n (lv' := [(3, .int r36), (0, .ref h), (1, .int x1), (2, .int x2)]) hx hb dX11_carried_194 rfl hl (by decide) rfl (fun ls hl => ?_)
      refine lv_iconst (v := 0) hx hb dX11_carried_195 (by decide) ?_
      refine lv_istore (lv' := [(4, .int 0), (3, .int r36), (0, .ref h), (1, .int x1), (2, .int x2)]) hx hb dX11_carried_196 hl (by decide) rfl (fun ls hl => ?_)
      exact L_198 100000 u35 x1 x2 r36 0 _ _ _ hE hp hP hD hS (lv_sub hl [2, 3, 4, 1, 0] rfl)
    rw [if_neg s7] at hE hp
    have s7 := wNe (b := 7) rfl (by decide) s7
    by_cases s8 : x2 = 8
    · rw [if_pos s8] at hE hp
      refine lv_tableIn (off := 150) (tgt := 151) hx hb dX11_carried_1 (by rw [s8]; decide) (by rw [s8]; decide) (by rw [s8]; decide) (by decide) ?_
      refine lv_aload_n hx hb dX11_carried_151 rfl (lv_at hl 0 rfl) ?_
      obtain ⟨hy45, hp⟩ := hp
      refine hGov (va_runV (As := []) (rest := []) ⟨hx, hb, hml, hown, hts⟩ (c_X11_goes l G K h g S _) (cwV 0 hts (wGV t_ (mw (.methodLink RX11 227 yX11_goes) (List.mem_of_getElem? (i := 3) rfl)) (mw (.instanceMethod yX11_goes) (List.mem_of_getElem? (i := 4) rfl)) (mw (.selects RX11 yX11_goes yX11_goes) (List.mem_of_getElem? (i := 5) rfl)) (mw (.initialized RX11) (List.mem_of_getElem? (i := 6) rfl)) j_X11_goes) rfl rfl rfl (by decide +kernel) ⟨Nat.le_of_ble_eq_true rfl, Nat.le_of_ble_eq_true rfl⟩) (hPV hK hTE hP hD hy45) rfl rfl hl.1 rfl (lv_room (Nat.le_of_ble_eq_true rfl)) dX11_carried_152 ⟨Nat.le_of_ble_eq_true rfl, Nat.le_of_ble_eq_true rfl⟩) hP hD hS hA (fun u46 H locs hv hP hD hS => ?_)
      rw [← hv] at hE hp
      dsimp only at hE hp
      unfold b_X11_carried_a155 at hE
      unfold q_X11_carried_a155 at hp
      refine lv_iconst (v := 0) hx hb dX11_carried_155 (by decide) ?_
      refine lv_istore_n (lv' := [(3, .int 0), (0, .ref h), (1, .int x1), (2, .int x2)]) hx hb dX11_carried_156 rfl hl (by decide) rfl (fun ls hl => ?_)
      exact L_157 100000 u46 x1 x2 0 _ _ _ hE hp hP hD hS (lv_sub hl [1, 2, 3, 0] rfl)
    rw [if_neg s8] at hE hp
    have s8 := wNe (b := 8) rfl (by decide) s8
    by_cases s4 : x2 = 4
    · refine lv_tableIn (off := 256) (tgt := 257) hx hb dX11_carried_1 (by rw [s4]; decide) (by rw [s4]; decide) (by rw [s4]; decide) (by decide) ?_
      exact L_257 100000 S x1 x2 _ _ _ hE hp hP hD hS (lv_sub hl [0, 1, 2] rfl)
    have s4 := wNe (b := 4) rfl (by decide) s4
    by_cases s5 : x2 = 5
    · refine lv_tableIn (off := 256) (tgt := 257) hx hb dX11_carried_1 (by rw [s5]; decide) (by rw [s5]; decide) (by rw [s5]; decide) (by decide) ?_
      exact L_257 100000 S x1 x2 _ _ _ hE hp hP hD hS (lv_sub hl [0, 1, 2] rfl)
    have s5 := wNe (b := 5) rfl (by decide) s5
    refine lv_tableOut (tgt := 257) hx hb dX11_carried_1 (by omega) (by decide) ?_
    exact L_257 100000 S x1 x2 _ _ _ hE hp hP hD hS (lv_sub hl [0, 1, 2] rfl)
  exact B_M S0 a1 a2 _ _ _ hX hp hP hD hS hl
