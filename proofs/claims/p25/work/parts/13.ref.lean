theorem gdX11_voters_0 : ckS (List.drop 0 cX11_voters.data.toList) 0 [(0, .iconst 0, 1), (1, .istore_n 2, 1), (2, .iconst 0, 1), (3, .istore_n 3, 1), (4, .iload_n 3, 1), (5, .aload_n 0, 1), (6, .getfield 96, 3), (9, .if_icmp .ge 33, 3), (12, .iload_n 2, 1), (13, .aload_n 0, 1), (14, .getfield 68, 3), (17, .sipush 200, 3), (20, .iload_n 1, 1), (21, .imul, 1), (22, .iload_n 3, 1), (23, .iadd, 1), (24, .baload, 1), (25, .iconst 2, 1), (26, .if_icmp .ge 7, 3), (29, .iconst 1, 1), (30, .goto 4, 3), (33, .iconst 0, 1), (34, .iadd, 1), (35, .istore_n 2, 1), (36, .iinc 3 1, 3), (39, .goto (-35), 3), (42, .iload_n 2, 1), (43, .ireturn, 1)] = true := by decide +kernel
theorem dX11_voters_0 : decode cX11_voters 0 = .ok (.iconst 0, 1) := ckS_g gdX11_voters_0 0 rfl
theorem dX11_voters_1 : decode cX11_voters 1 = .ok (.istore_n 2, 1) := ckS_g gdX11_voters_0 1 rfl
theorem dX11_voters_2 : decode cX11_voters 2 = .ok (.iconst 0, 1) := ckS_g gdX11_voters_0 2 rfl
theorem dX11_voters_3 : decode cX11_voters 3 = .ok (.istore_n 3, 1) := ckS_g gdX11_voters_0 3 rfl
theorem dX11_voters_4 : decode cX11_voters 4 = .ok (.iload_n 3, 1) := ckS_g gdX11_voters_0 4 rfl
theorem dX11_voters_5 : decode cX11_voters 5 = .ok (.aload_n 0, 1) := ckS_g gdX11_voters_0 5 rfl
theorem dX11_voters_6 : decode cX11_voters 6 = .ok (.getfield 96, 3) := ckS_g gdX11_voters_0 6 rfl
theorem dX11_voters_9 : decode cX11_voters 9 = .ok (.if_icmp .ge 33, 3) := ckS_g gdX11_voters_0 7 rfl
theorem dX11_voters_12 : decode cX11_voters 12 = .ok (.iload_n 2, 1) := ckS_g gdX11_voters_0 8 rfl
theorem dX11_voters_13 : decode cX11_voters 13 = .ok (.aload_n 0, 1) := ckS_g gdX11_voters_0 9 rfl
theorem dX11_voters_14 : decode cX11_voters 14 = .ok (.getfield 68, 3) := ckS_g gdX11_voters_0 10 rfl
theorem dX11_voters_17 : decode cX11_voters 17 = .ok (.sipush 200, 3) := ckS_g gdX11_voters_0 11 rfl
theorem dX11_voters_20 : decode cX11_voters 20 = .ok (.iload_n 1, 1) := ckS_g gdX11_voters_0 12 rfl
theorem dX11_voters_21 : decode cX11_voters 21 = .ok (.imul, 1) := ckS_g gdX11_voters_0 13 rfl
theorem dX11_voters_22 : decode cX11_voters 22 = .ok (.iload_n 3, 1) := ckS_g gdX11_voters_0 14 rfl
theorem dX11_voters_23 : decode cX11_voters 23 = .ok (.iadd, 1) := ckS_g gdX11_voters_0 15 rfl
theorem dX11_voters_24 : decode cX11_voters 24 = .ok (.baload, 1) := ckS_g gdX11_voters_0 16 rfl
theorem dX11_voters_25 : decode cX11_voters 25 = .ok (.iconst 2, 1) := ckS_g gdX11_voters_0 17 rfl
theorem dX11_voters_26 : decode cX11_voters 26 = .ok (.if_icmp .ge 7, 3) := ckS_g gdX11_voters_0 18 rfl
theorem dX11_voters_29 : decode cX11_voters 29 = .ok (.iconst 1, 1) := ckS_g gdX11_voters_0 19 rfl
theorem dX11_voters_30 : decode cX11_voters 30 = .ok (.goto 4, 3) := ckS_g gdX11_voters_0 20 rfl
theorem dX11_voters_33 : decode cX11_voters 33 = .ok (.iconst 0, 1) := ckS_g gdX11_voters_0 21 rfl
theorem dX11_voters_34 : decode cX11_voters 34 = .ok (.iadd, 1) := ckS_g gdX11_voters_0 22 rfl
theorem dX11_voters_35 : decode cX11_voters 35 = .ok (.istore_n 2, 1) := ckS_g gdX11_voters_0 23 rfl
theorem dX11_voters_36 : decode cX11_voters 36 = .ok (.iinc 3 1, 3) := ckS_g gdX11_voters_0 24 rfl
theorem dX11_voters_39 : decode cX11_voters 39 = .ok (.goto (-35), 3) := ckS_g gdX11_voters_0 25 rfl
theorem dX11_voters_42 : decode cX11_voters 42 = .ok (.iload_n 2, 1) := ckS_g gdX11_voters_0 26 rfl
theorem dX11_voters_43 : decode cX11_voters 43 = .ok (.ireturn, 1) := ckS_g gdX11_voters_0 27 rfl
set_option maxRecDepth 100000 in
theorem z135 : wZ (.code yX11_voters cX11_voters 4 (some .int)) := ⟨wT6 (List.mem_of_getElem? (i := 88) rfl), Or.inl rfl⟩
def b_X11_voters_34 (S : HS) (x1 x2 x3 y0 y1 : Int32) : (Int32 × HS) ⊕ (HS × Int32 × Int32 × Int32) := Sum.inr (S, x1, (y1 + y0), (x3 + 1))
def q_X11_voters_34 (S : HS) (x1 x2 x3 y0 y1 : Int32) : Prop := True
def st_X11_voters_4 (S : HS) (x1 x2 x3 : Int32) : (Int32 × HS) ⊕ (HS × Int32 × Int32 × Int32) := if (S.1 0) ≤ x3 then Sum.inl ((x2, S)) else if 2 ≤ (S.2 29 ((200 * x1) + x3).toNatClampNeg) then (b_X11_voters_34 S x1 x2 x3 0 x2) else (b_X11_voters_34 S x1 x2 x3 1 x2)
def ps_X11_voters_4 (S : HS) (x1 x2 x3 : Int32) : Prop := (if (S.1 0) ≤ x3 then True else (vp_in ((200 * x1) + x3) 18000) ∧ (if 2 ≤ (S.2 29 ((200 * x1) + x3).toNatClampNeg) then (q_X11_voters_34 S x1 x2 x3 0 x2) else (q_X11_voters_34 S x1 x2 x3 1 x2)))
def lp_X11_voters_4 : Nat → HS → Int32 → Int32 → Int32 → Int32 × HS
  | 0, S, _, _, _ => (0, S)
  | n + 1, S, x1, x2, x3 => match st_X11_voters_4 S x1 x2 x3 with
    | Sum.inl r => r
    | Sum.inr q => lp_X11_voters_4 n q.1 q.2.1 q.2.2.1 q.2.2.2
def lq_X11_voters_4 : Nat → HS → Int32 → Int32 → Int32 → Prop
  | 0, _, _, _, _ => False
  | n + 1, S, x1, x2, x3 => ps_X11_voters_4 S x1 x2 x3 ∧ (match st_X11_voters_4 S x1 x2 x3 with
    | Sum.inl _ => True
    | Sum.inr q => lq_X11_voters_4 n q.1 q.2.1 q.2.2.1 q.2.2.2)
def f_X11_voters (S : HS) (x1 : Int32) : Int32 × HS := (lp_X11_voters_4 100000 S x1 0 0)
def p_X11_voters (S : HS) (x1 : Int32) : Prop := (lq_X11_voters_4 100000 S x1 0 0)
def e_X11_voters : List Cond := [.fieldLink RX11 96 "MotionFloorModel$Hall" "seats" "I", .fieldLink RX11 68 "MotionFloorModel$Hall" "ballot" "[B"]
def v_X11_voters : List Cond := .code yX11_voters cX11_voters 4 (some .int) :: (e_X11_voters ++ (wsX110 ++ []))
theorem te_X11_voters : GoodIn lw_tbl e_X11_voters := wGc z48 (wGc z59 (wG0))
theorem t_X11_voters : GoodIn lw_tbl v_X11_voters := wGc z135 (wGa te_X11_voters (wGa zcX11 (wG0)))
set_option maxHeartbeats 4000000 in
set_option maxRecDepth 100000 in
theorem c_X11_voters (l : Launch) (G : va_G) (K : Nat → ClassId) (h : Nat) (g : Nat → Nat) (S0 : HS) (a1 : Int32) (sz : Nat) : Met l yX11_voters v_X11_voters ({ frames := 0, cells := 0, slots := 0, locals := 0 }) (va_Pc [.ref h, .int a1] (hS G K h g sz S0 (p_X11_voters S0 a1))) (va_Qi (fun (r : Int32) (u : HS) => (r, u) = f_X11_voters S0 a1) (hB G K h g (va_A (hW K h g S0) sz)) (va_A (hW K h g S0) sz)) 0 0 (va_A (hW K h g S0) sz) := by
  refine Met.ofW (cc := cX11_voters) (maxL := 4) (ret := (some .int)) (by decide) rfl ?_
  intro p e s m args below meth c s₁ B hml hv
  obtain ⟨rfl, ⟨hsz, hP, hK, hD0, hTE⟩, hp⟩ := hv
  have hx := B.exec
  have hb := B.bytes
  have hr := B.returns
  have hts := atoms_spec (ws := v_X11_voters) B.pre
  have t_ := t_X11_voters
  have mw : ∀ w ∈ e_X11_voters, w ∈ v_X11_voters := fun w h => List.mem_cons_of_mem _ (List.mem_append_left _ h)
  have hw := fun w (h : w ∈ e_X11_voters) => hts w (mw w h)
  have iX11 : ∀ w ∈ wsX110, w ∈ v_X11_voters := fun w h => List.mem_cons_of_mem _ (List.mem_append_right _ (List.mem_append_left _ h))
  have hown : s.vm.findClass RX11 = some m.cls := findClass_of_methodNamed B.named
  have hlocks := B.notSynchronized
  subst hsz
  have hD := hD0.self (sz := s.heap.size)
  generalize hAe : va_A (hW K h g S0) s.heap.size = A at hD ⊢
  have hA : ∀ q : Nat, s.heap.size ≤ q → A q := fun q h => by rw [← hAe]; exact Or.inr h
  have hS : va_S A s.heap s.heap [] := va_S.rf
  have hl := lv_entry ([.ref h, .int a1]) (n := 4) (Nat.le_of_ble_eq_true rfl)
  rw [lg_entry_eq]
  generalize (lg_sl ([.ref h, .int a1]) ++ List.replicate (4 - (lg_sl ([.ref h, .int a1])).length) Slot.unset).toArray = ls at hl ⊢
  have hl : lv_has ls 4 [(0, .ref h), (1, .int a1)] := hl
  refine wGen (fun Q hQ => ?_)
  obtain ⟨X, hX⟩ : ∃ X, f_X11_voters S0 a1 = X := ⟨_, rfl⟩
  have L_4 : ∀ (n : Nat) (S : HS) (x1 x2 x3 : Int32) (H : Heap) (locs : List Loc) (ls : Array Slot), lp_X11_voters_4 n S x1 x2 x3 = X → lq_X11_voters_4 n S x1 x2 x3 → va_P G vwCl (hW K h g S) H → va_D A (hW K h g S) → va_S A s.heap H locs → lv_has ls 4 [(0, .ref h), (1, .int x1), (2, .int x2), (3, .int x3)] → W p l e ({ frames := 0, cells := 0, slots := 0, locals := 0 } : Room) s m #[Value.ref h, Value.int a1] below meth c H locs 0 0 Q (F0 m 4 ls []) := by
    intro n1
    induction n1 with
    | zero => intro S x1 x2 x3 H locs ls hE hp; exact False.elim hp
    | succ n1 ih1 =>
      intro S x1 x2 x3 H locs ls hO1 hp hP hD hS hl
      rw [lp_X11_voters_4] at hO1
      rw [lq_X11_voters_4] at hp
      obtain ⟨hp, hq1⟩ := hp
      generalize hE : st_X11_voters_4 S x1 x2 x3 = Y1 at hO1 hq1
      unfold st_X11_voters_4 at hE
      unfold ps_X11_voters_4 at hp
      have B_34 : ∀ (S : HS) (x1 x2 x3 y0 y1 : Int32) (H : Heap) (locs : List Loc) (ls : Array Slot), b_X11_voters_34 S x1 x2 x3 y0 y1 = Y1 → q_X11_voters_34 S x1 x2 x3 y0 y1 → va_P G vwCl (hW K h g S) H → va_D A (hW K h g S) → va_S A s.heap H locs → lv_has ls 4 [(0, .ref h), (1, .int x1), (2, .int x2), (3, .int x3)] → W p l e ({ frames := 0, cells := 0, slots := 0, locals := 0 } : Room) s m #[Value.ref h, Value.int a1] below meth c H locs 0 0 Q (F0 m 34 ls [.int y0, .int y1]) := by
        intro S x1 x2 x3 y0 y1 H locs ls hE hp hP hD hS hl
        unfold b_X11_voters_34 at hE
        unfold q_X11_voters_34 at hp
        refine lv_iadd hx hb dX11_voters_34 ?_
        refine lv_istore_n (lv' := [(2, .int (y1 + y0)), (0, .ref h), (1, .int x1), (3, .int x3)]) hx hb dX11_voters_35 rfl hl (by decide) rfl (fun ls hl => ?_)
        refine lv_iinc (v := (x3 + 1)) (lv' := [(3, .int (x3 + 1)), (2, .int (y1 + y0)), (0, .ref h), (1, .int x1)]) hx hb dX11_voters_36 hl (k := 3) rfl rfl (by decide) rfl (fun ls hl => ?_)
        refine lv_goto (tgt := 4) hx hb dX11_voters_39 (by decide) ?_
        subst hE
        dsimp only at hO1 hq1
        exact ih1 S x1 (y1 + y0) (x3 + 1) _ _ _ hO1 hq1 hP hD hS (lv_sub hl [2, 3, 1, 0] rfl)
      refine lv_iload_n hx hb dX11_voters_4 rfl (lv_at hl 3 rfl) ?_
      refine lv_aload_n hx hb dX11_voters_5 rfl (lv_at hl 0 rfl) ?_
      refine va_get (D := G) (ci := 8) (v := .int (S.1 0)) (C := RX11) (T := TX11) (N := 42) hx hb hts iX11 hown hK hP 0 rfl rfl 0 (by decide) (hw (.fieldLink RX11 96 "MotionFloorModel$Hall" "seats" "I") (List.mem_of_getElem? (i := 0) rfl)) (fun _ h9 => h9) rfl dX11_voters_6 ?_
      refine lv_icmp_ge (tgt := 42) hx hb dX11_voters_9 (by decide) (fun c1 => ?_) (fun c1 => ?_)
      · rw [if_pos c1] at hE hp
        subst hE
        have hE := hO1
        dsimp only at hE
        refine lv_iload_n hx hb dX11_voters_42 rfl (lv_at hl 2 rfl) ?_
        subst hQ
        exact W.iret (v := x2) hx hb hr (fun t ht hW => ⟨⟨x2, S, rfl, hE.trans hX.symm, by rw [ht]; exact hP, hD⟩, hS.F ht⟩) hS.2.2 dX11_voters_43
      · rw [if_neg c1] at hE hp
        refine lv_iload_n hx hb dX11_voters_12 rfl (lv_at hl 2 rfl) ?_
        refine lv_aload_n hx hb dX11_voters_13 rfl (lv_at hl 0 rfl) ?_
        refine va_get (D := G) (ci := 8) (v := .ref (g 29)) (C := RX11) (T := TX11) (N := 42) hx hb hts iX11 hown hK hP 0 rfl rfl 29 (by decide) (hw (.fieldLink RX11 68 "MotionFloorModel$Hall" "ballot" "[B") (List.mem_of_getElem? (i := 1) rfl)) (fun _ h9 => h9) rfl dX11_voters_14 ?_
        refine lv_sipush (v := 200) hx hb dX11_voters_17 (by decide) ?_
        refine lv_iload_n hx hb dX11_voters_20 rfl (lv_at hl 1 rfl) ?_
        refine lv_imul hx hb dX11_voters_21 ?_
        refine lv_iload_n hx hb dX11_voters_22 rfl (lv_at hl 3 rfl) ?_
        refine lv_iadd hx hb dX11_voters_23 ?_
        obtain ⟨hy2, hp⟩ := hp
        refine va_bald hx hb hK hP 19 2 rfl rfl hy2 dX11_voters_24 ?_
        refine lv_iconst (v := 2) hx hb dX11_voters_25 (by decide) ?_
        refine lv_icmp_ge (tgt := 33) hx hb dX11_voters_26 (by decide) (fun c3 => ?_) (fun c3 => ?_)
        · rw [if_pos c3] at hE hp
          refine lv_iconst (v := 0) hx hb dX11_voters_33 (by decide) ?_
          exact B_34 S x1 x2 x3 0 x2 _ _ _ hE hp hP hD hS (lv_sub hl [0, 1, 2, 3] rfl)
        · rw [if_neg c3] at hE hp
          refine lv_iconst (v := 1) hx hb dX11_voters_29 (by decide) ?_
          refine lv_goto (tgt := 34) hx hb dX11_voters_30 (by decide) ?_
          exact B_34 S x1 x2 x3 1 x2 _ _ _ hE hp hP hD hS (lv_sub hl [0, 1, 2, 3] rfl)
  have B_M : ∀ (S : HS) (x1 : Int32) (H : Heap) (locs : List Loc) (ls : Array Slot), f_X11_voters S x1 = X → p_X11_voters S x1 → va_P G vwCl (hW K h g S) H → va_D A (hW K h g S) → va_S A s.heap H locs → lv_has ls 4 [(0, .ref h), (1, .int x1)] → W p l e ({ frames := 0, cells := 0, slots := 0, locals := 0 } : Room) s m #[Value.ref h, Value.int a1] below meth c H locs 0 0 Q (F0 m 0 ls []) := by
    intro S x1 H locs ls hE hp hP hD hS hl
    unfold f_X11_voters at hE
    unfold p_X11_voters at hp
    refine lv_iconst (v := 0) hx hb dX11_voters_0 (by decide) ?_
    refine lv_istore_n (lv' := [(2, .int 0), (0, .ref h), (1, .int x1)]) hx hb dX11_voters_1 rfl hl (by decide) rfl (fun ls hl => ?_)
    refine lv_iconst (v := 0) hx hb dX11_voters_2 (by decide) ?_
    refine lv_istore_n (lv' := [(3, .int 0), (2, .int 0), (0, .ref h), (1, .int x1)]) hx hb dX11_voters_3 rfl hl (by decide) rfl (fun ls hl => ?_)
    exact L_4 100000 S x1 0 0 _ _ _ hE hp hP hD hS (lv_sub hl [2, 3, 1, 0] rfl)
  exact B_M S0 a1 _ _ _ hX hp hP hD hS hl
theorem gdX11_dropDraft_0 : ckS (List.drop 0 cX11_dropDraft.data.toList) 0 [(0, .iconst 0, 1), (1, .istore_n 1, 1), (2, .iload_n 1, 1), (3, .aload_n 0, 1), (4, .getfield 130, 3), (7, .if_icmp .ge 21, 3), (10, .aload_n 0, 1), (11, .getfield 19, 3), (14, .aload_n 0, 1), (15, .getfield 75, 3), (18, .iload_n 1, 1), (19, .iaload, 1), (20, .iconst 0, 1), (21, .bastore, 1), (22, .iinc 1 1, 3), (25, .goto (-23), 3), (28, .aload_n 0, 1), (29, .iconst 0, 1), (30, .putfield 130, 3), (33, .return_, 1)] = true := by decide +kernel
theorem dX11_dropDraft_0 : decode cX11_dropDraft 0 = .ok (.iconst 0, 1) := ckS_g gdX11_dropDraft_0 0 rfl
theorem dX11_dropDraft_1 : decode cX11_dropDraft 1 = .ok (.istore_n 1, 1) := ckS_g gdX11_dropDraft_0 1 rfl
theorem dX11_dropDraft_2 : decode cX11_dropDraft 2 = .ok (.iload_n 1, 1) := ckS_g gdX11_dropDraft_0 2 rfl
theorem dX11_dropDraft_3 : decode cX11_dropDraft 3 = .ok (.aload_n 0, 1) := ckS_g gdX11_dropDraft_0 3 rfl
theorem dX11_dropDraft_4 : decode cX11_dropDraft 4 = .ok (.getfield 130, 3) := ckS_g gdX11_dropDraft_0 4 rfl
theorem dX11_dropDraft_7 : decode cX11_dropDraft 7 = .ok (.if_icmp .ge 21, 3) := ckS_g gdX11_dropDraft_0 5 rfl
theorem dX11_dropDraft_10 : decode cX11_dropDraft 10 = .ok (.aload_n 0, 1) := ckS_g gdX11_dropDraft_0 6 rfl
theorem dX11_dropDraft_11 : decode cX11_dropDraft 11 = .ok (.getfield 19, 3) := ckS_g gdX11_dropDraft_0 7 rfl
theorem dX11_dropDraft_14 : decode cX11_dropDraft 14 = .ok (.aload_n 0, 1) := ckS_g gdX11_dropDraft_0 8 rfl
theorem dX11_dropDraft_15 : decode cX11_dropDraft 15 = .ok (.getfield 75, 3) := ckS_g gdX11_dropDraft_0 9 rfl
theorem dX11_dropDraft_18 : decode cX11_dropDraft 18 = .ok (.iload_n 1, 1) := ckS_g gdX11_dropDraft_0 10 rfl
theorem dX11_dropDraft_19 : decode cX11_dropDraft 19 = .ok (.iaload, 1) := ckS_g gdX11_dropDraft_0 11 rfl
theorem dX11_dropDraft_20 : decode cX11_dropDraft 20 = .ok (.iconst 0, 1) := ckS_g gdX11_dropDraft_0 12 rfl
theorem dX11_dropDraft_21 : decode cX11_dropDraft 21 = .ok (.bastore, 1) := ckS_g gdX11_dropDraft_0 13 rfl
theorem dX11_dropDraft_22 : decode cX11_dropDraft 22 = .ok (.iinc 1 1, 3) := ckS_g gdX11_dropDraft_0 14 rfl
theorem dX11_dropDraft_25 : decode cX11_dropDraft 25 = .ok (.goto (-23), 3) := ckS_g gdX11_dropDraft_0 15 rfl
theorem dX11_dropDraft_28 : decode cX11_dropDraft 28 = .ok (.aload_n 0, 1) := ckS_g gdX11_dropDraft_0 16 rfl
theorem dX11_dropDraft_29 : decode cX11_dropDraft 29 = .ok (.iconst 0, 1) := ckS_g gdX11_dropDraft_0 17 rfl
theorem dX11_dropDraft_30 : decode cX11_dropDraft 30 = .ok (.putfield 130, 3) := ckS_g gdX11_dropDraft_0 18 rfl
theorem dX11_dropDraft_33 : decode cX11_dropDraft 33 = .ok (.return_, 1) := ckS_g gdX11_dropDraft_0 19 rfl
set_option maxRecDepth 100000 in
theorem z136 : wZ (.code yX11_dropDraft cX11_dropDraft 2 none) := ⟨wT6 (List.mem_of_getElem? (i := 60) rfl), Or.inl rfl⟩
def st_X11_dropDraft_2 (S : HS) (x1 : Int32) : (Int32 × HS) ⊕ (HS × Int32) := if (S.1 35) ≤ x1 then Sum.inl ((0, (sI S 35 0))) else Sum.inr ((sA S 13 (S.2 32 x1.toNatClampNeg).toNatClampNeg (vp_nar .boolean 0)), (x1 + 1))
def ps_X11_dropDraft_2 (S : HS) (x1 : Int32) : Prop := (if (S.1 35) ≤ x1 then True else (vp_in x1 9) ∧ (vp_in (S.2 32 x1.toNatClampNeg) 90) ∧ True)
def lp_X11_dropDraft_2 : Nat → HS → Int32 → Int32 × HS
  | 0, S, _ => (0, S)
  | n + 1, S, x1 => match st_X11_dropDraft_2 S x1 with
    | Sum.inl r => r
    | Sum.inr q => lp_X11_dropDraft_2 n q.1 q.2
def lq_X11_dropDraft_2 : Nat → HS → Int32 → Prop
  | 0, _, _ => False
  | n + 1, S, x1 => ps_X11_dropDraft_2 S x1 ∧ (match st_X11_dropDraft_2 S x1 with
    | Sum.inl _ => True
    | Sum.inr q => lq_X11_dropDraft_2 n q.1 q.2)
def f_X11_dropDraft (S : HS)  : Int32 × HS := (lp_X11_dropDraft_2 100000 S 0)
def p_X11_dropDraft (S : HS)  : Prop := (lq_X11_dropDraft_2 100000 S 0)
def e_X11_dropDraft : List Cond := [.fieldLink RX11 130 "MotionFloorModel$Hall" "drafted" "I", .fieldLink RX11 19 "MotionFloorModel$Hall" "used" "[Z", .fieldLink RX11 75 "MotionFloorModel$Hall" "draft" "[I"]
def v_X11_dropDraft : List Cond := .code yX11_dropDraft cX11_dropDraft 2 none :: (e_X11_dropDraft ++ (wsX110 ++ []))
theorem te_X11_dropDraft : GoodIn lw_tbl e_X11_dropDraft := wGc z86 (wGc z79 (wGc z84 (wG0)))
theorem t_X11_dropDraft : GoodIn lw_tbl v_X11_dropDraft := wGc z136 (wGa te_X11_dropDraft (wGa zcX11 (wG0)))
set_option maxHeartbeats 4000000 in
set_option maxRecDepth 100000 in
theorem c_X11_dropDraft (l : Launch) (G : va_G) (K : Nat → ClassId) (h : Nat) (g : Nat → Nat) (S0 : HS)  (sz : Nat) : Met l yX11_dropDraft v_X11_dropDraft ({ frames := 0, cells := 0, slots := 0, locals := 0 }) (va_Pc [.ref h] (hS G K h g sz S0 (p_X11_dropDraft S0))) (va_Qv (fun u : HS => (0, u) = f_X11_dropDraft S0) (hB G K h g (va_A (hW K h g S0) sz)) (va_A (hW K h g S0) sz)) 0 0 (va_A (hW K h g S0) sz) := by
  refine Met.ofW (cc := cX11_dropDraft) (maxL := 2) (ret := none) (by decide) rfl ?_
  intro p e s m args below meth c s₁ B hml hv
  obtain ⟨rfl, ⟨hsz, hP, hK, hD0, hTE⟩, hp⟩ := hv
  have hx := B.exec
  have hb := B.bytes
  have hr := B.returns
  have hts := atoms_spec (ws := v_X11_dropDraft) B.pre
  have t_ := t_X11_dropDraft
  have mw : ∀ w ∈ e_X11_dropDraft, w ∈ v_X11_dropDraft := fun w h => List.mem_cons_of_mem _ (List.mem_append_left _ h)
  have hw := fun w (h : w ∈ e_X11_dropDraft) => hts w (mw w h)
  have iX11 : ∀ w ∈ wsX110, w ∈ v_X11_dropDraft := fun w h => List.mem_cons_of_mem _ (List.mem_append_right _ (List.mem_append_left _ h))
  have hown : s.vm.findClass RX11 = some m.cls := findClass_of_methodNamed B.named
  have hlocks := B.notSynchronized
  subst hsz
  have hD := hD0.self (sz := s.heap.size)
  generalize hAe : va_A (hW K h g S0) s.heap.size = A at hD ⊢
  have hA : ∀ q : Nat, s.heap.size ≤ q → A q := fun q h => by rw [← hAe]; exact Or.inr h
  have hS : va_S A s.heap s.heap [] := va_S.rf
  have hl := lv_entry ([.ref h]) (n := 2) (Nat.le_of_ble_eq_true rfl)
  rw [lg_entry_eq]
  generalize (lg_sl ([.ref h]) ++ List.replicate (2 - (lg_sl ([.ref h])).length) Slot.unset).toArray = ls at hl ⊢
  have hl : lv_has ls 2 [(0, .ref h)] := hl
  refine wGen (fun Q hQ => ?_)
  obtain ⟨X, hX⟩ : ∃ X, f_X11_dropDraft S0 = X := ⟨_, rfl⟩
  have L_2 : ∀ (n : Nat) (S : HS) (x1 : Int32) (H : Heap) (locs : List Loc) (ls : Array Slot), lp_X11_dropDraft_2 n S x1 = X → lq_X11_dropDraft_2 n S x1 → va_P G vwCl (hW K h g S) H → va_D A (hW K h g S) → va_S A s.heap H locs → lv_has ls 2 [(0, .ref h), (1, .int x1)] → W p l e ({ frames := 0, cells := 0, slots := 0, locals := 0 } : Room) s m #[Value.ref h] below meth c H locs 0 0 Q (F0 m 2 ls []) := by
    intro n1
    induction n1 with
    | zero => intro S x1 H locs ls hE hp; exact False.elim hp
    | succ n1 ih1 =>
      intro S x1 H locs ls hO1 hp hP hD hS hl
      rw [lp_X11_dropDraft_2] at hO1
      rw [lq_X11_dropDraft_2] at hp
      obtain ⟨hp, hq1⟩ := hp
      generalize hE : st_X11_dropDraft_2 S x1 = Y1 at hO1 hq1
      unfold st_X11_dropDraft_2 at hE
      unfold ps_X11_dropDraft_2 at hp
      refine lv_iload_n hx hb dX11_dropDraft_2 rfl (lv_at hl 1 rfl) ?_
      refine lv_aload_n hx hb dX11_dropDraft_3 rfl (lv_at hl 0 rfl) ?_
      refine va_get (D := G) (ci := 8) (v := .int (S.1 35)) (C := RX11) (T := TX11) (N := 42) hx hb hts iX11 hown hK hP 0 rfl rfl 35 (by decide) (hw (.fieldLink RX11 130 "MotionFloorModel$Hall" "drafted" "I") (List.mem_of_getElem? (i := 0) rfl)) (fun _ h9 => h9) rfl dX11_dropDraft_4 ?_
      refine lv_icmp_ge (tgt := 28) hx hb dX11_dropDraft_7 (by decide) (fun c1 => ?_) (fun c1 => ?_)
      · rw [if_pos c1] at hE hp
        subst hE
        have hE := hO1
        dsimp only at hE
        refine lv_aload_n hx hb dX11_dropDraft_28 rfl (lv_at hl 0 rfl) ?_
        refine lv_iconst (v := 0) hx hb dX11_dropDraft_29 (by decide) ?_
        refine va_put (D := G) (ci := 8) (v := .int 0) (ty := .int) (C := RX11) (T := TX11) (N := 42) hx hb hts iX11 tyX11 tyX11_ok nmX11 hown hK hP hD hS 0 rfl rfl 35 (by decide) (hw (.fieldLink RX11 130 "MotionFloorModel$Hall" "drafted" "I") (List.mem_of_getElem? (i := 0) rfl)) (fun _ h9 => h9) rfl (by decide +kernel) rfl rfl (Nat.le_of_ble_eq_true rfl) dX11_dropDraft_30 (fun H locs hP hD hS => ?_)
        rw [sI_35] at hP hD
        subst hQ
        exact W.vret hx hb hr (fun t ht hW => ⟨⟨(sI S 35 0), rfl, hE.trans hX.symm, by rw [ht]; exact hP, hD⟩, hS.F ht⟩) hS.2.2 dX11_dropDraft_33
      · rw [if_neg c1] at hE hp
        refine lv_aload_n hx hb dX11_dropDraft_10 rfl (lv_at hl 0 rfl) ?_
        refine va_get (D := G) (ci := 8) (v := .ref (g 13)) (C := RX11) (T := TX11) (N := 42) hx hb hts iX11 hown hK hP 0 rfl rfl 13 (by decide) (hw (.fieldLink RX11 19 "MotionFloorModel$Hall" "used" "[Z") (List.mem_of_getElem? (i := 1) rfl)) (fun _ h9 => h9) rfl dX11_dropDraft_11 ?_
        refine lv_aload_n hx hb dX11_dropDraft_14 rfl (lv_at hl 0 rfl) ?_
        refine va_get (D := G) (ci := 8) (v := .ref (g 32)) (C := RX11) (T := TX11) (N := 42) hx hb hts iX11 hown hK hP 0 rfl rfl 32 (by decide) (hw (.fieldLink RX11 75 "MotionFloorModel$Hall" "draft" "[I") (List.mem_of_getElem? (i := 2) rfl)) (fun _ h9 => h9) rfl dX11_dropDraft_15 ?_
        refine lv_iload_n hx hb dX11_dropDraft_18 rfl (lv_at hl 1 rfl) ?_
        obtain ⟨hy2, hp⟩ := hp
        refine va_iald hx hb hK hP 21 0 rfl rfl hy2 dX11_dropDraft_19 ?_
        refine lv_iconst (v := 0) hx hb dX11_dropDraft_20 (by decide) ?_
        obtain ⟨hy3, hp⟩ := hp
        refine va_zast hx hb hK hP hD hS 3 1 rfl rfl hy3 dX11_dropDraft_21 (fun H locs hP hD hS => ?_)
        rw [sA_13] at hP hD
        refine lv_iinc (v := (x1 + 1)) (lv' := [(1, .int (x1 + 1)), (0, .ref h)]) hx hb dX11_dropDraft_22 hl (k := 1) rfl rfl (by decide) rfl (fun ls hl => ?_)
        refine lv_goto (tgt := 2) hx hb dX11_dropDraft_25 (by decide) ?_
        subst hE
        dsimp only at hO1 hq1
        exact ih1 (sA S 13 (S.2 32 x1.toNatClampNeg).toNatClampNeg (vp_nar .boolean 0)) (x1 + 1) _ _ _ hO1 hq1 hP hD hS (lv_sub hl [1, 0] rfl)
  have B_M : ∀ (S : HS) (H : Heap) (locs : List Loc) (ls : Array Slot), f_X11_dropDraft S = X → p_X11_dropDraft S → va_P G vwCl (hW K h g S) H → va_D A (hW K h g S) → va_S A s.heap H locs → lv_has ls 2 [(0, .ref h)] → W p l e ({ frames := 0, cells := 0, slots := 0, locals := 0 } : Room) s m #[Value.ref h] below meth c H locs 0 0 Q (F0 m 0 ls []) := by
    intro S H locs ls hE hp hP hD hS hl
    unfold f_X11_dropDraft at hE
    unfold p_X11_dropDraft at hp
    refine lv_iconst (v := 0) hx hb dX11_dropDraft_0 (by decide) ?_
    refine lv_istore_n (lv' := [(1, .int 0), (0, .ref h)]) hx hb dX11_dropDraft_1 rfl hl (by decide) rfl (fun ls hl => ?_)
    exact L_2 100000 S 0 _ _ _ hE hp hP hD hS (lv_sub hl [1, 0] rfl)
  exact B_M S0 _ _ _ hX hp hP hD hS hl
theorem gdX11_addWord_0 : ckS (List.drop 0 cX11_addWord.data.toList) 0 [(0, .iload_n 1, 1), (1, .ifCond .ne 4, 3), (4, .return_, 1), (5, .aload_n 0, 1), (6, .getfield 75, 3), (9, .iconst 0, 1), (10, .iaload, 1), (11, .istore_n 2, 1), (12, .aload_n 0, 1), (13, .getfield 65, 3), (16, .sipush 400, 3), (19, .iload_n 2, 1), (20, .imul, 1), (21, .aload_n 0, 1), (22, .getfield 37, 3), (25, .iload_n 2, 1), (26, .iaload, 1), (27, .iadd, 1), (28, .iload_n 1, 1), (29, .iastore, 1), (30, .aload_n 0, 1), (31, .getfield 37, 3), (34, .iload_n 2, 1), (35, .dup2, 1), (36, .iaload, 1), (37, .iconst 1, 1), (38, .iadd, 1), (39, .iastore, 1), (40, .return_, 1)] = true := by decide +kernel
theorem dX11_addWord_0 : decode cX11_addWord 0 = .ok (.iload_n 1, 1) := ckS_g gdX11_addWord_0 0 rfl
theorem dX11_addWord_1 : decode cX11_addWord 1 = .ok (.ifCond .ne 4, 3) := ckS_g gdX11_addWord_0 1 rfl
theorem dX11_addWord_4 : decode cX11_addWord 4 = .ok (.return_, 1) := ckS_g gdX11_addWord_0 2 rfl
theorem dX11_addWord_5 : decode cX11_addWord 5 = .ok (.aload_n 0, 1) := ckS_g gdX11_addWord_0 3 rfl
theorem dX11_addWord_6 : decode cX11_addWord 6 = .ok (.getfield 75, 3) := ckS_g gdX11_addWord_0 4 rfl
theorem dX11_addWord_9 : decode cX11_addWord 9 = .ok (.iconst 0, 1) := ckS_g gdX11_addWord_0 5 rfl
theorem dX11_addWord_10 : decode cX11_addWord 10 = .ok (.iaload, 1) := ckS_g gdX11_addWord_0 6 rfl
theorem dX11_addWord_11 : decode cX11_addWord 11 = .ok (.istore_n 2, 1) := ckS_g gdX11_addWord_0 7 rfl
theorem dX11_addWord_12 : decode cX11_addWord 12 = .ok (.aload_n 0, 1) := ckS_g gdX11_addWord_0 8 rfl
theorem dX11_addWord_13 : decode cX11_addWord 13 = .ok (.getfield 65, 3) := ckS_g gdX11_addWord_0 9 rfl
theorem dX11_addWord_16 : decode cX11_addWord 16 = .ok (.sipush 400, 3) := ckS_g gdX11_addWord_0 10 rfl
theorem dX11_addWord_19 : decode cX11_addWord 19 = .ok (.iload_n 2, 1) := ckS_g gdX11_addWord_0 11 rfl
theorem dX11_addWord_20 : decode cX11_addWord 20 = .ok (.imul, 1) := ckS_g gdX11_addWord_0 12 rfl
theorem dX11_addWord_21 : decode cX11_addWord 21 = .ok (.aload_n 0, 1) := ckS_g gdX11_addWord_0 13 rfl
theorem dX11_addWord_22 : decode cX11_addWord 22 = .ok (.getfield 37, 3) := ckS_g gdX11_addWord_0 14 rfl
theorem dX11_addWord_25 : decode cX11_addWord 25 = .ok (.iload_n 2, 1) := ckS_g gdX11_addWord_0 15 rfl
theorem dX11_addWord_26 : decode cX11_addWord 26 = .ok (.iaload, 1) := ckS_g gdX11_addWord_0 16 rfl
theorem dX11_addWord_27 : decode cX11_addWord 27 = .ok (.iadd, 1) := ckS_g gdX11_addWord_0 17 rfl
theorem dX11_addWord_28 : decode cX11_addWord 28 = .ok (.iload_n 1, 1) := ckS_g gdX11_addWord_0 18 rfl
theorem dX11_addWord_29 : decode cX11_addWord 29 = .ok (.iastore, 1) := ckS_g gdX11_addWord_0 19 rfl
theorem dX11_addWord_30 : decode cX11_addWord 30 = .ok (.aload_n 0, 1) := ckS_g gdX11_addWord_0 20 rfl
theorem dX11_addWord_31 : decode cX11_addWord 31 = .ok (.getfield 37, 3) := ckS_g gdX11_addWord_0 21 rfl
theorem dX11_addWord_34 : decode cX11_addWord 34 = .ok (.iload_n 2, 1) := ckS_g gdX11_addWord_0 22 rfl
theorem dX11_addWord_35 : decode cX11_addWord 35 = .ok (.dup2, 1) := ckS_g gdX11_addWord_0 23 rfl
theorem dX11_addWord_36 : decode cX11_addWord 36 = .ok (.iaload, 1) := ckS_g gdX11_addWord_0 24 rfl
theorem dX11_addWord_37 : decode cX11_addWord 37 = .ok (.iconst 1, 1) := ckS_g gdX11_addWord_0 25 rfl
theorem dX11_addWord_38 : decode cX11_addWord 38 = .ok (.iadd, 1) := ckS_g gdX11_addWord_0 26 rfl
theorem dX11_addWord_39 : decode cX11_addWord 39 = .ok (.iastore, 1) := ckS_g gdX11_addWord_0 27 rfl
theorem dX11_addWord_40 : decode cX11_addWord 40 = .ok (.return_, 1) := ckS_g gdX11_addWord_0 28 rfl
set_option maxRecDepth 100000 in
theorem z137 : wZ (.fieldLink RX11 65 "MotionFloorModel$Hall" "text" "[I") := ⟨wT5 (List.mem_of_getElem? (i := 85) (by decide +kernel)), Or.inl rfl⟩
set_option maxRecDepth 100000 in
theorem z138 : wZ (.code yX11_addWord cX11_addWord 3 none) := ⟨wT6 (List.mem_of_getElem? (i := 72) rfl), Or.inl rfl⟩
def f_X11_addWord (S : HS) (x1 : Int32) : Int32 × HS := if x1 = 0 then (0, S) else (0, (sA (sA S 28 ((400 * (S.2 32 (0 : Int32).toNatClampNeg)) + (S.2 19 (S.2 32 (0 : Int32).toNatClampNeg).toNatClampNeg)).toNatClampNeg x1) 19 (S.2 32 (0 : Int32).toNatClampNeg).toNatClampNeg (((sA S 28 ((400 * (S.2 32 (0 : Int32).toNatClampNeg)) + (S.2 19 (S.2 32 (0 : Int32).toNatClampNeg).toNatClampNeg)).toNatClampNeg x1).2 19 (S.2 32 (0 : Int32).toNatClampNeg).toNatClampNeg) + 1)))
def p_X11_addWord (S : HS) (x1 : Int32) : Prop := (if x1 = 0 then True else (vp_in 0 9) ∧ (vp_in (S.2 32 (0 : Int32).toNatClampNeg) 90) ∧ (vp_in ((400 * (S.2 32 (0 : Int32).toNatClampNeg)) + (S.2 19 (S.2 32 (0 : Int32).toNatClampNeg).toNatClampNeg)) 36000) ∧ (vp_in (S.2 32 (0 : Int32).toNatClampNeg) 90) ∧ (vp_in (S.2 32 (0 : Int32).toNatClampNeg) 90) ∧ True)
def e_X11_addWord : List Cond := [.fieldLink RX11 75 "MotionFloorModel$Hall" "draft" "[I", .fieldLink RX11 65 "MotionFloorModel$Hall" "text" "[I", .fieldLink RX11 37 "MotionFloorModel$Hall" "words" "[I"]
def v_X11_addWord : List Cond := .code yX11_addWord cX11_addWord 3 none :: (e_X11_addWord ++ (wsX110 ++ []))
theorem te_X11_addWord : GoodIn lw_tbl e_X11_addWord := wGc z84 (wGc z137 (wGc z76 (wG0)))
theorem t_X11_addWord : GoodIn lw_tbl v_X11_addWord := wGc z138 (wGa te_X11_addWord (wGa zcX11 (wG0)))
set_option maxHeartbeats 4000000 in
set_option maxRecDepth 100000 in
theorem c_X11_addWord (l : Launch) (G : va_G) (K : Nat → ClassId) (h : Nat) (g : Nat → Nat) (S0 : HS) (a1 : Int32) (sz : Nat) : Met l yX11_addWord v_X11_addWord ({ frames := 0, cells := 0, slots := 0, locals := 0 }) (va_Pc [.ref h, .int a1] (hS G K h g sz S0 (p_X11_addWord S0 a1))) (va_Qv (fun u : HS => (0, u) = f_X11_addWord S0 a1) (hB G K h g (va_A (hW K h g S0) sz)) (va_A (hW K h g S0) sz)) 0 0 (va_A (hW K h g S0) sz) := by
  refine Met.ofW (cc := cX11_addWord) (maxL := 3) (ret := none) (by decide) rfl ?_
  intro p e s m args below meth c s₁ B hml hv
  obtain ⟨rfl, ⟨hsz, hP, hK, hD0, hTE⟩, hp⟩ := hv
  have hx := B.exec
  have hb := B.bytes
  have hr := B.returns
  have hts := atoms_spec (ws := v_X11_addWord) B.pre
  have t_ := t_X11_addWord
  have mw : ∀ w ∈ e_X11_addWord, w ∈ v_X11_addWord := fun w h => List.mem_cons_of_mem _ (List.mem_append_left _ h)
  have hw := fun w (h : w ∈ e_X11_addWord) => hts w (mw w h)
  have iX11 : ∀ w ∈ wsX110, w ∈ v_X11_addWord := fun w h => List.mem_cons_of_mem _ (List.mem_append_right _ (List.mem_append_left _ h))
  have hown : s.vm.findClass RX11 = some m.cls := findClass_of_methodNamed B.named
  have hlocks := B.notSynchronized
  subst hsz
  have hD := hD0.self (sz := s.heap.size)
  generalize hAe : va_A (hW K h g S0) s.heap.size = A at hD ⊢
  have hA : ∀ q : Nat, s.heap.size ≤ q → A q := fun q h => by rw [← hAe]; exact Or.inr h
  have hS : va_S A s.heap s.heap [] := va_S.rf
  have hl := lv_entry ([.ref h, .int a1]) (n := 3) (Nat.le_of_ble_eq_true rfl)
  rw [lg_entry_eq]
  generalize (lg_sl ([.ref h, .int a1]) ++ List.replicate (3 - (lg_sl ([.ref h, .int a1])).length) Slot.unset).toArray = ls at hl ⊢
  have hl : lv_has ls 3 [(0, .ref h), (1, .int a1)] := hl
  refine wGen (fun Q hQ => ?_)
  obtain ⟨X, hX⟩ : ∃ X, f_X11_addWord S0 a1 = X := ⟨_, rfl⟩
  have B_M : ∀ (S : HS) (x1 : Int32) (H : Heap) (locs : List Loc) (ls : Array Slot), f_X11_addWord S x1 = X → p_X11_addWord S x1 → va_P G vwCl (hW K h g S) H → va_D A (hW K h g S) → va_S A s.heap H locs → lv_has ls 3 [(0, .ref h), (1, .int x1)] → W p l e ({ frames := 0, cells := 0, slots := 0, locals := 0 } : Room) s m #[Value.ref h, Value.int a1] below meth c H locs 0 0 Q (F0 m 0 ls []) := by
    intro S x1 H locs ls hE hp hP hD hS hl
    unfold f_X11_addWord at hE
    unfold p_X11_addWord at hp
    refine lv_iload_n hx hb dX11_addWord_0 rfl (lv_at hl 1 rfl) ?_
    refine lv_if_ne (tgt := 5) hx hb dX11_addWord_1 (by decide) (fun c1 => ?_) (fun c1 => ?_)
    · rw [if_neg c1] at hE hp
      refine lv_aload_n hx hb dX11_addWord_5 rfl (lv_at hl 0 rfl) ?_
      refine va_get (D := G) (ci := 8) (v := .ref (g 32)) (C := RX11) (T := TX11) (N := 42) hx hb hts iX11 hown hK hP 0 rfl rfl 32 (by decide) (hw (.fieldLink RX11 75 "MotionFloorModel$Hall" "draft" "[I") (List.mem_of_getElem? (i := 0) rfl)) (fun _ h9 => h9) rfl dX11_addWord_6 ?_
      refine lv_iconst (v := 0) hx hb dX11_addWord_9 (by decide) ?_
      obtain ⟨hy2, hp⟩ := hp
      refine va_iald hx hb hK hP 21 0 rfl rfl hy2 dX11_addWord_10 ?_
      refine lv_istore_n (lv' := [(2, .int (S.2 32 (0 : Int32).toNatClampNeg)), (0, .ref h), (1, .int x1)]) hx hb dX11_addWord_11 rfl hl (by decide) rfl (fun ls hl => ?_)
      refine lv_aload_n hx hb dX11_addWord_12 rfl (lv_at hl 1 rfl) ?_
      refine va_get (D := G) (ci := 8) (v := .ref (g 28)) (C := RX11) (T := TX11) (N := 42) hx hb hts iX11 hown hK hP 0 rfl rfl 28 (by decide) (hw (.fieldLink RX11 65 "MotionFloorModel$Hall" "text" "[I") (List.mem_of_getElem? (i := 1) rfl)) (fun _ h9 => h9) rfl dX11_addWord_13 ?_
      refine lv_sipush (v := 400) hx hb dX11_addWord_16 (by decide) ?_
      refine lv_iload_n hx hb dX11_addWord_19 rfl (lv_at hl 0 rfl) ?_
      refine lv_imul hx hb dX11_addWord_20 ?_
      refine lv_aload_n hx hb dX11_addWord_21 rfl (lv_at hl 1 rfl) ?_
      refine va_get (D := G) (ci := 8) (v := .ref (g 19)) (C := RX11) (T := TX11) (N := 42) hx hb hts iX11 hown hK hP 0 rfl rfl 19 (by decide) (hw (.fieldLink RX11 37 "MotionFloorModel$Hall" "words" "[I") (List.mem_of_getElem? (i := 2) rfl)) (fun _ h9 => h9) rfl dX11_addWord_22 ?_
      refine lv_iload_n hx hb dX11_addWord_25 rfl (lv_at hl 0 rfl) ?_
      obtain ⟨hy3, hp⟩ := hp
      refine va_iald hx hb hK hP 9 0 rfl rfl hy3 dX11_addWord_26 ?_
      refine lv_iadd hx hb dX11_addWord_27 ?_
      refine lv_iload_n hx hb dX11_addWord_28 rfl (lv_at hl 2 rfl) ?_
      obtain ⟨hy4, hp⟩ := hp
      refine va_iast hx hb hK hP hD hS 18 0 rfl rfl hy4 dX11_addWord_29 (fun H locs hP hD hS => ?_)
      rw [sA_28] at hP hD
      refine lv_aload_n hx hb dX11_addWord_30 rfl (lv_at hl 1 rfl) ?_
      refine va_get (D := G) (ci := 8) (v := .ref (g 19)) (C := RX11) (T := TX11) (N := 42) hx hb hts iX11 hown hK hP 0 rfl rfl 19 (by decide) (hw (.fieldLink RX11 37 "MotionFloorModel$Hall" "words" "[I") (List.mem_of_getElem? (i := 2) rfl)) (fun _ h9 => h9) rfl dX11_addWord_31 ?_
      refine lv_iload_n hx hb dX11_addWord_34 rfl (lv_at hl 0 rfl) ?_
      refine lv_dup2_11 hx hb dX11_addWord_35 rfl rfl ?_
      obtain ⟨hy5, hp⟩ := hp
      refine va_iald hx hb hK hP 9 0 rfl rfl hy5 dX11_addWord_36 ?_
      refine lv_iconst (v := 1) hx hb dX11_addWord_37 (by decide) ?_
      refine lv_iadd hx hb dX11_addWord_38 ?_
      obtain ⟨hy6, hp⟩ := hp
      refine va_iast hx hb hK hP hD hS 9 0 rfl rfl hy6 dX11_addWord_39 (fun H locs hP hD hS => ?_)
      rw [sA_19] at hP hD
      subst hQ
      exact W.vret hx hb hr (fun t ht hW => ⟨⟨(sA (sA S 28 ((400 * (S.2 32 (0 : Int32).toNatClampNeg)) + (S.2 19 (S.2 32 (0 : Int32).toNatClampNeg).toNatClampNeg)).toNatClampNeg x1) 19 (S.2 32 (0 : Int32).toNatClampNeg).toNatClampNeg (((sA S 28 ((400 * (S.2 32 (0 : Int32).toNatClampNeg)) + (S.2 19 (S.2 32 (0 : Int32).toNatClampNeg).toNatClampNeg)).toNatClampNeg x1).2 19 (S.2 32 (0 : Int32).toNatClampNeg).toNatClampNeg) + 1)), rfl, hE.trans hX.symm, by rw [ht]; exact hP, hD⟩, hS.F ht⟩) hS.2.2 dX11_addWord_40
    · rw [if_pos c1] at hE hp
      subst hQ
      exact W.vret hx hb hr (fun t ht hW => ⟨⟨S, rfl, hE.trans hX.symm, by rw [ht]; exact hP, hD⟩, hS.F ht⟩) hS.2.2 dX11_addWord_4
  exact B_M S0 a1 _ _ _ hX hp hP hD hS hl
theorem gdX11_goes_0 : ckS (List.drop 0 cX11_goes.data.toList) 0 [(0, .aload_n 0, 1), (1, .getfield 19, 3), (4, .aload_n 0, 1), (5, .invokevirtual 155, 3), (8, .iconst 0, 1), (9, .bastore, 1), (10, .aload_n 0, 1), (11, .dup, 1), (12, .getfield 115, 3), (15, .iconst 1, 1), (16, .isub, 1), (17, .putfield 115, 3), (20, .return_, 1)] = true := by decide +kernel
theorem dX11_goes_0 : decode cX11_goes 0 = .ok (.aload_n 0, 1) := ckS_g gdX11_goes_0 0 rfl
theorem dX11_goes_1 : decode cX11_goes 1 = .ok (.getfield 19, 3) := ckS_g gdX11_goes_0 1 rfl
theorem dX11_goes_4 : decode cX11_goes 4 = .ok (.aload_n 0, 1) := ckS_g gdX11_goes_0 2 rfl
theorem dX11_goes_5 : decode cX11_goes 5 = .ok (.invokevirtual 155, 3) := ckS_g gdX11_goes_0 3 rfl
theorem dX11_goes_8 : decode cX11_goes 8 = .ok (.iconst 0, 1) := ckS_g gdX11_goes_0 4 rfl
theorem dX11_goes_9 : decode cX11_goes 9 = .ok (.bastore, 1) := ckS_g gdX11_goes_0 5 rfl
theorem dX11_goes_10 : decode cX11_goes 10 = .ok (.aload_n 0, 1) := ckS_g gdX11_goes_0 6 rfl
theorem dX11_goes_11 : decode cX11_goes 11 = .ok (.dup, 1) := ckS_g gdX11_goes_0 7 rfl
theorem dX11_goes_12 : decode cX11_goes 12 = .ok (.getfield 115, 3) := ckS_g gdX11_goes_0 8 rfl
theorem dX11_goes_15 : decode cX11_goes 15 = .ok (.iconst 1, 1) := ckS_g gdX11_goes_0 9 rfl
theorem dX11_goes_16 : decode cX11_goes 16 = .ok (.isub, 1) := ckS_g gdX11_goes_0 10 rfl
theorem dX11_goes_17 : decode cX11_goes 17 = .ok (.putfield 115, 3) := ckS_g gdX11_goes_0 11 rfl
theorem dX11_goes_20 : decode cX11_goes 20 = .ok (.return_, 1) := ckS_g gdX11_goes_0 12 rfl
set_option maxRecDepth 100000 in
theorem z139 : wZ (.code yX11_goes cX11_goes 1 none) := ⟨wT6 (List.mem_of_getElem? (i := 92) rfl), Or.inl rfl⟩
def b_X11_goes_a8 (S : HS) (y0 : Int32) : Int32 × HS := (0, (sI (sA S 13 y0.toNatClampNeg (vp_nar .boolean 0)) 6 (((sA S 13 y0.toNatClampNeg (vp_nar .boolean 0)).1 6) - 1)))
def q_X11_goes_a8 (S : HS) (y0 : Int32) : Prop := (vp_in y0 90) ∧ True
def f_X11_goes (S : HS)  : Int32 × HS := (b_X11_goes_a8 (f_X11_top S ).2 (f_X11_top S ).1)
def p_X11_goes (S : HS)  : Prop := (p_X11_top S ) ∧ (q_X11_goes_a8 (f_X11_top S ).2 (f_X11_top S ).1)
def e_X11_goes : List Cond := [.fieldLink RX11 19 "MotionFloorModel$Hall" "used" "[Z", .methodLink RX11 155 yX11_top, .instanceMethod yX11_top, .selects RX11 yX11_top yX11_top, .initialized RX11, .fieldLink RX11 115 "MotionFloorModel$Hall" "pending" "I"]
def v_X11_goes : List Cond := .code yX11_goes cX11_goes 1 none :: (e_X11_goes ++ (wsX110 ++ (v_X11_top ++ [])))
theorem te_X11_goes : GoodIn lw_tbl e_X11_goes := wGc z79 (wGc z91 (wGc z90 (wGc z89 (wGc z51 (wGc z56 (wG0))))))
theorem t_X11_goes : GoodIn lw_tbl v_X11_goes := wGc z139 (wGa te_X11_goes (wGa zcX11 (wGa t_X11_top (wG0))))
set_option maxHeartbeats 4000000 in
set_option maxRecDepth 100000 in
theorem c_X11_goes (l : Launch) (G : va_G) (K : Nat → ClassId) (h : Nat) (g : Nat → Nat) (S0 : HS)  (sz : Nat) : Met l yX11_goes v_X11_goes ({ frames := 1, cells := 0, slots := 0, locals := 20 }) (va_Pc [.ref h] (hS G K h g sz S0 (p_X11_goes S0))) (va_Qv (fun u : HS => (0, u) = f_X11_goes S0) (hB G K h g (va_A (hW K h g S0) sz)) (va_A (hW K h g S0) sz)) 0 0 (va_A (hW K h g S0) sz) := by
  refine Met.ofW (cc := cX11_goes) (maxL := 1) (ret := none) (by decide) rfl ?_
  intro p e s m args below meth c s₁ B hml hv
  obtain ⟨rfl, ⟨hsz, hP, hK, hD0, hTE⟩, hp⟩ := hv
  have hx := B.exec
  have hb := B.bytes
  have hr := B.returns
  have hts := atoms_spec (ws := v_X11_goes) B.pre
  have t_ := t_X11_goes
  have mw : ∀ w ∈ e_X11_goes, w ∈ v_X11_goes := fun w h => List.mem_cons_of_mem _ (List.mem_append_left _ h)
  have hw := fun w (h : w ∈ e_X11_goes) => hts w (mw w h)
  have iX11 : ∀ w ∈ wsX110, w ∈ v_X11_goes := fun w h => List.mem_cons_of_mem _ (List.mem_append_right _ (List.mem_append_left _ h))
  have j_X11_top : ∀ w ∈ v_X11_top, w ∈ v_X11_goes := fun w h => List.mem_cons_of_mem _ (List.mem_append_right _ (List.mem_append_right _ (List.mem_append_left _ h)))
  have hown : s.vm.findClass RX11 = some m.cls := findClass_of_methodNamed B.named
  have hlocks := B.notSynchronized
  subst hsz
  have hD := hD0.self (sz := s.heap.size)
  generalize hAe : va_A (hW K h g S0) s.heap.size = A at hD ⊢
  have hA : ∀ q : Nat, s.heap.size ≤ q → A q := fun q h => by rw [← hAe]; exact Or.inr h
  have hS : va_S A s.heap s.heap [] := va_S.rf
  have hl := lv_entry ([.ref h]) (n := 1) (Nat.le_of_ble_eq_true rfl)
  rw [lg_entry_eq]
  generalize (lg_sl ([.ref h]) ++ List.replicate (1 - (lg_sl ([.ref h])).length) Slot.unset).toArray = ls at hl ⊢
  have hl : lv_has ls 1 [(0, .ref h)] := hl
  refine wGen (fun Q hQ => ?_)
  obtain ⟨X, hX⟩ : ∃ X, f_X11_goes S0 = X := ⟨_, rfl⟩
  have B_M : ∀ (S : HS) (H : Heap) (locs : List Loc) (ls : Array Slot), f_X11_goes S = X → p_X11_goes S → va_P G vwCl (hW K h g S) H → va_D A (hW K h g S) → va_S A s.heap H locs → lv_has ls 1 [(0, .ref h)] → W p l e ({ frames := 1, cells := 0, slots := 0, locals := 20 } : Room) s m #[Value.ref h] below meth c H locs 0 0 Q (F0 m 0 ls []) := by
    intro S H locs ls hE hp hP hD hS hl
    unfold f_X11_goes at hE
    unfold p_X11_goes at hp
    refine lv_aload_n hx hb dX11_goes_0 rfl (lv_at hl 0 rfl) ?_
    refine va_get (D := G) (ci := 8) (v := .ref (g 13)) (C := RX11) (T := TX11) (N := 42) hx hb hts iX11 hown hK hP 0 rfl rfl 13 (by decide) (hw (.fieldLink RX11 19 "MotionFloorModel$Hall" "used" "[Z") (List.mem_of_getElem? (i := 0) rfl)) (fun _ h9 => h9) rfl dX11_goes_1 ?_
    refine lv_aload_n hx hb dX11_goes_4 rfl (lv_at hl 0 rfl) ?_
    obtain ⟨hy1, hp⟩ := hp
    refine hGoi (va_runV (As := []) (rest := [.ref (g 13)]) ⟨hx, hb, hml, hown, hts⟩ (c_X11_top l G K h g S _) (cwV 0 hts (wGV t_ (mw (.methodLink RX11 155 yX11_top) (List.mem_of_getElem? (i := 1) rfl)) (mw (.instanceMethod yX11_top) (List.mem_of_getElem? (i := 2) rfl)) (mw (.selects RX11 yX11_top yX11_top) (List.mem_of_getElem? (i := 3) rfl)) (mw (.initialized RX11) (List.mem_of_getElem? (i := 4) rfl)) j_X11_top) rfl rfl rfl (by decide +kernel) ⟨Nat.le_of_ble_eq_true rfl, Nat.le_of_ble_eq_true rfl⟩) (hPV hK hTE hP hD hy1) rfl rfl hl.1 rfl (lv_room (Nat.le_of_ble_eq_true rfl)) dX11_goes_5 ⟨Nat.le_of_ble_eq_true rfl, Nat.le_of_ble_eq_true rfl⟩) hP hD hS hA (fun r3 u2 H locs hv hP hD hS => ?_)
    rw [← hv] at hE hp
    dsimp only at hE hp
    unfold b_X11_goes_a8 at hE
    unfold q_X11_goes_a8 at hp
    refine lv_iconst (v := 0) hx hb dX11_goes_8 (by decide) ?_
    obtain ⟨hy4, hp⟩ := hp
    refine va_zast hx hb hK hP hD hS 3 1 rfl rfl hy4 dX11_goes_9 (fun H locs hP hD hS => ?_)
    rw [sA_13] at hP hD
    refine lv_aload_n hx hb dX11_goes_10 rfl (lv_at hl 0 rfl) ?_
    refine lv_dup hx hb dX11_goes_11 rfl ?_
    refine va_get (D := G) (ci := 8) (v := .int ((sA u2 13 r3.toNatClampNeg (vp_nar .boolean 0)).1 6)) (C := RX11) (T := TX11) (N := 42) hx hb hts iX11 hown hK hP 0 rfl rfl 6 (by decide) (hw (.fieldLink RX11 115 "MotionFloorModel$Hall" "pending" "I") (List.mem_of_getElem? (i := 5) rfl)) (fun _ h9 => h9) rfl dX11_goes_12 ?_
    refine lv_iconst (v := 1) hx hb dX11_goes_15 (by decide) ?_
    refine lv_isub hx hb dX11_goes_16 ?_
    refine va_put (D := G) (ci := 8) (v := .int (((sA u2 13 r3.toNatClampNeg (vp_nar .boolean 0)).1 6) - 1)) (ty := .int) (C := RX11) (T := TX11) (N := 42) hx hb hts iX11 tyX11 tyX11_ok nmX11 hown hK hP hD hS 0 rfl rfl 6 (by decide) (hw (.fieldLink RX11 115 "MotionFloorModel$Hall" "pending" "I") (List.mem_of_getElem? (i := 5) rfl)) (fun _ h9 => h9) rfl (by decide +kernel) rfl rfl (Nat.le_of_ble_eq_true rfl) dX11_goes_17 (fun H locs hP hD hS => ?_)
    rw [sI_6] at hP hD
    subst hQ
    exact W.vret hx hb hr (fun t ht hW => ⟨⟨(sI (sA u2 13 r3.toNatClampNeg (vp_nar .boolean 0)) 6 (((sA u2 13 r3.toNatClampNeg (vp_nar .boolean 0)).1 6) - 1)), rfl, hE.trans hX.symm, by rw [ht]; exact hP, hD⟩, hS.F ht⟩) hS.2.2 dX11_goes_20
  exact B_M S0 _ _ _ hX hp hP hD hS hl
theorem gdX11_lay_0 : ckS (List.drop 0 cX11_lay.data.toList) 0 [(0, .aload_n 0, 1), (1, .getfield 75, 3), (4, .iconst 0, 1), (5, .iaload, 1), (6, .istore_n 2, 1), (7, .aload_n 0, 1), (8, .getfield 151, 3), (11, .ifCond .ne 54, 3), (14, .aload_n 0, 1), (15, .getfield 55, 3), (18, .iload_n 2, 1), (19, .baload, 1), (20, .ifCond .ne 38, 3), (23, .aload_n 0, 1), (24, .getfield 22, 3), (27, .iload_n 2, 1), (28, .iaload, 1), (29, .iconst 2, 1), (30, .if_icmp .eq 13, 3), (33, .aload_n 0, 1), (34, .getfield 22, 3), (37, .iload_n 2, 1), (38, .iaload, 1), (39, .iconst 3, 1), (40, .if_icmp .ne 18, 3), (43, .aload_n 0, 1), (44, .getfield 49, 3), (47, .iload_n 2, 1), (48, .aload_n 0, 1), (49, .getfield 46, 3), (52, .aload_n 0, 1), (53, .invokevirtual 155, 3), (56, .iaload, 1), (57, .iastore, 1), (58, .aload_n 0, 1), (59, .getfield 55, 3), (62, .iload_n 2, 1), (63, .iconst 1, 1), (64, .bastore, 1), (65, .iconst 0, 1)] = true := by decide +kernel
theorem dX11_lay_0 : decode cX11_lay 0 = .ok (.aload_n 0, 1) := ckS_g gdX11_lay_0 0 rfl
theorem dX11_lay_1 : decode cX11_lay 1 = .ok (.getfield 75, 3) := ckS_g gdX11_lay_0 1 rfl
theorem dX11_lay_4 : decode cX11_lay 4 = .ok (.iconst 0, 1) := ckS_g gdX11_lay_0 2 rfl
theorem dX11_lay_5 : decode cX11_lay 5 = .ok (.iaload, 1) := ckS_g gdX11_lay_0 3 rfl
theorem dX11_lay_6 : decode cX11_lay 6 = .ok (.istore_n 2, 1) := ckS_g gdX11_lay_0 4 rfl
theorem dX11_lay_7 : decode cX11_lay 7 = .ok (.aload_n 0, 1) := ckS_g gdX11_lay_0 5 rfl
theorem dX11_lay_8 : decode cX11_lay 8 = .ok (.getfield 151, 3) := ckS_g gdX11_lay_0 6 rfl
theorem dX11_lay_11 : decode cX11_lay 11 = .ok (.ifCond .ne 54, 3) := ckS_g gdX11_lay_0 7 rfl
theorem dX11_lay_14 : decode cX11_lay 14 = .ok (.aload_n 0, 1) := ckS_g gdX11_lay_0 8 rfl
theorem dX11_lay_15 : decode cX11_lay 15 = .ok (.getfield 55, 3) := ckS_g gdX11_lay_0 9 rfl
theorem dX11_lay_18 : decode cX11_lay 18 = .ok (.iload_n 2, 1) := ckS_g gdX11_lay_0 10 rfl
theorem dX11_lay_19 : decode cX11_lay 19 = .ok (.baload, 1) := ckS_g gdX11_lay_0 11 rfl
theorem dX11_lay_20 : decode cX11_lay 20 = .ok (.ifCond .ne 38, 3) := ckS_g gdX11_lay_0 12 rfl
theorem dX11_lay_23 : decode cX11_lay 23 = .ok (.aload_n 0, 1) := ckS_g gdX11_lay_0 13 rfl
theorem dX11_lay_24 : decode cX11_lay 24 = .ok (.getfield 22, 3) := ckS_g gdX11_lay_0 14 rfl
theorem dX11_lay_27 : decode cX11_lay 27 = .ok (.iload_n 2, 1) := ckS_g gdX11_lay_0 15 rfl
theorem dX11_lay_28 : decode cX11_lay 28 = .ok (.iaload, 1) := ckS_g gdX11_lay_0 16 rfl
theorem dX11_lay_29 : decode cX11_lay 29 = .ok (.iconst 2, 1) := ckS_g gdX11_lay_0 17 rfl
theorem dX11_lay_30 : decode cX11_lay 30 = .ok (.if_icmp .eq 13, 3) := ckS_g gdX11_lay_0 18 rfl
theorem dX11_lay_33 : decode cX11_lay 33 = .ok (.aload_n 0, 1) := ckS_g gdX11_lay_0 19 rfl
theorem dX11_lay_34 : decode cX11_lay 34 = .ok (.getfield 22, 3) := ckS_g gdX11_lay_0 20 rfl
theorem dX11_lay_37 : decode cX11_lay 37 = .ok (.iload_n 2, 1) := ckS_g gdX11_lay_0 21 rfl
theorem dX11_lay_38 : decode cX11_lay 38 = .ok (.iaload, 1) := ckS_g gdX11_lay_0 22 rfl
theorem dX11_lay_39 : decode cX11_lay 39 = .ok (.iconst 3, 1) := ckS_g gdX11_lay_0 23 rfl
theorem dX11_lay_40 : decode cX11_lay 40 = .ok (.if_icmp .ne 18, 3) := ckS_g gdX11_lay_0 24 rfl
theorem dX11_lay_43 : decode cX11_lay 43 = .ok (.aload_n 0, 1) := ckS_g gdX11_lay_0 25 rfl
theorem dX11_lay_44 : decode cX11_lay 44 = .ok (.getfield 49, 3) := ckS_g gdX11_lay_0 26 rfl
theorem dX11_lay_47 : decode cX11_lay 47 = .ok (.iload_n 2, 1) := ckS_g gdX11_lay_0 27 rfl
theorem dX11_lay_48 : decode cX11_lay 48 = .ok (.aload_n 0, 1) := ckS_g gdX11_lay_0 28 rfl
theorem dX11_lay_49 : decode cX11_lay 49 = .ok (.getfield 46, 3) := ckS_g gdX11_lay_0 29 rfl
theorem dX11_lay_52 : decode cX11_lay 52 = .ok (.aload_n 0, 1) := ckS_g gdX11_lay_0 30 rfl
theorem dX11_lay_53 : decode cX11_lay 53 = .ok (.invokevirtual 155, 3) := ckS_g gdX11_lay_0 31 rfl
theorem dX11_lay_56 : decode cX11_lay 56 = .ok (.iaload, 1) := ckS_g gdX11_lay_0 32 rfl
theorem dX11_lay_57 : decode cX11_lay 57 = .ok (.iastore, 1) := ckS_g gdX11_lay_0 33 rfl
theorem dX11_lay_58 : decode cX11_lay 58 = .ok (.aload_n 0, 1) := ckS_g gdX11_lay_0 34 rfl
theorem dX11_lay_59 : decode cX11_lay 59 = .ok (.getfield 55, 3) := ckS_g gdX11_lay_0 35 rfl
theorem dX11_lay_62 : decode cX11_lay 62 = .ok (.iload_n 2, 1) := ckS_g gdX11_lay_0 36 rfl
theorem dX11_lay_63 : decode cX11_lay 63 = .ok (.iconst 1, 1) := ckS_g gdX11_lay_0 37 rfl
theorem dX11_lay_64 : decode cX11_lay 64 = .ok (.bastore, 1) := ckS_g gdX11_lay_0 38 rfl
theorem dX11_lay_65 : decode cX11_lay 65 = .ok (.iconst 0, 1) := ckS_g gdX11_lay_0 39 rfl
theorem gdX11_lay_66 : ckS (List.drop 66 cX11_lay.data.toList) 66 [(66, .istore_n 3, 1), (67, .iload_n 3, 1), (68, .aload_n 0, 1), (69, .getfield 130, 3), (72, .if_icmp .ge 26, 3), (75, .aload_n 0, 1), (76, .getfield 78, 3), (79, .bipush 9, 2), (81, .iload_n 1, 1), (82, .imul, 1), (83, .iload_n 3, 1), (84, .iadd, 1), (85, .aload_n 0, 1), (86, .getfield 75, 3), (89, .iload_n 3, 1), (90, .iaload, 1), (91, .iastore, 1), (92, .iinc 3 1, 3), (95, .goto (-28), 3), (98, .aload_n 0, 1), (99, .getfield 81, 3), (102, .iload_n 1, 1), (103, .aload_n 0, 1), (104, .getfield 130, 3), (107, .iastore, 1), (108, .aload_n 0, 1), (109, .getfield 84, 3), (112, .iload_n 1, 1), (113, .aload_n 0, 1), (114, .getfield 151, 3), (117, .bastore, 1), (118, .aload_n 0, 1), (119, .iconst 0, 1), (120, .putfield 130, 3), (123, .iload_n 1, 1), (124, .ireturn, 1)] = true := by decide +kernel
theorem dX11_lay_66 : decode cX11_lay 66 = .ok (.istore_n 3, 1) := ckS_g gdX11_lay_66 0 rfl
theorem dX11_lay_67 : decode cX11_lay 67 = .ok (.iload_n 3, 1) := ckS_g gdX11_lay_66 1 rfl
theorem dX11_lay_68 : decode cX11_lay 68 = .ok (.aload_n 0, 1) := ckS_g gdX11_lay_66 2 rfl
theorem dX11_lay_69 : decode cX11_lay 69 = .ok (.getfield 130, 3) := ckS_g gdX11_lay_66 3 rfl
theorem dX11_lay_72 : decode cX11_lay 72 = .ok (.if_icmp .ge 26, 3) := ckS_g gdX11_lay_66 4 rfl
theorem dX11_lay_75 : decode cX11_lay 75 = .ok (.aload_n 0, 1) := ckS_g gdX11_lay_66 5 rfl
theorem dX11_lay_76 : decode cX11_lay 76 = .ok (.getfield 78, 3) := ckS_g gdX11_lay_66 6 rfl
theorem dX11_lay_79 : decode cX11_lay 79 = .ok (.bipush 9, 2) := ckS_g gdX11_lay_66 7 rfl
theorem dX11_lay_81 : decode cX11_lay 81 = .ok (.iload_n 1, 1) := ckS_g gdX11_lay_66 8 rfl
theorem dX11_lay_82 : decode cX11_lay 82 = .ok (.imul, 1) := ckS_g gdX11_lay_66 9 rfl
theorem dX11_lay_83 : decode cX11_lay 83 = .ok (.iload_n 3, 1) := ckS_g gdX11_lay_66 10 rfl
theorem dX11_lay_84 : decode cX11_lay 84 = .ok (.iadd, 1) := ckS_g gdX11_lay_66 11 rfl
theorem dX11_lay_85 : decode cX11_lay 85 = .ok (.aload_n 0, 1) := ckS_g gdX11_lay_66 12 rfl
theorem dX11_lay_86 : decode cX11_lay 86 = .ok (.getfield 75, 3) := ckS_g gdX11_lay_66 13 rfl
theorem dX11_lay_89 : decode cX11_lay 89 = .ok (.iload_n 3, 1) := ckS_g gdX11_lay_66 14 rfl
theorem dX11_lay_90 : decode cX11_lay 90 = .ok (.iaload, 1) := ckS_g gdX11_lay_66 15 rfl
theorem dX11_lay_91 : decode cX11_lay 91 = .ok (.iastore, 1) := ckS_g gdX11_lay_66 16 rfl
theorem dX11_lay_92 : decode cX11_lay 92 = .ok (.iinc 3 1, 3) := ckS_g gdX11_lay_66 17 rfl
theorem dX11_lay_95 : decode cX11_lay 95 = .ok (.goto (-28), 3) := ckS_g gdX11_lay_66 18 rfl
theorem dX11_lay_98 : decode cX11_lay 98 = .ok (.aload_n 0, 1) := ckS_g gdX11_lay_66 19 rfl
theorem dX11_lay_99 : decode cX11_lay 99 = .ok (.getfield 81, 3) := ckS_g gdX11_lay_66 20 rfl
theorem dX11_lay_102 : decode cX11_lay 102 = .ok (.iload_n 1, 1) := ckS_g gdX11_lay_66 21 rfl
theorem dX11_lay_103 : decode cX11_lay 103 = .ok (.aload_n 0, 1) := ckS_g gdX11_lay_66 22 rfl
theorem dX11_lay_104 : decode cX11_lay 104 = .ok (.getfield 130, 3) := ckS_g gdX11_lay_66 23 rfl
theorem dX11_lay_107 : decode cX11_lay 107 = .ok (.iastore, 1) := ckS_g gdX11_lay_66 24 rfl
theorem dX11_lay_108 : decode cX11_lay 108 = .ok (.aload_n 0, 1) := ckS_g gdX11_lay_66 25 rfl
theorem dX11_lay_109 : decode cX11_lay 109 = .ok (.getfield 84, 3) := ckS_g gdX11_lay_66 26 rfl
theorem dX11_lay_112 : decode cX11_lay 112 = .ok (.iload_n 1, 1) := ckS_g gdX11_lay_66 27 rfl
theorem dX11_lay_113 : decode cX11_lay 113 = .ok (.aload_n 0, 1) := ckS_g gdX11_lay_66 28 rfl
theorem dX11_lay_114 : decode cX11_lay 114 = .ok (.getfield 151, 3) := ckS_g gdX11_lay_66 29 rfl
theorem dX11_lay_117 : decode cX11_lay 117 = .ok (.bastore, 1) := ckS_g gdX11_lay_66 30 rfl
theorem dX11_lay_118 : decode cX11_lay 118 = .ok (.aload_n 0, 1) := ckS_g gdX11_lay_66 31 rfl
theorem dX11_lay_119 : decode cX11_lay 119 = .ok (.iconst 0, 1) := ckS_g gdX11_lay_66 32 rfl
theorem dX11_lay_120 : decode cX11_lay 120 = .ok (.putfield 130, 3) := ckS_g gdX11_lay_66 33 rfl
theorem dX11_lay_123 : decode cX11_lay 123 = .ok (.iload_n 1, 1) := ckS_g gdX11_lay_66 34 rfl
theorem dX11_lay_124 : decode cX11_lay 124 = .ok (.ireturn, 1) := ckS_g gdX11_lay_66 35 rfl
set_option maxRecDepth 100000 in
theorem z140 : wZ (.fieldLink RX11 78 "MotionFloorModel$Hall" "desk" "[I") := ⟨wT5 (List.mem_of_getElem? (i := 94) (by decide +kernel)), Or.inl rfl⟩
set_option maxRecDepth 100000 in
theorem z141 : wZ (.fieldLink RX11 84 "MotionFloorModel$Hall" "tabled" "[Z") := ⟨wT5 (List.mem_of_getElem? (i := 102) (by decide +kernel)), Or.inl rfl⟩
set_option maxRecDepth 100000 in
theorem z142 : wZ (.code yX11_lay cX11_lay 4 (some .int)) := ⟨wT6 (List.mem_of_getElem? (i := 76) rfl), Or.inl rfl⟩
def st_X11_lay_67 (S : HS) (x1 x2 x3 : Int32) : (Int32 × HS) ⊕ (HS × Int32 × Int32 × Int32) := if (S.1 35) ≤ x3 then Sum.inl ((x1, (sI (sA (sA S 34 x1.toNatClampNeg (S.1 35)) 37 x1.toNatClampNeg (vp_nar .boolean ((sA S 34 x1.toNatClampNeg (S.1 35)).1 36))) 35 0))) else Sum.inr ((sA S 33 ((9 * x1) + x3).toNatClampNeg (S.2 32 x3.toNatClampNeg)), x1, x2, (x3 + 1))
def ps_X11_lay_67 (S : HS) (x1 x2 x3 : Int32) : Prop := (if (S.1 35) ≤ x3 then (vp_in x1 8) ∧ (vp_in x1 8) ∧ True else (vp_in x3 9) ∧ (vp_in ((9 * x1) + x3) 72) ∧ True)
def lp_X11_lay_67 : Nat → HS → Int32 → Int32 → Int32 → Int32 × HS
  | 0, S, _, _, _ => (0, S)
  | n + 1, S, x1, x2, x3 => match st_X11_lay_67 S x1 x2 x3 with
    | Sum.inl r => r
    | Sum.inr q => lp_X11_lay_67 n q.1 q.2.1 q.2.2.1 q.2.2.2
def lq_X11_lay_67 : Nat → HS → Int32 → Int32 → Int32 → Prop
  | 0, _, _, _, _ => False
  | n + 1, S, x1, x2, x3 => ps_X11_lay_67 S x1 x2 x3 ∧ (match st_X11_lay_67 S x1 x2 x3 with
    | Sum.inl _ => True
    | Sum.inr q => lq_X11_lay_67 n q.1 q.2.1 q.2.2.1 q.2.2.2)
def b_X11_lay_65 (S : HS) (x1 x2 : Int32) : Int32 × HS := (lp_X11_lay_67 100000 S x1 x2 0)
def q_X11_lay_65 (S : HS) (x1 x2 : Int32) : Prop := (lq_X11_lay_67 100000 S x1 x2 0)
def b_X11_lay_58 (S : HS) (x1 x2 : Int32) : Int32 × HS := (b_X11_lay_65 (sA S 25 x2.toNatClampNeg (vp_nar .boolean 1)) x1 x2)
def q_X11_lay_58 (S : HS) (x1 x2 : Int32) : Prop := (vp_in x2 90) ∧ (q_X11_lay_65 (sA S 25 x2.toNatClampNeg (vp_nar .boolean 1)) x1 x2)
def b_X11_lay_a56 (S : HS) (x1 x2 y0 y1 : Int32) : Int32 × HS := (b_X11_lay_58 (sA S 23 y1.toNatClampNeg (S.2 22 y0.toNatClampNeg)) x1 x2)
def q_X11_lay_a56 (S : HS) (x1 x2 y0 y1 : Int32) : Prop := (vp_in y0 90) ∧ (vp_in y1 90) ∧ (q_X11_lay_58 (sA S 23 y1.toNatClampNeg (S.2 22 y0.toNatClampNeg)) x1 x2)
def b_X11_lay_43 (S : HS) (x1 x2 : Int32) : Int32 × HS := (b_X11_lay_a56 (f_X11_top S ).2 x1 x2 (f_X11_top S ).1 x2)
def q_X11_lay_43 (S : HS) (x1 x2 : Int32) : Prop := (p_X11_top S ) ∧ (q_X11_lay_a56 (f_X11_top S ).2 x1 x2 (f_X11_top S ).1 x2)
def f_X11_lay (S : HS) (x1 : Int32) : Int32 × HS := if (S.1 36) = 0 then if (S.2 25 (S.2 32 (0 : Int32).toNatClampNeg).toNatClampNeg) = 0 then if (S.2 14 (S.2 32 (0 : Int32).toNatClampNeg).toNatClampNeg) = 2 then (b_X11_lay_43 S x1 (S.2 32 (0 : Int32).toNatClampNeg)) else if (S.2 14 (S.2 32 (0 : Int32).toNatClampNeg).toNatClampNeg) = 3 then (b_X11_lay_43 S x1 (S.2 32 (0 : Int32).toNatClampNeg)) else (b_X11_lay_58 S x1 (S.2 32 (0 : Int32).toNatClampNeg)) else (b_X11_lay_58 S x1 (S.2 32 (0 : Int32).toNatClampNeg)) else (b_X11_lay_65 S x1 (S.2 32 (0 : Int32).toNatClampNeg))
def p_X11_lay (S : HS) (x1 : Int32) : Prop := (vp_in 0 9) ∧ (if (S.1 36) = 0 then (vp_in (S.2 32 (0 : Int32).toNatClampNeg) 90) ∧ (if (S.2 25 (S.2 32 (0 : Int32).toNatClampNeg).toNatClampNeg) = 0 then (vp_in (S.2 32 (0 : Int32).toNatClampNeg) 90) ∧ (if (S.2 14 (S.2 32 (0 : Int32).toNatClampNeg).toNatClampNeg) = 2 then (q_X11_lay_43 S x1 (S.2 32 (0 : Int32).toNatClampNeg)) else (vp_in (S.2 32 (0 : Int32).toNatClampNeg) 90) ∧ (if (S.2 14 (S.2 32 (0 : Int32).toNatClampNeg).toNatClampNeg) = 3 then (q_X11_lay_43 S x1 (S.2 32 (0 : Int32).toNatClampNeg)) else (q_X11_lay_58 S x1 (S.2 32 (0 : Int32).toNatClampNeg)))) else (q_X11_lay_58 S x1 (S.2 32 (0 : Int32).toNatClampNeg))) else (q_X11_lay_65 S x1 (S.2 32 (0 : Int32).toNatClampNeg)))
def e_X11_lay : List Cond := [.fieldLink RX11 75 "MotionFloorModel$Hall" "draft" "[I", .fieldLink RX11 151 "MotionFloorModel$Hall" "draftTabled" "Z", .fieldLink RX11 130 "MotionFloorModel$Hall" "drafted" "I", .fieldLink RX11 81 "MotionFloorModel$Hall" "lying" "[I", .fieldLink RX11 84 "MotionFloorModel$Hall" "tabled" "[Z", .fieldLink RX11 78 "MotionFloorModel$Hall" "desk" "[I", .fieldLink RX11 55 "MotionFloorModel$Hall" "laid" "[Z", .fieldLink RX11 22 "MotionFloorModel$Hall" "kind" "[I", .fieldLink RX11 49 "MotionFloorModel$Hall" "subject" "[I", .fieldLink RX11 46 "MotionFloorModel$Hall" "self" "[I", .methodLink RX11 155 yX11_top, .instanceMethod yX11_top, .selects RX11 yX11_top yX11_top, .initialized RX11]
def v_X11_lay : List Cond := .code yX11_lay cX11_lay 4 (some .int) :: (e_X11_lay ++ (wsX110 ++ (v_X11_top ++ [])))
theorem te_X11_lay : GoodIn lw_tbl e_X11_lay := wGc z84 (wGc z85 (wGc z86 (wGc z81 (wGc z141 (wGc z140 (wGc z72 (wGc z78 (wGc z73 (wGc z63 (wGc z91 (wGc z90 (wGc z89 (wGc z51 (wG0))))))))))))))
theorem t_X11_lay : GoodIn lw_tbl v_X11_lay := wGc z142 (wGa te_X11_lay (wGa zcX11 (wGa t_X11_top (wG0))))
set_option maxHeartbeats 4000000 in
set_option maxRecDepth 100000 in
theorem c_X11_lay (l : Launch) (G : va_G) (K : Nat → ClassId) (h : Nat) (g : Nat → Nat) (S0 : HS) (a1 : Int32) (sz : Nat) : Met l yX11_lay v_X11_lay ({ frames := 1, cells := 0, slots := 0, locals := 20 }) (va_Pc [.ref h, .int a1] (hS G K h g sz S0 (p_X11_lay S0 a1))) (va_Qi (fun (r : Int32) (u : HS) => (r, u) = f_X11_lay S0 a1) (hB G K h g (va_A (hW K h g S0) sz)) (va_A (hW K h g S0) sz)) 0 0 (va_A (hW K h g S0) sz) := by
  refine Met.ofW (cc := cX11_lay) (maxL := 4) (ret := (some .int)) (by decide) rfl ?_
  intro p e s m args below meth c s₁ B hml hv
  obtain ⟨rfl, ⟨hsz, hP, hK, hD0, hTE⟩, hp⟩ := hv
  have hx := B.exec
  have hb := B.bytes
  have hr := B.returns
  have hts := atoms_spec (ws := v_X11_lay) B.pre
  have t_ := t_X11_lay
  have mw : ∀ w ∈ e_X11_lay, w ∈ v_X11_lay := fun w h => List.mem_cons_of_mem _ (List.mem_append_left _ h)
  have hw := fun w (h : w ∈ e_X11_lay) => hts w (mw w h)
  have iX11 : ∀ w ∈ wsX110, w ∈ v_X11_lay := fun w h => List.mem_cons_of_mem _ (List.mem_append_right _ (List.mem_append_left _ h))
  have j_X11_top : ∀ w ∈ v_X11_top, w ∈ v_X11_lay := fun w h => List.mem_cons_of_mem _ (List.mem_append_right _ (List.mem_append_right _ (List.mem_append_left _ h)))
  have hown : s.vm.findClass RX11 = some m.cls := findClass_of_methodNamed B.named
  have hlocks := B.notSynchronized
  subst hsz
  have hD := hD0.self (sz := s.heap.size)
  generalize hAe : va_A (hW K h g S0) s.heap.size = A at hD ⊢
  have hA : ∀ q : Nat, s.heap.size ≤ q → A q := fun q h => by rw [← hAe]; exact Or.inr h
  have hS : va_S A s.heap s.heap [] := va_S.rf
  have hl := lv_entry ([.ref h, .int a1]) (n := 4) (Nat.le_of_ble_eq_true rfl)
  rw [lg_entry_eq]
  generalize (lg_sl ([.ref h, .int a1]) ++ List.replicate (4 - (lg_sl ([.ref h, .int a1])).length) Slot.unset).toArray = ls at hl ⊢
  have hl : lv_has ls 4 [(0, .ref h), (1, .int a1)] := hl
  refine wGen (fun Q hQ => ?_)
  obtain ⟨X, hX⟩ : ∃ X, f_X11_lay S0 a1 = X := ⟨_, rfl⟩
  have L_67 : ∀ (n : Nat) (S : HS) (x1 x2 x3 : Int32) (H : Heap) (locs : List Loc) (ls : Array Slot), lp_X11_lay_67 n S x1 x2 x3 = X → lq_X11_lay_67 n S x1 x2 x3 → va_P G vwCl (hW K h g S) H → va_D A (hW K h g S) → va_S A s.heap H locs → lv_has ls 4 [(0, .ref h), (1, .int x1), (2, .int x2), (3, .int x3)] → W p l e ({ frames := 1, cells := 0, slots := 0, locals := 20 } : Room) s m #[Value.ref h, Value.int a1] below meth c H locs 0 0 Q (F0 m 67 ls []) := by
    intro n1
    induction n1 with
    | zero => intro S x1 x2 x3 H locs ls hE hp; exact False.elim hp
    | succ n1 ih1 =>
      intro S x1 x2 x3 H locs ls hO1 hp hP hD hS hl
      rw [lp_X11_lay_67] at hO1
      rw [lq_X11_lay_67] at hp
      obtain ⟨hp, hq1⟩ := hp
      generalize hE : st_X11_lay_67 S x1 x2 x3 = Y1 at hO1 hq1
      unfold st_X11_lay_67 at hE
      unfold ps_X11_lay_67 at hp
      refine lv_iload_n hx hb dX11_lay_67 rfl (lv_at hl 3 rfl) ?_
      refine lv_aload_n hx hb dX11_lay_68 rfl (lv_at hl 0 rfl) ?_
      refine va_get (D := G) (ci := 8) (v := .int (S.1 35)) (C := RX11) (T := TX11) (N := 42) hx hb hts iX11 hown hK hP 0 rfl rfl 35 (by decide) (hw (.fieldLink RX11 130 "MotionFloorModel$Hall" "drafted" "I") (List.mem_of_getElem? (i := 2) rfl)) (fun _ h9 => h9) rfl dX11_lay_69 ?_
      refine lv_icmp_ge (tgt := 98) hx hb dX11_lay_72 (by decide) (fun c3 => ?_) (fun c3 => ?_)
      · rw [if_pos c3] at hE hp
        subst hE
        have hE := hO1
        dsimp only at hE
        refine lv_aload_n hx hb dX11_lay_98 rfl (lv_at hl 0 rfl) ?_
        refine va_get (D := G) (ci := 8) (v := .ref (g 34)) (C := RX11) (T := TX11) (N := 42) hx hb hts iX11 hown hK hP 0 rfl rfl 34 (by decide) (hw (.fieldLink RX11 81 "MotionFloorModel$Hall" "lying" "[I") (List.mem_of_getElem? (i := 3) rfl)) (fun _ h9 => h9) rfl dX11_lay_99 ?_
        refine lv_iload_n hx hb dX11_lay_102 rfl (lv_at hl 1 rfl) ?_
        refine lv_aload_n hx hb dX11_lay_103 rfl (lv_at hl 0 rfl) ?_
        refine va_get (D := G) (ci := 8) (v := .int (S.1 35)) (C := RX11) (T := TX11) (N := 42) hx hb hts iX11 hown hK hP 0 rfl rfl 35 (by decide) (hw (.fieldLink RX11 130 "MotionFloorModel$Hall" "drafted" "I") (List.mem_of_getElem? (i := 2) rfl)) (fun _ h9 => h9) rfl dX11_lay_104 ?_
        obtain ⟨hy4, hp⟩ := hp
        refine va_iast hx hb hK hP hD hS 23 0 rfl rfl hy4 dX11_lay_107 (fun H locs hP hD hS => ?_)
        rw [sA_34] at hP hD
        refine lv_aload_n hx hb dX11_lay_108 rfl (lv_at hl 0 rfl) ?_
        refine va_get (D := G) (ci := 8) (v := .ref (g 37)) (C := RX11) (T := TX11) (N := 42) hx hb hts iX11 hown hK hP 0 rfl rfl 37 (by decide) (hw (.fieldLink RX11 84 "MotionFloorModel$Hall" "tabled" "[Z") (List.mem_of_getElem? (i := 4) rfl)) (fun _ h9 => h9) rfl dX11_lay_109 ?_
        refine lv_iload_n hx hb dX11_lay_112 rfl (lv_at hl 1 rfl) ?_
        refine lv_aload_n hx hb dX11_lay_113 rfl (lv_at hl 0 rfl) ?_
        refine va_get (D := G) (ci := 8) (v := .int ((sA S 34 x1.toNatClampNeg (S.1 35)).1 36)) (C := RX11) (T := TX11) (N := 42) hx hb hts iX11 hown hK hP 0 rfl rfl 36 (by decide) (hw (.fieldLink RX11 151 "MotionFloorModel$Hall" "draftTabled" "Z") (List.mem_of_getElem? (i := 1) rfl)) (fun _ h9 => h9) rfl dX11_lay_114 ?_
        obtain ⟨hy5, hp⟩ := hp
        refine va_zast hx hb hK hP hD hS 24 1 rfl rfl hy5 dX11_lay_117 (fun H locs hP hD hS => ?_)
        rw [sA_37] at hP hD
        refine lv_aload_n hx hb dX11_lay_118 rfl (lv_at hl 0 rfl) ?_
        refine lv_iconst (v := 0) hx hb dX11_lay_119 (by decide) ?_
        refine va_put (D := G) (ci := 8) (v := .int 0) (ty := .int) (C := RX11) (T := TX11) (N := 42) hx hb hts iX11 tyX11 tyX11_ok nmX11 hown hK hP hD hS 0 rfl rfl 35 (by decide) (hw (.fieldLink RX11 130 "MotionFloorModel$Hall" "drafted" "I") (List.mem_of_getElem? (i := 2) rfl)) (fun _ h9 => h9) rfl (by decide +kernel) rfl rfl (Nat.le_of_ble_eq_true rfl) dX11_lay_120 (fun H locs hP hD hS => ?_)
        rw [sI_35] at hP hD
        refine lv_iload_n hx hb dX11_lay_123 rfl (lv_at hl 1 rfl) ?_
        subst hQ
        exact W.iret (v := x1) hx hb hr (fun t ht hW => ⟨⟨x1, (sI (sA (sA S 34 x1.toNatClampNeg (S.1 35)) 37 x1.toNatClampNeg (vp_nar .boolean ((sA S 34 x1.toNatClampNeg (S.1 35)).1 36))) 35 0), rfl, hE.trans hX.symm, by rw [ht]; exact hP, hD⟩, hS.F ht⟩) hS.2.2 dX11_lay_124
      · rw [if_neg c3] at hE hp
        refine lv_aload_n hx hb dX11_lay_75 rfl (lv_at hl 0 rfl) ?_
        refine va_get (D := G) (ci := 8) (v := .ref (g 33)) (C := RX11) (T := TX11) (N := 42) hx hb hts iX11 hown hK hP 0 rfl rfl 33 (by decide) (hw (.fieldLink RX11 78 "MotionFloorModel$Hall" "desk" "[I") (List.mem_of_getElem? (i := 5) rfl)) (fun _ h9 => h9) rfl dX11_lay_76 ?_
        refine lv_bipush (v := 9) hx hb dX11_lay_79 (by decide) ?_
        refine lv_iload_n hx hb dX11_lay_81 rfl (lv_at hl 1 rfl) ?_
        refine lv_imul hx hb dX11_lay_82 ?_
        refine lv_iload_n hx hb dX11_lay_83 rfl (lv_at hl 3 rfl) ?_
        refine lv_iadd hx hb dX11_lay_84 ?_
        refine lv_aload_n hx hb dX11_lay_85 rfl (lv_at hl 0 rfl) ?_
        refine va_get (D := G) (ci := 8) (v := .ref (g 32)) (C := RX11) (T := TX11) (N := 42) hx hb hts iX11 hown hK hP 0 rfl rfl 32 (by decide) (hw (.fieldLink RX11 75 "MotionFloorModel$Hall" "draft" "[I") (List.mem_of_getElem? (i := 0) rfl)) (fun _ h9 => h9) rfl dX11_lay_86 ?_
        refine lv_iload_n hx hb dX11_lay_89 rfl (lv_at hl 3 rfl) ?_
        obtain ⟨hy6, hp⟩ := hp
        refine va_iald hx hb hK hP 21 0 rfl rfl hy6 dX11_lay_90 ?_
        obtain ⟨hy7, hp⟩ := hp
        refine va_iast hx hb hK hP hD hS 22 0 rfl rfl hy7 dX11_lay_91 (fun H locs hP hD hS => ?_)
        rw [sA_33] at hP hD
        refine lv_iinc (v := (x3 + 1)) (lv' := [(3, .int (x3 + 1)), (0, .ref h), (1, .int x1), (2, .int x2)]) hx hb dX11_lay_92 hl (k := 3) rfl rfl (by decide) rfl (fun ls hl => ?_)
        refine lv_goto (tgt := 67) hx hb dX11_lay_95 (by decide) ?_
        subst hE
        dsimp only at hO1 hq1
        exact ih1 (sA S 33 ((9 * x1) + x3).toNatClampNeg (S.2 32 x3.toNatClampNeg)) x1 x2 (x3 + 1) _ _ _ hO1 hq1 hP hD hS (lv_sub hl [1, 2, 3, 0] rfl)
  have B_65 : ∀ (S : HS) (x1 x2 : Int32) (H : Heap) (locs : List Loc) (ls : Array Slot), b_X11_lay_65 S x1 x2 = X → q_X11_lay_65 S x1 x2 → va_P G vwCl (hW K h g S) H → va_D A (hW K h g S) → va_S A s.heap H locs → lv_has ls 4 [(0, .ref h), (1, .int x1), (2, .int x2)] → W p l e ({ frames := 1, cells := 0, slots := 0, locals := 20 } : Room) s m #[Value.ref h, Value.int a1] below meth c H locs 0 0 Q (F0 m 65 ls []) := by
    intro S x1 x2 H locs ls hE hp hP hD hS hl
    unfold b_X11_lay_65 at hE
    unfold q_X11_lay_65 at hp
    refine lv_iconst (v := 0) hx hb dX11_lay_65 (by decide) ?_
    refine lv_istore_n (lv' := [(3, .int 0), (0, .ref h), (1, .int x1), (2, .int x2)]) hx hb dX11_lay_66 rfl hl (by decide) rfl (fun ls hl => ?_)
    exact L_67 100000 S x1 x2 0 _ _ _ hE hp hP hD hS (lv_sub hl [1, 2, 3, 0] rfl)
  have B_58 : ∀ (S : HS) (x1 x2 : Int32) (H : Heap) (locs : List Loc) (ls : Array Slot), b_X11_lay_58 S x1 x2 = X → q_X11_lay_58 S x1 x2 → va_P G vwCl (hW K h g S) H → va_D A (hW K h g S) → va_S A s.heap H locs → lv_has ls 4 [(0, .ref h), (1, .int x1), (2, .int x2)] → W p l e ({ frames := 1, cells := 0, slots := 0, locals := 20 } : Room) s m #[Value.ref h, Value.int a1] below meth c H locs 0 0 Q (F0 m 58 ls []) := by
    intro S x1 x2 H locs ls hE hp hP hD hS hl
    unfold b_X11_lay_58 at hE
    unfold q_X11_lay_58 at hp
    refine lv_aload_n hx hb dX11_lay_58 rfl (lv_at hl 0 rfl) ?_
    refine va_get (D := G) (ci := 8) (v := .ref (g 25)) (C := RX11) (T := TX11) (N := 42) hx hb hts iX11 hown hK hP 0 rfl rfl 25 (by decide) (hw (.fieldLink RX11 55 "MotionFloorModel$Hall" "laid" "[Z") (List.mem_of_getElem? (i := 6) rfl)) (fun _ h9 => h9) rfl dX11_lay_59 ?_
    refine lv_iload_n hx hb dX11_lay_62 rfl (lv_at hl 2 rfl) ?_
    refine lv_iconst (v := 1) hx hb dX11_lay_63 (by decide) ?_
    obtain ⟨hy10, hp⟩ := hp
    refine va_zast hx hb hK hP hD hS 15 1 rfl rfl hy10 dX11_lay_64 (fun H locs hP hD hS => ?_)
    rw [sA_25] at hP hD
    exact B_65 (sA S 25 x2.toNatClampNeg (vp_nar .boolean 1)) x1 x2 _ _ _ hE hp hP hD hS (lv_sub hl [0, 1, 2] rfl)
  have B_43 : ∀ (S : HS) (x1 x2 : Int32) (H : Heap) (locs : List Loc) (ls : Array Slot), b_X11_lay_43 S x1 x2 = X → q_X11_lay_43 S x1 x2 → va_P G vwCl (hW K h g S) H → va_D A (hW K h g S) → va_S A s.heap H locs → lv_has ls 4 [(0, .ref h), (1, .int x1), (2, .int x2)] → W p l e ({ frames := 1, cells := 0, slots := 0, locals := 20 } : Room) s m #[Value.ref h, Value.int a1] below meth c H locs 0 0 Q (F0 m 43 ls []) := by
    intro S x1 x2 H locs ls hE hp hP hD hS hl
    unfold b_X11_lay_43 at hE
    unfold q_X11_lay_43 at hp
    refine lv_aload_n hx hb dX11_lay_43 rfl (lv_at hl 0 rfl) ?_
    refine va_get (D := G) (ci := 8) (v := .ref (g 23)) (C := RX11) (T := TX11) (N := 42) hx hb hts iX11 hown hK hP 0 rfl rfl 23 (by decide) (hw (.fieldLink RX11 49 "MotionFloorModel$Hall" "subject" "[I") (List.mem_of_getElem? (i := 8) rfl)) (fun _ h9 => h9) rfl dX11_lay_44 ?_
    refine lv_iload_n hx hb dX11_lay_47 rfl (lv_at hl 2 rfl) ?_
    refine lv_aload_n hx hb dX11_lay_48 rfl (lv_at hl 0 rfl) ?_
    refine va_get (D := G) (ci := 8) (v := .ref (g 22)) (C := RX11) (T := TX11) (N := 42) hx hb hts iX11 hown hK hP 0 rfl rfl 22 (by decide) (hw (.fieldLink RX11 46 "MotionFloorModel$Hall" "self" "[I") (List.mem_of_getElem? (i := 9) rfl)) (fun _ h9 => h9) rfl dX11_lay_49 ?_
    refine lv_aload_n hx hb dX11_lay_52 rfl (lv_at hl 0 rfl) ?_
    obtain ⟨hy13, hp⟩ := hp
    refine hGoi (va_runV (As := []) (rest := [.ref (g 22), .int x2, .ref (g 23)]) ⟨hx, hb, hml, hown, hts⟩ (c_X11_top l G K h g S _) (cwV 0 hts (wGV t_ (mw (.methodLink RX11 155 yX11_top) (List.mem_of_getElem? (i := 10) rfl)) (mw (.instanceMethod yX11_top) (List.mem_of_getElem? (i := 11) rfl)) (mw (.selects RX11 yX11_top yX11_top) (List.mem_of_getElem? (i := 12) rfl)) (mw (.initialized RX11) (List.mem_of_getElem? (i := 13) rfl)) j_X11_top) rfl rfl rfl (by decide +kernel) ⟨Nat.le_of_ble_eq_true rfl, Nat.le_of_ble_eq_true rfl⟩) (hPV hK hTE hP hD hy13) rfl rfl hl.1 rfl (lv_room (Nat.le_of_ble_eq_true rfl)) dX11_lay_53 ⟨Nat.le_of_ble_eq_true rfl, Nat.le_of_ble_eq_true rfl⟩) hP hD hS hA (fun r15 u14 H locs hv hP hD hS => ?_)
    rw [← hv] at hE hp
    dsimp only at hE hp
    unfold b_X11_lay_a56 at hE
    unfold q_X11_lay_a56 at hp
    obtain ⟨hy16, hp⟩ := hp
    refine va_iald hx hb hK hP 12 0 rfl rfl hy16 dX11_lay_56 ?_
    obtain ⟨hy17, hp⟩ := hp
    refine va_iast hx hb hK hP hD hS 13 0 rfl rfl hy17 dX11_lay_57 (fun H locs hP hD hS => ?_)
    rw [sA_23] at hP hD
    exact B_58 (sA u14 23 x2.toNatClampNeg (u14.2 22 r15.toNatClampNeg)) x1 x2 _ _ _ hE hp hP hD hS (lv_sub hl [0, 1, 2] rfl)
  have B_M : ∀ (S : HS) (x1 : Int32) (H : Heap) (locs : List Loc) (ls : Array Slot), f_X11_lay S x1 = X → p_X11_lay S x1 → va_P G vwCl (hW K h g S) H → va_D A (hW K h g S) → va_S A s.heap H locs → lv_has ls 4 [(0, .ref h), (1, .int x1)] → W p l e ({ frames := 1, cells := 0, slots := 0, locals := 20 } : Room) s m #[Value.ref h, Value.int a1] below meth c H locs 0 0 Q (F0 m 0 ls []) := by
    intro S x1 H locs ls hE hp hP hD hS hl
    unfold f_X11_lay at hE
    unfold p_X11_lay at hp
    refine lv_aload_n hx hb dX11_lay_0 rfl (lv_at hl 0 rfl) ?_
    refine va_get (D := G) (ci := 8) (v := .ref (g 32)) (C := RX11) (T := TX11) (N := 42) hx hb hts iX11 hown hK hP 0 rfl rfl 32 (by decide) (hw (.fieldLink RX11 75 "MotionFloorModel$Hall" "draft" "[I") (List.mem_of_getElem? (i := 0) rfl)) (fun _ h9 => h9) rfl dX11_lay_1 ?_
    refine lv_iconst (v := 0) hx hb dX11_lay_4 (by decide) ?_
    obtain ⟨hy1, hp⟩ := hp
    refine va_iald hx hb hK hP 21 0 rfl rfl hy1 dX11_lay_5 ?_
    refine lv_istore_n (lv' := [(2, .int (S.2 32 (0 : Int32).toNatClampNeg)), (0, .ref h), (1, .int x1)]) hx hb dX11_lay_6 rfl hl (by decide) rfl (fun ls hl => ?_)
    refine lv_aload_n hx hb dX11_lay_7 rfl (lv_at hl 1 rfl) ?_
    refine va_get (D := G) (ci := 8) (v := .int (S.1 36)) (C := RX11) (T := TX11) (N := 42) hx hb hts iX11 hown hK hP 0 rfl rfl 36 (by decide) (hw (.fieldLink RX11 151 "MotionFloorModel$Hall" "draftTabled" "Z") (List.mem_of_getElem? (i := 1) rfl)) (fun _ h9 => h9) rfl dX11_lay_8 ?_
    refine lv_if_ne (tgt := 65) hx hb dX11_lay_11 (by decide) (fun c2 => ?_) (fun c2 => ?_)
    · rw [if_neg c2] at hE hp
      exact B_65 S x1 (S.2 32 (0 : Int32).toNatClampNeg) _ _ _ hE hp hP hD hS (lv_sub hl [1, 2, 0] rfl)
    · rw [if_pos c2] at hE hp
      refine lv_aload_n hx hb dX11_lay_14 rfl (lv_at hl 1 rfl) ?_
      refine va_get (D := G) (ci := 8) (v := .ref (g 25)) (C := RX11) (T := TX11) (N := 42) hx hb hts iX11 hown hK hP 0 rfl rfl 25 (by decide) (hw (.fieldLink RX11 55 "MotionFloorModel$Hall" "laid" "[Z") (List.mem_of_getElem? (i := 6) rfl)) (fun _ h9 => h9) rfl dX11_lay_15 ?_
      refine lv_iload_n hx hb dX11_lay_18 rfl (lv_at hl 0 rfl) ?_
      obtain ⟨hy8, hp⟩ := hp
      refine va_zald hx hb hK hP 15 1 rfl rfl hy8 dX11_lay_19 ?_
      refine lv_if_ne (tgt := 58) hx hb dX11_lay_20 (by decide) (fun c9 => ?_) (fun c9 => ?_)
      · rw [if_neg c9] at hE hp
        exact B_58 S x1 (S.2 32 (0 : Int32).toNatClampNeg) _ _ _ hE hp hP hD hS (lv_sub hl [1, 2, 0] rfl)
      · rw [if_pos c9] at hE hp
        refine lv_aload_n hx hb dX11_lay_23 rfl (lv_at hl 1 rfl) ?_
        refine va_get (D := G) (ci := 8) (v := .ref (g 14)) (C := RX11) (T := TX11) (N := 42) hx hb hts iX11 hown hK hP 0 rfl rfl 14 (by decide) (hw (.fieldLink RX11 22 "MotionFloorModel$Hall" "kind" "[I") (List.mem_of_getElem? (i := 7) rfl)) (fun _ h9 => h9) rfl dX11_lay_24 ?_
        refine lv_iload_n hx hb dX11_lay_27 rfl (lv_at hl 0 rfl) ?_
        obtain ⟨hy11, hp⟩ := hp
        refine va_iald hx hb hK hP 4 0 rfl rfl hy11 dX11_lay_28 ?_
        refine lv_iconst (v := 2) hx hb dX11_lay_29 (by decide) ?_
        refine lv_icmp_eq (tgt := 43) hx hb dX11_lay_30 (by decide) (fun c12 => ?_) (fun c12 => ?_)
        · rw [if_pos c12] at hE hp
          exact B_43 S x1 (S.2 32 (0 : Int32).toNatClampNeg) _ _ _ hE hp hP hD hS (lv_sub hl [1, 2, 0] rfl)
        · rw [if_neg c12] at hE hp
          refine lv_aload_n hx hb dX11_lay_33 rfl (lv_at hl 1 rfl) ?_
          refine va_get (D := G) (ci := 8) (v := .ref (g 14)) (C := RX11) (T := TX11) (N := 42) hx hb hts iX11 hown hK hP 0 rfl rfl 14 (by decide) (hw (.fieldLink RX11 22 "MotionFloorModel$Hall" "kind" "[I") (List.mem_of_getElem? (i := 7) rfl)) (fun _ h9 => h9) rfl dX11_lay_34 ?_
          refine lv_iload_n hx hb dX11_lay_37 rfl (lv_at hl 0 rfl) ?_
          obtain ⟨hy20, hp⟩ := hp
          refine va_iald hx hb hK hP 4 0 rfl rfl hy20 dX11_lay_38 ?_
          refine lv_iconst (v := 3) hx hb dX11_lay_39 (by decide) ?_
          refine lv_icmp_ne (tgt := 58) hx hb dX11_lay_40 (by decide) (fun c21 => ?_) (fun c21 => ?_)
          · rw [if_neg c21] at hE hp
            exact B_58 S x1 (S.2 32 (0 : Int32).toNatClampNeg) _ _ _ hE hp hP hD hS (lv_sub hl [1, 2, 0] rfl)
          · rw [if_pos c21] at hE hp
            exact B_43 S x1 (S.2 32 (0 : Int32).toNatClampNeg) _ _ _ hE hp hP hD hS (lv_sub hl [1, 2, 0] rfl)
  exact B_M S0 a1 _ _ _ hX hp hP hD hS hl
theorem gdX11_take_0 : ckS (List.drop 0 cX11_take.data.toList) 0 [(0, .iconst 0, 1), (1, .istore_n 2, 1), (2, .iload_n 2, 1), (3, .aload_n 0, 1), (4, .getfield 81, 3), (7, .iload_n 1, 1), (8, .iaload, 1), (9, .if_icmp .ge 26, 3), (12, .aload_n 0, 1), (13, .getfield 75, 3), (16, .iload_n 2, 1), (17, .aload_n 0, 1), (18, .getfield 78, 3), (21, .bipush 9, 2), (23, .iload_n 1, 1), (24, .imul, 1), (25, .iload_n 2, 1), (26, .iadd, 1), (27, .iaload, 1), (28, .iastore, 1), (29, .iinc 2 1, 3), (32, .goto (-30), 3), (35, .aload_n 0, 1), (36, .aload_n 0, 1), (37, .getfield 81, 3), (40, .iload_n 1, 1), (41, .iaload, 1), (42, .putfield 130, 3), (45, .aload_n 0, 1), (46, .aload_n 0, 1), (47, .getfield 84, 3), (50, .iload_n 1, 1), (51, .baload, 1), (52, .putfield 151, 3), (55, .aload_n 0, 1), (56, .getfield 81, 3), (59, .iload_n 1, 1), (60, .iconst 0, 1), (61, .iastore, 1), (62, .aload_n 0, 1)] = true := by decide +kernel
theorem dX11_take_0 : decode cX11_take 0 = .ok (.iconst 0, 1) := ckS_g gdX11_take_0 0 rfl
theorem dX11_take_1 : decode cX11_take 1 = .ok (.istore_n 2, 1) := ckS_g gdX11_take_0 1 rfl
theorem dX11_take_2 : decode cX11_take 2 = .ok (.iload_n 2, 1) := ckS_g gdX11_take_0 2 rfl
theorem dX11_take_3 : decode cX11_take 3 = .ok (.aload_n 0, 1) := ckS_g gdX11_take_0 3 rfl
theorem dX11_take_4 : decode cX11_take 4 = .ok (.getfield 81, 3) := ckS_g gdX11_take_0 4 rfl
theorem dX11_take_7 : decode cX11_take 7 = .ok (.iload_n 1, 1) := ckS_g gdX11_take_0 5 rfl
theorem dX11_take_8 : decode cX11_take 8 = .ok (.iaload, 1) := ckS_g gdX11_take_0 6 rfl
theorem dX11_take_9 : decode cX11_take 9 = .ok (.if_icmp .ge 26, 3) := ckS_g gdX11_take_0 7 rfl
theorem dX11_take_12 : decode cX11_take 12 = .ok (.aload_n 0, 1) := ckS_g gdX11_take_0 8 rfl
theorem dX11_take_13 : decode cX11_take 13 = .ok (.getfield 75, 3) := ckS_g gdX11_take_0 9 rfl
theorem dX11_take_16 : decode cX11_take 16 = .ok (.iload_n 2, 1) := ckS_g gdX11_take_0 10 rfl
theorem dX11_take_17 : decode cX11_take 17 = .ok (.aload_n 0, 1) := ckS_g gdX11_take_0 11 rfl
theorem dX11_take_18 : decode cX11_take 18 = .ok (.getfield 78, 3) := ckS_g gdX11_take_0 12 rfl
theorem dX11_take_21 : decode cX11_take 21 = .ok (.bipush 9, 2) := ckS_g gdX11_take_0 13 rfl
theorem dX11_take_23 : decode cX11_take 23 = .ok (.iload_n 1, 1) := ckS_g gdX11_take_0 14 rfl
theorem dX11_take_24 : decode cX11_take 24 = .ok (.imul, 1) := ckS_g gdX11_take_0 15 rfl
theorem dX11_take_25 : decode cX11_take 25 = .ok (.iload_n 2, 1) := ckS_g gdX11_take_0 16 rfl
theorem dX11_take_26 : decode cX11_take 26 = .ok (.iadd, 1) := ckS_g gdX11_take_0 17 rfl
theorem dX11_take_27 : decode cX11_take 27 = .ok (.iaload, 1) := ckS_g gdX11_take_0 18 rfl
theorem dX11_take_28 : decode cX11_take 28 = .ok (.iastore, 1) := ckS_g gdX11_take_0 19 rfl
theorem dX11_take_29 : decode cX11_take 29 = .ok (.iinc 2 1, 3) := ckS_g gdX11_take_0 20 rfl
theorem dX11_take_32 : decode cX11_take 32 = .ok (.goto (-30), 3) := ckS_g gdX11_take_0 21 rfl
theorem dX11_take_35 : decode cX11_take 35 = .ok (.aload_n 0, 1) := ckS_g gdX11_take_0 22 rfl
theorem dX11_take_36 : decode cX11_take 36 = .ok (.aload_n 0, 1) := ckS_g gdX11_take_0 23 rfl
theorem dX11_take_37 : decode cX11_take 37 = .ok (.getfield 81, 3) := ckS_g gdX11_take_0 24 rfl
theorem dX11_take_40 : decode cX11_take 40 = .ok (.iload_n 1, 1) := ckS_g gdX11_take_0 25 rfl
theorem dX11_take_41 : decode cX11_take 41 = .ok (.iaload, 1) := ckS_g gdX11_take_0 26 rfl
theorem dX11_take_42 : decode cX11_take 42 = .ok (.putfield 130, 3) := ckS_g gdX11_take_0 27 rfl
theorem dX11_take_45 : decode cX11_take 45 = .ok (.aload_n 0, 1) := ckS_g gdX11_take_0 28 rfl
theorem dX11_take_46 : decode cX11_take 46 = .ok (.aload_n 0, 1) := ckS_g gdX11_take_0 29 rfl
theorem dX11_take_47 : decode cX11_take 47 = .ok (.getfield 84, 3) := ckS_g gdX11_take_0 30 rfl
theorem dX11_take_50 : decode cX11_take 50 = .ok (.iload_n 1, 1) := ckS_g gdX11_take_0 31 rfl
theorem dX11_take_51 : decode cX11_take 51 = .ok (.baload, 1) := ckS_g gdX11_take_0 32 rfl
theorem dX11_take_52 : decode cX11_take 52 = .ok (.putfield 151, 3) := ckS_g gdX11_take_0 33 rfl
theorem dX11_take_55 : decode cX11_take 55 = .ok (.aload_n 0, 1) := ckS_g gdX11_take_0 34 rfl
theorem dX11_take_56 : decode cX11_take 56 = .ok (.getfield 81, 3) := ckS_g gdX11_take_0 35 rfl
theorem dX11_take_59 : decode cX11_take 59 = .ok (.iload_n 1, 1) := ckS_g gdX11_take_0 36 rfl
theorem dX11_take_60 : decode cX11_take 60 = .ok (.iconst 0, 1) := ckS_g gdX11_take_0 37 rfl
theorem dX11_take_61 : decode cX11_take 61 = .ok (.iastore, 1) := ckS_g gdX11_take_0 38 rfl
theorem dX11_take_62 : decode cX11_take 62 = .ok (.aload_n 0, 1) := ckS_g gdX11_take_0 39 rfl
theorem gdX11_take_63 : ckS (List.drop 63 cX11_take.data.toList) 63 [(63, .getfield 61, 3), (66, .aload_n 0, 1), (67, .getfield 75, 3), (70, .iconst 0, 1), (71, .iaload, 1), (72, .iconst 0, 1), (73, .bastore, 1), (74, .aload_n 0, 1), (75, .getfield 151, 3), (78, .ifCond .eq 8, 3), (81, .bipush 7, 2), (83, .goto 14, 3), (86, .aload_n 0, 1), (87, .getfield 22, 3), (90, .aload_n 0, 1), (91, .getfield 75, 3), (94, .iconst 0, 1), (95, .iaload, 1), (96, .iaload, 1), (97, .ireturn, 1)] = true := by decide +kernel
theorem dX11_take_63 : decode cX11_take 63 = .ok (.getfield 61, 3) := ckS_g gdX11_take_63 0 rfl
theorem dX11_take_66 : decode cX11_take 66 = .ok (.aload_n 0, 1) := ckS_g gdX11_take_63 1 rfl
theorem dX11_take_67 : decode cX11_take 67 = .ok (.getfield 75, 3) := ckS_g gdX11_take_63 2 rfl
theorem dX11_take_70 : decode cX11_take 70 = .ok (.iconst 0, 1) := ckS_g gdX11_take_63 3 rfl
theorem dX11_take_71 : decode cX11_take 71 = .ok (.iaload, 1) := ckS_g gdX11_take_63 4 rfl
theorem dX11_take_72 : decode cX11_take 72 = .ok (.iconst 0, 1) := ckS_g gdX11_take_63 5 rfl
theorem dX11_take_73 : decode cX11_take 73 = .ok (.bastore, 1) := ckS_g gdX11_take_63 6 rfl
theorem dX11_take_74 : decode cX11_take 74 = .ok (.aload_n 0, 1) := ckS_g gdX11_take_63 7 rfl
theorem dX11_take_75 : decode cX11_take 75 = .ok (.getfield 151, 3) := ckS_g gdX11_take_63 8 rfl
theorem dX11_take_78 : decode cX11_take 78 = .ok (.ifCond .eq 8, 3) := ckS_g gdX11_take_63 9 rfl
theorem dX11_take_81 : decode cX11_take 81 = .ok (.bipush 7, 2) := ckS_g gdX11_take_63 10 rfl
theorem dX11_take_83 : decode cX11_take 83 = .ok (.goto 14, 3) := ckS_g gdX11_take_63 11 rfl
theorem dX11_take_86 : decode cX11_take 86 = .ok (.aload_n 0, 1) := ckS_g gdX11_take_63 12 rfl
theorem dX11_take_87 : decode cX11_take 87 = .ok (.getfield 22, 3) := ckS_g gdX11_take_63 13 rfl
theorem dX11_take_90 : decode cX11_take 90 = .ok (.aload_n 0, 1) := ckS_g gdX11_take_63 14 rfl
theorem dX11_take_91 : decode cX11_take 91 = .ok (.getfield 75, 3) := ckS_g gdX11_take_63 15 rfl
theorem dX11_take_94 : decode cX11_take 94 = .ok (.iconst 0, 1) := ckS_g gdX11_take_63 16 rfl
theorem dX11_take_95 : decode cX11_take 95 = .ok (.iaload, 1) := ckS_g gdX11_take_63 17 rfl
theorem dX11_take_96 : decode cX11_take 96 = .ok (.iaload, 1) := ckS_g gdX11_take_63 18 rfl
theorem dX11_take_97 : decode cX11_take 97 = .ok (.ireturn, 1) := ckS_g gdX11_take_63 19 rfl
set_option maxRecDepth 100000 in
theorem z143 : wZ (.code yX11_take cX11_take 3 (some .int)) := ⟨wT6 (List.mem_of_getElem? (i := 80) rfl), Or.inl rfl⟩
def b_X11_take_97 (S : HS) (x1 x2 y0 : Int32) : Int32 × HS := (y0, S)
def q_X11_take_97 (S : HS) (x1 x2 y0 : Int32) : Prop := True
def st_X11_take_2 (S : HS) (x1 x2 : Int32) : (Int32 × HS) ⊕ (HS × Int32 × Int32) := if (S.2 34 x1.toNatClampNeg) ≤ x2 then Sum.inl (if ((sA (sA (sI (sI S 35 (S.2 34 x1.toNatClampNeg)) 36 ((sI S 35 (S.2 34 x1.toNatClampNeg)).2 37 x1.toNatClampNeg)) 34 x1.toNatClampNeg 0) 27 ((sA (sI (sI S 35 (S.2 34 x1.toNatClampNeg)) 36 ((sI S 35 (S.2 34 x1.toNatClampNeg)).2 37 x1.toNatClampNeg)) 34 x1.toNatClampNeg 0).2 32 (0 : Int32).toNatClampNeg).toNatClampNeg (vp_nar .boolean 0)).1 36) = 0 then (b_X11_take_97 (sA (sA (sI (sI S 35 (S.2 34 x1.toNatClampNeg)) 36 ((sI S 35 (S.2 34 x1.toNatClampNeg)).2 37 x1.toNatClampNeg)) 34 x1.toNatClampNeg 0) 27 ((sA (sI (sI S 35 (S.2 34 x1.toNatClampNeg)) 36 ((sI S 35 (S.2 34 x1.toNatClampNeg)).2 37 x1.toNatClampNeg)) 34 x1.toNatClampNeg 0).2 32 (0 : Int32).toNatClampNeg).toNatClampNeg (vp_nar .boolean 0)) x1 x2 ((sA (sA (sI (sI S 35 (S.2 34 x1.toNatClampNeg)) 36 ((sI S 35 (S.2 34 x1.toNatClampNeg)).2 37 x1.toNatClampNeg)) 34 x1.toNatClampNeg 0) 27 ((sA (sI (sI S 35 (S.2 34 x1.toNatClampNeg)) 36 ((sI S 35 (S.2 34 x1.toNatClampNeg)).2 37 x1.toNatClampNeg)) 34 x1.toNatClampNeg 0).2 32 (0 : Int32).toNatClampNeg).toNatClampNeg (vp_nar .boolean 0)).2 14 ((sA (sA (sI (sI S 35 (S.2 34 x1.toNatClampNeg)) 36 ((sI S 35 (S.2 34 x1.toNatClampNeg)).2 37 x1.toNatClampNeg)) 34 x1.toNatClampNeg 0) 27 ((sA (sI (sI S 35 (S.2 34 x1.toNatClampNeg)) 36 ((sI S 35 (S.2 34 x1.toNatClampNeg)).2 37 x1.toNatClampNeg)) 34 x1.toNatClampNeg 0).2 32 (0 : Int32).toNatClampNeg).toNatClampNeg (vp_nar .boolean 0)).2 32 (0 : Int32).toNatClampNeg).toNatClampNeg)) else (b_X11_take_97 (sA (sA (sI (sI S 35 (S.2 34 x1.toNatClampNeg)) 36 ((sI S 35 (S.2 34 x1.toNatClampNeg)).2 37 x1.toNatClampNeg)) 34 x1.toNatClampNeg 0) 27 ((sA (sI (sI S 35 (S.2 34 x1.toNatClampNeg)) 36 ((sI S 35 (S.2 34 x1.toNatClampNeg)).2 37 x1.toNatClampNeg)) 34 x1.toNatClampNeg 0).2 32 (0 : Int32).toNatClampNeg).toNatClampNeg (vp_nar .boolean 0)) x1 x2 7)) else Sum.inr ((sA S 32 x2.toNatClampNeg (S.2 33 ((9 * x1) + x2).toNatClampNeg)), x1, (x2 + 1))
def ps_X11_take_2 (S : HS) (x1 x2 : Int32) : Prop := (vp_in x1 8) ∧ (if (S.2 34 x1.toNatClampNeg) ≤ x2 then (vp_in x1 8) ∧ (vp_in x1 8) ∧ (narrow .boolean (.int ((sI S 35 (S.2 34 x1.toNatClampNeg)).2 37 x1.toNatClampNeg)) = .int ((sI S 35 (S.2 34 x1.toNatClampNeg)).2 37 x1.toNatClampNeg) ∧ fits .boolean (.int ((sI S 35 (S.2 34 x1.toNatClampNeg)).2 37 x1.toNatClampNeg)) = true) ∧ (vp_in x1 8) ∧ (vp_in 0 9) ∧ (vp_in ((sA (sI (sI S 35 (S.2 34 x1.toNatClampNeg)) 36 ((sI S 35 (S.2 34 x1.toNatClampNeg)).2 37 x1.toNatClampNeg)) 34 x1.toNatClampNeg 0).2 32 (0 : Int32).toNatClampNeg) 90) ∧ (if ((sA (sA (sI (sI S 35 (S.2 34 x1.toNatClampNeg)) 36 ((sI S 35 (S.2 34 x1.toNatClampNeg)).2 37 x1.toNatClampNeg)) 34 x1.toNatClampNeg 0) 27 ((sA (sI (sI S 35 (S.2 34 x1.toNatClampNeg)) 36 ((sI S 35 (S.2 34 x1.toNatClampNeg)).2 37 x1.toNatClampNeg)) 34 x1.toNatClampNeg 0).2 32 (0 : Int32).toNatClampNeg).toNatClampNeg (vp_nar .boolean 0)).1 36) = 0 then (vp_in 0 9) ∧ (vp_in ((sA (sA (sI (sI S 35 (S.2 34 x1.toNatClampNeg)) 36 ((sI S 35 (S.2 34 x1.toNatClampNeg)).2 37 x1.toNatClampNeg)) 34 x1.toNatClampNeg 0) 27 ((sA (sI (sI S 35 (S.2 34 x1.toNatClampNeg)) 36 ((sI S 35 (S.2 34 x1.toNatClampNeg)).2 37 x1.toNatClampNeg)) 34 x1.toNatClampNeg 0).2 32 (0 : Int32).toNatClampNeg).toNatClampNeg (vp_nar .boolean 0)).2 32 (0 : Int32).toNatClampNeg) 90) ∧ (q_X11_take_97 (sA (sA (sI (sI S 35 (S.2 34 x1.toNatClampNeg)) 36 ((sI S 35 (S.2 34 x1.toNatClampNeg)).2 37 x1.toNatClampNeg)) 34 x1.toNatClampNeg 0) 27 ((sA (sI (sI S 35 (S.2 34 x1.toNatClampNeg)) 36 ((sI S 35 (S.2 34 x1.toNatClampNeg)).2 37 x1.toNatClampNeg)) 34 x1.toNatClampNeg 0).2 32 (0 : Int32).toNatClampNeg).toNatClampNeg (vp_nar .boolean 0)) x1 x2 ((sA (sA (sI (sI S 35 (S.2 34 x1.toNatClampNeg)) 36 ((sI S 35 (S.2 34 x1.toNatClampNeg)).2 37 x1.toNatClampNeg)) 34 x1.toNatClampNeg 0) 27 ((sA (sI (sI S 35 (S.2 34 x1.toNatClampNeg)) 36 ((sI S 35 (S.2 34 x1.toNatClampNeg)).2 37 x1.toNatClampNeg)) 34 x1.toNatClampNeg 0).2 32 (0 : Int32).toNatClampNeg).toNatClampNeg (vp_nar .boolean 0)).2 14 ((sA (sA (sI (sI S 35 (S.2 34 x1.toNatClampNeg)) 36 ((sI S 35 (S.2 34 x1.toNatClampNeg)).2 37 x1.toNatClampNeg)) 34 x1.toNatClampNeg 0) 27 ((sA (sI (sI S 35 (S.2 34 x1.toNatClampNeg)) 36 ((sI S 35 (S.2 34 x1.toNatClampNeg)).2 37 x1.toNatClampNeg)) 34 x1.toNatClampNeg 0).2 32 (0 : Int32).toNatClampNeg).toNatClampNeg (vp_nar .boolean 0)).2 32 (0 : Int32).toNatClampNeg).toNatClampNeg)) else (q_X11_take_97 (sA (sA (sI (sI S 35 (S.2 34 x1.toNatClampNeg)) 36 ((sI S 35 (S.2 34 x1.toNatClampNeg)).2 37 x1.toNatClampNeg)) 34 x1.toNatClampNeg 0) 27 ((sA (sI (sI S 35 (S.2 34 x1.toNatClampNeg)) 36 ((sI S 35 (S.2 34 x1.toNatClampNeg)).2 37 x1.toNatClampNeg)) 34 x1.toNatClampNeg 0).2 32 (0 : Int32).toNatClampNeg).toNatClampNeg (vp_nar .boolean 0)) x1 x2 7)) else (vp_in ((9 * x1) + x2) 72) ∧ (vp_in x2 9) ∧ True)
def lp_X11_take_2 : Nat → HS → Int32 → Int32 → Int32 × HS
  | 0, S, _, _ => (0, S)
  | n + 1, S, x1, x2 => match st_X11_take_2 S x1 x2 with
    | Sum.inl r => r
    | Sum.inr q => lp_X11_take_2 n q.1 q.2.1 q.2.2
def lq_X11_take_2 : Nat → HS → Int32 → Int32 → Prop
  | 0, _, _, _ => False
  | n + 1, S, x1, x2 => ps_X11_take_2 S x1 x2 ∧ (match st_X11_take_2 S x1 x2 with
    | Sum.inl _ => True
    | Sum.inr q => lq_X11_take_2 n q.1 q.2.1 q.2.2)
def f_X11_take (S : HS) (x1 : Int32) : Int32 × HS := (lp_X11_take_2 100000 S x1 0)
def p_X11_take (S : HS) (x1 : Int32) : Prop := (lq_X11_take_2 100000 S x1 0)
def e_X11_take : List Cond := [.fieldLink RX11 81 "MotionFloorModel$Hall" "lying" "[I", .fieldLink RX11 130 "MotionFloorModel$Hall" "drafted" "I", .fieldLink RX11 84 "MotionFloorModel$Hall" "tabled" "[Z", .fieldLink RX11 151 "MotionFloorModel$Hall" "draftTabled" "Z", .fieldLink RX11 61 "MotionFloorModel$Hall" "letter" "[Z", .fieldLink RX11 75 "MotionFloorModel$Hall" "draft" "[I", .fieldLink RX11 22 "MotionFloorModel$Hall" "kind" "[I", .fieldLink RX11 78 "MotionFloorModel$Hall" "desk" "[I"]
def v_X11_take : List Cond := .code yX11_take cX11_take 3 (some .int) :: (e_X11_take ++ (wsX110 ++ []))
theorem te_X11_take : GoodIn lw_tbl e_X11_take := wGc z81 (wGc z86 (wGc z141 (wGc z85 (wGc z70 (wGc z84 (wGc z78 (wGc z140 (wG0))))))))
theorem t_X11_take : GoodIn lw_tbl v_X11_take := wGc z143 (wGa te_X11_take (wGa zcX11 (wG0)))
set_option maxHeartbeats 4000000 in
set_option maxRecDepth 100000 in
theorem c_X11_take (l : Launch) (G : va_G) (K : Nat → ClassId) (h : Nat) (g : Nat → Nat) (S0 : HS) (a1 : Int32) (sz : Nat) : Met l yX11_take v_X11_take ({ frames := 0, cells := 0, slots := 0, locals := 0 }) (va_Pc [.ref h, .int a1] (hS G K h g sz S0 (p_X11_take S0 a1))) (va_Qi (fun (r : Int32) (u : HS) => (r, u) = f_X11_take S0 a1) (hB G K h g (va_A (hW K h g S0) sz)) (va_A (hW K h g S0) sz)) 0 0 (va_A (hW K h g S0) sz) := by
  refine Met.ofW (cc := cX11_take) (maxL := 3) (ret := (some .int)) (by decide) rfl ?_
  intro p e s m args below meth c s₁ B hml hv
  obtain ⟨rfl, ⟨hsz, hP, hK, hD0, hTE⟩, hp⟩ := hv
  have hx := B.exec
  have hb := B.bytes
  have hr := B.returns
  have hts := atoms_spec (ws := v_X11_take) B.pre
  have t_ := t_X11_take
  have mw : ∀ w ∈ e_X11_take, w ∈ v_X11_take := fun w h => List.mem_cons_of_mem _ (List.mem_append_left _ h)
  have hw := fun w (h : w ∈ e_X11_take) => hts w (mw w h)
  have iX11 : ∀ w ∈ wsX110, w ∈ v_X11_take := fun w h => List.mem_cons_of_mem _ (List.mem_append_right _ (List.mem_append_left _ h))
  have hown : s.vm.findClass RX11 = some m.cls := findClass_of_methodNamed B.named
  have hlocks := B.notSynchronized
  subst hsz
  have hD := hD0.self (sz := s.heap.size)
  generalize hAe : va_A (hW K h g S0) s.heap.size = A at hD ⊢
  have hA : ∀ q : Nat, s.heap.size ≤ q → A q := fun q h => by rw [← hAe]; exact Or.inr h
  have hS : va_S A s.heap s.heap [] := va_S.rf
  have hl := lv_entry ([.ref h, .int a1]) (n := 3) (Nat.le_of_ble_eq_true rfl)
  rw [lg_entry_eq]
  generalize (lg_sl ([.ref h, .int a1]) ++ List.replicate (3 - (lg_sl ([.ref h, .int a1])).length) Slot.unset).toArray = ls at hl ⊢
  have hl : lv_has ls 3 [(0, .ref h), (1, .int a1)] := hl
  refine wGen (fun Q hQ => ?_)
  obtain ⟨X, hX⟩ : ∃ X, f_X11_take S0 a1 = X := ⟨_, rfl⟩
  have B_97 : ∀ (S : HS) (x1 x2 y0 : Int32) (H : Heap) (locs : List Loc) (ls : Array Slot), b_X11_take_97 S x1 x2 y0 = X → q_X11_take_97 S x1 x2 y0 → va_P G vwCl (hW K h g S) H → va_D A (hW K h g S) → va_S A s.heap H locs → lv_has ls 3 [(0, .ref h), (1, .int x1), (2, .int x2)] → W p l e ({ frames := 0, cells := 0, slots := 0, locals := 0 } : Room) s m #[Value.ref h, Value.int a1] below meth c H locs 0 0 Q (F0 m 97 ls [.int y0]) := by
    intro S x1 x2 y0 H locs ls hE hp hP hD hS hl
    unfold b_X11_take_97 at hE
    unfold q_X11_take_97 at hp
    subst hQ
    exact W.iret (v := y0) hx hb hr (fun t ht hW => ⟨⟨y0, S, rfl, hE.trans hX.symm, by rw [ht]; exact hP, hD⟩, hS.F ht⟩) hS.2.2 dX11_take_97
  have L_2 : ∀ (n : Nat) (S : HS) (x1 x2 : Int32) (H : Heap) (locs : List Loc) (ls : Array Slot), lp_X11_take_2 n S x1 x2 = X → lq_X11_take_2 n S x1 x2 → va_P G vwCl (hW K h g S) H → va_D A (hW K h g S) → va_S A s.heap H locs → lv_has ls 3 [(0, .ref h), (1, .int x1), (2, .int x2)] → W p l e ({ frames := 0, cells := 0, slots := 0, locals := 0 } : Room) s m #[Value.ref h, Value.int a1] below meth c H locs 0 0 Q (F0 m 2 ls []) := by
    intro n1
    induction n1 with
    | zero => intro S x1 x2 H locs ls hE hp; exact False.elim hp
    | succ n1 ih1 =>
      intro S x1 x2 H locs ls hO1 hp hP hD hS hl
      rw [lp_X11_take_2] at hO1
      rw [lq_X11_take_2] at hp
      obtain ⟨hp, hq1⟩ := hp
      generalize hE : st_X11_take_2 S x1 x2 = Y1 at hO1 hq1
      unfold st_X11_take_2 at hE
      unfold ps_X11_take_2 at hp
      refine lv_iload_n hx hb dX11_take_2 rfl (lv_at hl 2 rfl) ?_
      refine lv_aload_n hx hb dX11_take_3 rfl (lv_at hl 0 rfl) ?_
      refine va_get (D := G) (ci := 8) (v := .ref (g 34)) (C := RX11) (T := TX11) (N := 42) hx hb hts iX11 hown hK hP 0 rfl rfl 34 (by decide) (hw (.fieldLink RX11 81 "MotionFloorModel$Hall" "lying" "[I") (List.mem_of_getElem? (i := 0) rfl)) (fun _ h9 => h9) rfl dX11_take_4 ?_
      refine lv_iload_n hx hb dX11_take_7 rfl (lv_at hl 1 rfl) ?_
      obtain ⟨hy1, hp⟩ := hp
      refine va_iald hx hb hK hP 23 0 rfl rfl hy1 dX11_take_8 ?_
      refine lv_icmp_ge (tgt := 35) hx hb dX11_take_9 (by decide) (fun c2 => ?_) (fun c2 => ?_)
      · rw [if_pos c2] at hE hp
        subst hE
        have hE := hO1
        dsimp only at hE
        refine lv_aload_n hx hb dX11_take_35 rfl (lv_at hl 0 rfl) ?_
        refine lv_aload_n hx hb dX11_take_36 rfl (lv_at hl 0 rfl) ?_
        refine va_get (D := G) (ci := 8) (v := .ref (g 34)) (C := RX11) (T := TX11) (N := 42) hx hb hts iX11 hown hK hP 0 rfl rfl 34 (by decide) (hw (.fieldLink RX11 81 "MotionFloorModel$Hall" "lying" "[I") (List.mem_of_getElem? (i := 0) rfl)) (fun _ h9 => h9) rfl dX11_take_37 ?_
        refine lv_iload_n hx hb dX11_take_40 rfl (lv_at hl 1 rfl) ?_
        obtain ⟨hy3, hp⟩ := hp
        refine va_iald hx hb hK hP 23 0 rfl rfl hy3 dX11_take_41 ?_
        refine va_put (D := G) (ci := 8) (v := .int (S.2 34 x1.toNatClampNeg)) (ty := .int) (C := RX11) (T := TX11) (N := 42) hx hb hts iX11 tyX11 tyX11_ok nmX11 hown hK hP hD hS 0 rfl rfl 35 (by decide) (hw (.fieldLink RX11 130 "MotionFloorModel$Hall" "drafted" "I") (List.mem_of_getElem? (i := 1) rfl)) (fun _ h9 => h9) rfl (by decide +kernel) rfl rfl (Nat.le_of_ble_eq_true rfl) dX11_take_42 (fun H locs hP hD hS => ?_)
        rw [sI_35] at hP hD
        refine lv_aload_n hx hb dX11_take_45 rfl (lv_at hl 0 rfl) ?_
        refine lv_aload_n hx hb dX11_take_46 rfl (lv_at hl 0 rfl) ?_
        refine va_get (D := G) (ci := 8) (v := .ref (g 37)) (C := RX11) (T := TX11) (N := 42) hx hb hts iX11 hown hK hP 0 rfl rfl 37 (by decide) (hw (.fieldLink RX11 84 "MotionFloorModel$Hall" "tabled" "[Z") (List.mem_of_getElem? (i := 2) rfl)) (fun _ h9 => h9) rfl dX11_take_47 ?_
        refine lv_iload_n hx hb dX11_take_50 rfl (lv_at hl 1 rfl) ?_
        obtain ⟨hy4, hp⟩ := hp
        refine va_zald hx hb hK hP 24 1 rfl rfl hy4 dX11_take_51 ?_
        obtain ⟨hy5, hp⟩ := hp
        refine va_put (D := G) (ci := 8) (v := .int ((sI S 35 (S.2 34 x1.toNatClampNeg)).2 37 x1.toNatClampNeg)) (ty := .boolean) (C := RX11) (T := TX11) (N := 42) hx hb hts iX11 tyX11 tyX11_ok nmX11 hown hK hP hD hS 0 rfl rfl 36 (by decide) (hw (.fieldLink RX11 151 "MotionFloorModel$Hall" "draftTabled" "Z") (List.mem_of_getElem? (i := 3) rfl)) (fun _ h9 => h9) rfl (by decide +kernel) hy5.1 hy5.2 (Nat.le_of_ble_eq_true rfl) dX11_take_52 (fun H locs hP hD hS => ?_)
        rw [sI_36] at hP hD
        refine lv_aload_n hx hb dX11_take_55 rfl (lv_at hl 0 rfl) ?_
        refine va_get (D := G) (ci := 8) (v := .ref (g 34)) (C := RX11) (T := TX11) (N := 42) hx hb hts iX11 hown hK hP 0 rfl rfl 34 (by decide) (hw (.fieldLink RX11 81 "MotionFloorModel$Hall" "lying" "[I") (List.mem_of_getElem? (i := 0) rfl)) (fun _ h9 => h9) rfl dX11_take_56 ?_
        refine lv_iload_n hx hb dX11_take_59 rfl (lv_at hl 1 rfl) ?_
        refine lv_iconst (v := 0) hx hb dX11_take_60 (by decide) ?_
        obtain ⟨hy6, hp⟩ := hp
        refine va_iast hx hb hK hP hD hS 23 0 rfl rfl hy6 dX11_take_61 (fun H locs hP hD hS => ?_)
        rw [sA_34] at hP hD
        refine lv_aload_n hx hb dX11_take_62 rfl (lv_at hl 0 rfl) ?_
        refine va_get (D := G) (ci := 8) (v := .ref (g 27)) (C := RX11) (T := TX11) (N := 42) hx hb hts iX11 hown hK hP 0 rfl rfl 27 (by decide) (hw (.fieldLink RX11 61 "MotionFloorModel$Hall" "letter" "[Z") (List.mem_of_getElem? (i := 4) rfl)) (fun _ h9 => h9) rfl dX11_take_63 ?_
        refine lv_aload_n hx hb dX11_take_66 rfl (lv_at hl 0 rfl) ?_
        refine va_get (D := G) (ci := 8) (v := .ref (g 32)) (C := RX11) (T := TX11) (N := 42) hx hb hts iX11 hown hK hP 0 rfl rfl 32 (by decide) (hw (.fieldLink RX11 75 "MotionFloorModel$Hall" "draft" "[I") (List.mem_of_getElem? (i := 5) rfl)) (fun _ h9 => h9) rfl dX11_take_67 ?_
        refine lv_iconst (v := 0) hx hb dX11_take_70 (by decide) ?_
        obtain ⟨hy7, hp⟩ := hp
        refine va_iald hx hb hK hP 21 0 rfl rfl hy7 dX11_take_71 ?_
        refine lv_iconst (v := 0) hx hb dX11_take_72 (by decide) ?_
        obtain ⟨hy8, hp⟩ := hp
        refine va_zast hx hb hK hP hD hS 17 1 rfl rfl hy8 dX11_take_73 (fun H locs hP hD hS => ?_)
        rw [sA_27] at hP hD
        refine lv_aload_n hx hb dX11_take_74 rfl (lv_at hl 0 rfl) ?_
        refine va_get (D := G) (ci := 8) (v := .int ((sA (sA (sI (sI S 35 (S.2 34 x1.toNatClampNeg)) 36 ((sI S 35 (S.2 34 x1.toNatClampNeg)).2 37 x1.toNatClampNeg)) 34 x1.toNatClampNeg 0) 27 ((sA (sI (sI S 35 (S.2 34 x1.toNatClampNeg)) 36 ((sI S 35 (S.2 34 x1.toNatClampNeg)).2 37 x1.toNatClampNeg)) 34 x1.toNatClampNeg 0).2 32 (0 : Int32).toNatClampNeg).toNatClampNeg (vp_nar .boolean 0)).1 36)) (C := RX11) (T := TX11) (N := 42) hx hb hts iX11 hown hK hP 0 rfl rfl 36 (by decide) (hw (.fieldLink RX11 151 "MotionFloorModel$Hall" "draftTabled" "Z") (List.mem_of_getElem? (i := 3) rfl)) (fun _ h9 => h9) rfl dX11_take_75 ?_
        refine lv_if_eq (tgt := 86) hx hb dX11_take_78 (by decide) (fun c9 => ?_) (fun c9 => ?_)
        · rw [if_pos c9] at hE hp
          refine lv_aload_n hx hb dX11_take_86 rfl (lv_at hl 0 rfl) ?_
          refine va_get (D := G) (ci := 8) (v := .ref (g 14)) (C := RX11) (T := TX11) (N := 42) hx hb hts iX11 hown hK hP 0 rfl rfl 14 (by decide) (hw (.fieldLink RX11 22 "MotionFloorModel$Hall" "kind" "[I") (List.mem_of_getElem? (i := 6) rfl)) (fun _ h9 => h9) rfl dX11_take_87 ?_
          refine lv_aload_n hx hb dX11_take_90 rfl (lv_at hl 0 rfl) ?_
          refine va_get (D := G) (ci := 8) (v := .ref (g 32)) (C := RX11) (T := TX11) (N := 42) hx hb hts iX11 hown hK hP 0 rfl rfl 32 (by decide) (hw (.fieldLink RX11 75 "MotionFloorModel$Hall" "draft" "[I") (List.mem_of_getElem? (i := 5) rfl)) (fun _ h9 => h9) rfl dX11_take_91 ?_
          refine lv_iconst (v := 0) hx hb dX11_take_94 (by decide) ?_
          obtain ⟨hy10, hp⟩ := hp
          refine va_iald hx hb hK hP 21 0 rfl rfl hy10 dX11_take_95 ?_
          obtain ⟨hy11, hp⟩ := hp
          refine va_iald hx hb hK hP 4 0 rfl rfl hy11 dX11_take_96 ?_
          exact B_97 (sA (sA (sI (sI S 35 (S.2 34 x1.toNatClampNeg)) 36 ((sI S 35 (S.2 34 x1.toNatClampNeg)).2 37 x1.toNatClampNeg)) 34 x1.toNatClampNeg 0) 27 ((sA (sI (sI S 35 (S.2 34 x1.toNatClampNeg)) 36 ((sI S 35 (S.2 34 x1.toNatClampNeg)).2 37 x1.toNatClampNeg)) 34 x1.toNatClampNeg 0).2 32 (0 : Int32).toNatClampNeg).toNatClampNeg (vp_nar .boolean 0)) x1 x2 ((sA (sA (sI (sI S 35 (S.2 34 x1.toNatClampNeg)) 36 ((sI S 35 (S.2 34 x1.toNatClampNeg)).2 37 x1.toNatClampNeg)) 34 x1.toNatClampNeg 0) 27 ((sA (sI (sI S 35 (S.2 34 x1.toNatClampNeg)) 36 ((sI S 35 (S.2 34 x1.toNatClampNeg)).2 37 x1.toNatClampNeg)) 34 x1.toNatClampNeg 0).2 32 (0 : Int32).toNatClampNeg).toNatClampNeg (vp_nar .boolean 0)).2 14 ((sA (sA (sI (sI S 35 (S.2 34 x1.toNatClampNeg)) 36 ((sI S 35 (S.2 34 x1.toNatClampNeg)).2 37 x1.toNatClampNeg)) 34 x1.toNatClampNeg 0) 27 ((sA (sI (sI S 35 (S.2 34 x1.toNatClampNeg)) 36 ((sI S 35 (S.2 34 x1.toNatClampNeg)).2 37 x1.toNatClampNeg)) 34 x1.toNatClampNeg 0).2 32 (0 : Int32).toNatClampNeg).toNatClampNeg (vp_nar .boolean 0)).2 32 (0 : Int32).toNatClampNeg).toNatClampNeg) _ _ _ hE hp hP hD hS (lv_sub hl [0, 1, 2] rfl)
        · rw [if_neg c9] at hE hp
          refine lv_bipush (v := 7) hx hb dX11_take_81 (by decide) ?_
          refine lv_goto (tgt := 97) hx hb dX11_take_83 (by decide) ?_
          exact B_97 (sA (sA (sI (sI S 35 (S.2 34 x1.toNatClampNeg)) 36 ((sI S 35 (S.2 34 x1.toNatClampNeg)).2 37 x1.toNatClampNeg)) 34 x1.toNatClampNeg 0) 27 ((sA (sI (sI S 35 (S.2 34 x1.toNatClampNeg)) 36 ((sI S 35 (S.2 34 x1.toNatClampNeg)).2 37 x1.toNatClampNeg)) 34 x1.toNatClampNeg 0).2 32 (0 : Int32).toNatClampNeg).toNatClampNeg (vp_nar .boolean 0)) x1 x2 7 _ _ _ hE hp hP hD hS (lv_sub hl [0, 1, 2] rfl)
      · rw [if_neg c2] at hE hp
        refine lv_aload_n hx hb dX11_take_12 rfl (lv_at hl 0 rfl) ?_
        refine va_get (D := G) (ci := 8) (v := .ref (g 32)) (C := RX11) (T := TX11) (N := 42) hx hb hts iX11 hown hK hP 0 rfl rfl 32 (by decide) (hw (.fieldLink RX11 75 "MotionFloorModel$Hall" "draft" "[I") (List.mem_of_getElem? (i := 5) rfl)) (fun _ h9 => h9) rfl dX11_take_13 ?_
        refine lv_iload_n hx hb dX11_take_16 rfl (lv_at hl 2 rfl) ?_
        refine lv_aload_n hx hb dX11_take_17 rfl (lv_at hl 0 rfl) ?_
        refine va_get (D := G) (ci := 8) (v := .ref (g 33)) (C := RX11) (T := TX11) (N := 42) hx hb hts iX11 hown hK hP 0 rfl rfl 33 (by decide) (hw (.fieldLink RX11 78 "MotionFloorModel$Hall" "desk" "[I") (List.mem_of_getElem? (i := 7) rfl)) (fun _ h9 => h9) rfl dX11_take_18 ?_
        refine lv_bipush (v := 9) hx hb dX11_take_21 (by decide) ?_
        refine lv_iload_n hx hb dX11_take_23 rfl (lv_at hl 1 rfl) ?_
        refine lv_imul hx hb dX11_take_24 ?_
        refine lv_iload_n hx hb dX11_take_25 rfl (lv_at hl 2 rfl) ?_
        refine lv_iadd hx hb dX11_take_26 ?_
        obtain ⟨hy12, hp⟩ := hp
        refine va_iald hx hb hK hP 22 0 rfl rfl hy12 dX11_take_27 ?_
        obtain ⟨hy13, hp⟩ := hp
        refine va_iast hx hb hK hP hD hS 21 0 rfl rfl hy13 dX11_take_28 (fun H locs hP hD hS => ?_)
        rw [sA_32] at hP hD
        refine lv_iinc (v := (x2 + 1)) (lv' := [(2, .int (x2 + 1)), (0, .ref h), (1, .int x1)]) hx hb dX11_take_29 hl (k := 2) rfl rfl (by decide) rfl (fun ls hl => ?_)
        refine lv_goto (tgt := 2) hx hb dX11_take_32 (by decide) ?_
        subst hE
        dsimp only at hO1 hq1
        exact ih1 (sA S 32 x2.toNatClampNeg (S.2 33 ((9 * x1) + x2).toNatClampNeg)) x1 (x2 + 1) _ _ _ hO1 hq1 hP hD hS (lv_sub hl [1, 2, 0] rfl)
  have B_M : ∀ (S : HS) (x1 : Int32) (H : Heap) (locs : List Loc) (ls : Array Slot), f_X11_take S x1 = X → p_X11_take S x1 → va_P G vwCl (hW K h g S) H → va_D A (hW K h g S) → va_S A s.heap H locs → lv_has ls 3 [(0, .ref h), (1, .int x1)] → W p l e ({ frames := 0, cells := 0, slots := 0, locals := 0 } : Room) s m #[Value.ref h, Value.int a1] below meth c H locs 0 0 Q (F0 m 0 ls []) := by
    intro S x1 H locs ls hE hp hP hD hS hl
    unfold f_X11_take at hE
    unfold p_X11_take at hp
    refine lv_iconst (v := 0) hx hb dX11_take_0 (by decide) ?_
    refine lv_istore_n (lv' := [(2, .int 0), (0, .ref h), (1, .int x1)]) hx hb dX11_take_1 rfl hl (by decide) rfl (fun ls hl => ?_)
    exact L_2 100000 S x1 0 _ _ _ hE hp hP hD hS (lv_sub hl [1, 2, 0] rfl)
  exact B_M S0 a1 _ _ _ hX hp hP hD hS hl
theorem gdX11_move_0 : ckS (List.drop 0 cX11_move.data.toList) 0 [(0, .aload_n 0, 1), (1, .getfield 151, 3), (4, .ifCond .ne 71, 3), (7, .aload_n 0, 1), (8, .getfield 75, 3), (11, .iconst 0, 1), (12, .iaload, 1), (13, .istore_n 2, 1), (14, .aload_n 0, 1), (15, .getfield 22, 3), (18, .iload_n 2, 1), (19, .iaload, 1), (20, .iconst 2, 1), (21, .if_icmp .eq 13, 3), (24, .aload_n 0, 1), (25, .getfield 22, 3), (28, .iload_n 2, 1), (29, .iaload, 1), (30, .iconst 3, 1), (31, .if_icmp .ne 7, 3), (34, .iconst 1, 1), (35, .goto 4, 3), (38, .iconst 0, 1), (39, .istore_n 3, 1), (40, .iload_n 3, 1), (41, .ifCond .eq 27, 3), (44, .aload_n 0, 1), (45, .getfield 55, 3), (48, .iload_n 2, 1), (49, .baload, 1), (50, .ifCond .ne 18, 3), (53, .aload_n 0, 1), (54, .getfield 49, 3), (57, .iload_n 2, 1), (58, .aload_n 0, 1), (59, .getfield 46, 3), (62, .aload_n 0, 1), (63, .invokevirtual 155, 3), (66, .iaload, 1), (67, .iastore, 1)] = true := by decide +kernel
theorem dX11_move_0 : decode cX11_move 0 = .ok (.aload_n 0, 1) := ckS_g gdX11_move_0 0 rfl
theorem dX11_move_1 : decode cX11_move 1 = .ok (.getfield 151, 3) := ckS_g gdX11_move_0 1 rfl
theorem dX11_move_4 : decode cX11_move 4 = .ok (.ifCond .ne 71, 3) := ckS_g gdX11_move_0 2 rfl
theorem dX11_move_7 : decode cX11_move 7 = .ok (.aload_n 0, 1) := ckS_g gdX11_move_0 3 rfl
theorem dX11_move_8 : decode cX11_move 8 = .ok (.getfield 75, 3) := ckS_g gdX11_move_0 4 rfl
theorem dX11_move_11 : decode cX11_move 11 = .ok (.iconst 0, 1) := ckS_g gdX11_move_0 5 rfl
theorem dX11_move_12 : decode cX11_move 12 = .ok (.iaload, 1) := ckS_g gdX11_move_0 6 rfl
theorem dX11_move_13 : decode cX11_move 13 = .ok (.istore_n 2, 1) := ckS_g gdX11_move_0 7 rfl
theorem dX11_move_14 : decode cX11_move 14 = .ok (.aload_n 0, 1) := ckS_g gdX11_move_0 8 rfl
theorem dX11_move_15 : decode cX11_move 15 = .ok (.getfield 22, 3) := ckS_g gdX11_move_0 9 rfl
theorem dX11_move_18 : decode cX11_move 18 = .ok (.iload_n 2, 1) := ckS_g gdX11_move_0 10 rfl
theorem dX11_move_19 : decode cX11_move 19 = .ok (.iaload, 1) := ckS_g gdX11_move_0 11 rfl
theorem dX11_move_20 : decode cX11_move 20 = .ok (.iconst 2, 1) := ckS_g gdX11_move_0 12 rfl
theorem dX11_move_21 : decode cX11_move 21 = .ok (.if_icmp .eq 13, 3) := ckS_g gdX11_move_0 13 rfl
theorem dX11_move_24 : decode cX11_move 24 = .ok (.aload_n 0, 1) := ckS_g gdX11_move_0 14 rfl
theorem dX11_move_25 : decode cX11_move 25 = .ok (.getfield 22, 3) := ckS_g gdX11_move_0 15 rfl
theorem dX11_move_28 : decode cX11_move 28 = .ok (.iload_n 2, 1) := ckS_g gdX11_move_0 16 rfl
theorem dX11_move_29 : decode cX11_move 29 = .ok (.iaload, 1) := ckS_g gdX11_move_0 17 rfl
theorem dX11_move_30 : decode cX11_move 30 = .ok (.iconst 3, 1) := ckS_g gdX11_move_0 18 rfl
theorem dX11_move_31 : decode cX11_move 31 = .ok (.if_icmp .ne 7, 3) := ckS_g gdX11_move_0 19 rfl
theorem dX11_move_34 : decode cX11_move 34 = .ok (.iconst 1, 1) := ckS_g gdX11_move_0 20 rfl
theorem dX11_move_35 : decode cX11_move 35 = .ok (.goto 4, 3) := ckS_g gdX11_move_0 21 rfl
theorem dX11_move_38 : decode cX11_move 38 = .ok (.iconst 0, 1) := ckS_g gdX11_move_0 22 rfl
theorem dX11_move_39 : decode cX11_move 39 = .ok (.istore_n 3, 1) := ckS_g gdX11_move_0 23 rfl
theorem dX11_move_40 : decode cX11_move 40 = .ok (.iload_n 3, 1) := ckS_g gdX11_move_0 24 rfl
theorem dX11_move_41 : decode cX11_move 41 = .ok (.ifCond .eq 27, 3) := ckS_g gdX11_move_0 25 rfl
theorem dX11_move_44 : decode cX11_move 44 = .ok (.aload_n 0, 1) := ckS_g gdX11_move_0 26 rfl
theorem dX11_move_45 : decode cX11_move 45 = .ok (.getfield 55, 3) := ckS_g gdX11_move_0 27 rfl
theorem dX11_move_48 : decode cX11_move 48 = .ok (.iload_n 2, 1) := ckS_g gdX11_move_0 28 rfl
theorem dX11_move_49 : decode cX11_move 49 = .ok (.baload, 1) := ckS_g gdX11_move_0 29 rfl
theorem dX11_move_50 : decode cX11_move 50 = .ok (.ifCond .ne 18, 3) := ckS_g gdX11_move_0 30 rfl
theorem dX11_move_53 : decode cX11_move 53 = .ok (.aload_n 0, 1) := ckS_g gdX11_move_0 31 rfl
theorem dX11_move_54 : decode cX11_move 54 = .ok (.getfield 49, 3) := ckS_g gdX11_move_0 32 rfl
theorem dX11_move_57 : decode cX11_move 57 = .ok (.iload_n 2, 1) := ckS_g gdX11_move_0 33 rfl
theorem dX11_move_58 : decode cX11_move 58 = .ok (.aload_n 0, 1) := ckS_g gdX11_move_0 34 rfl
theorem dX11_move_59 : decode cX11_move 59 = .ok (.getfield 46, 3) := ckS_g gdX11_move_0 35 rfl
theorem dX11_move_62 : decode cX11_move 62 = .ok (.aload_n 0, 1) := ckS_g gdX11_move_0 36 rfl
theorem dX11_move_63 : decode cX11_move 63 = .ok (.invokevirtual 155, 3) := ckS_g gdX11_move_0 37 rfl
theorem dX11_move_66 : decode cX11_move 66 = .ok (.iaload, 1) := ckS_g gdX11_move_0 38 rfl
theorem dX11_move_67 : decode cX11_move 67 = .ok (.iastore, 1) := ckS_g gdX11_move_0 39 rfl
theorem gdX11_move_68 : ckS (List.drop 68 cX11_move.data.toList) 68 [(68, .aload_n 0, 1), (69, .getfield 25, 3), (72, .iload_n 2, 1), (73, .iload_n 1, 1), (74, .iastore, 1), (75, .iconst 0, 1), (76, .istore_n 2, 1), (77, .iload_n 2, 1), (78, .aload_n 0, 1), (79, .getfield 130, 3), (82, .if_icmp .ge 26, 3), (85, .aload_n 0, 1), (86, .getfield 72, 3), (89, .aload_n 0, 1), (90, .getfield 115, 3), (93, .iload_n 2, 1), (94, .iadd, 1), (95, .aload_n 0, 1), (96, .getfield 75, 3), (99, .iload_n 2, 1), (100, .iaload, 1), (101, .iastore, 1), (102, .iinc 2 1, 3), (105, .goto (-28), 3), (108, .aload_n 0, 1), (109, .dup, 1), (110, .getfield 115, 3), (113, .aload_n 0, 1), (114, .getfield 130, 3), (117, .iadd, 1), (118, .putfield 115, 3), (121, .aload_n 0, 1), (122, .iconst 0, 1), (123, .putfield 130, 3), (126, .aload_n 0, 1), (127, .iconst (-1), 1), (128, .putfield 112, 3), (131, .aload_n 0, 1), (132, .getfield 115, 3), (135, .ireturn, 1)] = true := by decide +kernel
theorem dX11_move_68 : decode cX11_move 68 = .ok (.aload_n 0, 1) := ckS_g gdX11_move_68 0 rfl
theorem dX11_move_69 : decode cX11_move 69 = .ok (.getfield 25, 3) := ckS_g gdX11_move_68 1 rfl
theorem dX11_move_72 : decode cX11_move 72 = .ok (.iload_n 2, 1) := ckS_g gdX11_move_68 2 rfl
theorem dX11_move_73 : decode cX11_move 73 = .ok (.iload_n 1, 1) := ckS_g gdX11_move_68 3 rfl
theorem dX11_move_74 : decode cX11_move 74 = .ok (.iastore, 1) := ckS_g gdX11_move_68 4 rfl
theorem dX11_move_75 : decode cX11_move 75 = .ok (.iconst 0, 1) := ckS_g gdX11_move_68 5 rfl
theorem dX11_move_76 : decode cX11_move 76 = .ok (.istore_n 2, 1) := ckS_g gdX11_move_68 6 rfl
theorem dX11_move_77 : decode cX11_move 77 = .ok (.iload_n 2, 1) := ckS_g gdX11_move_68 7 rfl
theorem dX11_move_78 : decode cX11_move 78 = .ok (.aload_n 0, 1) := ckS_g gdX11_move_68 8 rfl
theorem dX11_move_79 : decode cX11_move 79 = .ok (.getfield 130, 3) := ckS_g gdX11_move_68 9 rfl
theorem dX11_move_82 : decode cX11_move 82 = .ok (.if_icmp .ge 26, 3) := ckS_g gdX11_move_68 10 rfl
theorem dX11_move_85 : decode cX11_move 85 = .ok (.aload_n 0, 1) := ckS_g gdX11_move_68 11 rfl
theorem dX11_move_86 : decode cX11_move 86 = .ok (.getfield 72, 3) := ckS_g gdX11_move_68 12 rfl
theorem dX11_move_89 : decode cX11_move 89 = .ok (.aload_n 0, 1) := ckS_g gdX11_move_68 13 rfl
theorem dX11_move_90 : decode cX11_move 90 = .ok (.getfield 115, 3) := ckS_g gdX11_move_68 14 rfl
theorem dX11_move_93 : decode cX11_move 93 = .ok (.iload_n 2, 1) := ckS_g gdX11_move_68 15 rfl
theorem dX11_move_94 : decode cX11_move 94 = .ok (.iadd, 1) := ckS_g gdX11_move_68 16 rfl
theorem dX11_move_95 : decode cX11_move 95 = .ok (.aload_n 0, 1) := ckS_g gdX11_move_68 17 rfl
theorem dX11_move_96 : decode cX11_move 96 = .ok (.getfield 75, 3) := ckS_g gdX11_move_68 18 rfl
theorem dX11_move_99 : decode cX11_move 99 = .ok (.iload_n 2, 1) := ckS_g gdX11_move_68 19 rfl
theorem dX11_move_100 : decode cX11_move 100 = .ok (.iaload, 1) := ckS_g gdX11_move_68 20 rfl
theorem dX11_move_101 : decode cX11_move 101 = .ok (.iastore, 1) := ckS_g gdX11_move_68 21 rfl
theorem dX11_move_102 : decode cX11_move 102 = .ok (.iinc 2 1, 3) := ckS_g gdX11_move_68 22 rfl
theorem dX11_move_105 : decode cX11_move 105 = .ok (.goto (-28), 3) := ckS_g gdX11_move_68 23 rfl
theorem dX11_move_108 : decode cX11_move 108 = .ok (.aload_n 0, 1) := ckS_g gdX11_move_68 24 rfl
theorem dX11_move_109 : decode cX11_move 109 = .ok (.dup, 1) := ckS_g gdX11_move_68 25 rfl
theorem dX11_move_110 : decode cX11_move 110 = .ok (.getfield 115, 3) := ckS_g gdX11_move_68 26 rfl
theorem dX11_move_113 : decode cX11_move 113 = .ok (.aload_n 0, 1) := ckS_g gdX11_move_68 27 rfl
theorem dX11_move_114 : decode cX11_move 114 = .ok (.getfield 130, 3) := ckS_g gdX11_move_68 28 rfl
theorem dX11_move_117 : decode cX11_move 117 = .ok (.iadd, 1) := ckS_g gdX11_move_68 29 rfl
theorem dX11_move_118 : decode cX11_move 118 = .ok (.putfield 115, 3) := ckS_g gdX11_move_68 30 rfl
theorem dX11_move_121 : decode cX11_move 121 = .ok (.aload_n 0, 1) := ckS_g gdX11_move_68 31 rfl
theorem dX11_move_122 : decode cX11_move 122 = .ok (.iconst 0, 1) := ckS_g gdX11_move_68 32 rfl
theorem dX11_move_123 : decode cX11_move 123 = .ok (.putfield 130, 3) := ckS_g gdX11_move_68 33 rfl
theorem dX11_move_126 : decode cX11_move 126 = .ok (.aload_n 0, 1) := ckS_g gdX11_move_68 34 rfl
theorem dX11_move_127 : decode cX11_move 127 = .ok (.iconst (-1), 1) := ckS_g gdX11_move_68 35 rfl
theorem dX11_move_128 : decode cX11_move 128 = .ok (.putfield 112, 3) := ckS_g gdX11_move_68 36 rfl
theorem dX11_move_131 : decode cX11_move 131 = .ok (.aload_n 0, 1) := ckS_g gdX11_move_68 37 rfl
theorem dX11_move_132 : decode cX11_move 132 = .ok (.getfield 115, 3) := ckS_g gdX11_move_68 38 rfl
theorem dX11_move_135 : decode cX11_move 135 = .ok (.ireturn, 1) := ckS_g gdX11_move_68 39 rfl
set_option maxRecDepth 100000 in
theorem z144 : wZ (.code yX11_move cX11_move 4 (some .int)) := ⟨wT6 (List.mem_of_getElem? (i := 84) rfl), Or.inl rfl⟩
def st_X11_move_77 (S : HS) (x1 x2 : Int32) : (Int32 × HS) ⊕ (HS × Int32 × Int32) := if (S.1 35) ≤ x2 then Sum.inl ((((sI (sI (sI S 6 ((S.1 6) + (S.1 35))) 35 0) 5 (-1)).1 6), (sI (sI (sI S 6 ((S.1 6) + (S.1 35))) 35 0) 5 (-1)))) else Sum.inr ((sA S 31 ((S.1 6) + x2).toNatClampNeg (S.2 32 x2.toNatClampNeg)), x1, (x2 + 1))
def ps_X11_move_77 (S : HS) (x1 x2 : Int32) : Prop := (if (S.1 35) ≤ x2 then True else (vp_in x2 9) ∧ (vp_in ((S.1 6) + x2) 9) ∧ True)
def lp_X11_move_77 : Nat → HS → Int32 → Int32 → Int32 × HS
  | 0, S, _, _ => (0, S)
  | n + 1, S, x1, x2 => match st_X11_move_77 S x1 x2 with
    | Sum.inl r => r
    | Sum.inr q => lp_X11_move_77 n q.1 q.2.1 q.2.2
def lq_X11_move_77 : Nat → HS → Int32 → Int32 → Prop
  | 0, _, _, _ => False
  | n + 1, S, x1, x2 => ps_X11_move_77 S x1 x2 ∧ (match st_X11_move_77 S x1 x2 with
    | Sum.inl _ => True
    | Sum.inr q => lq_X11_move_77 n q.1 q.2.1 q.2.2)
def b_X11_move_75 (S : HS) (x1 : Int32) : Int32 × HS := (lp_X11_move_77 100000 S x1 0)
def q_X11_move_75 (S : HS) (x1 : Int32) : Prop := (lq_X11_move_77 100000 S x1 0)
def b_X11_move_68 (S : HS) (x1 x2 x3 : Int32) : Int32 × HS := (b_X11_move_75 (sA S 15 x2.toNatClampNeg x1) x1)
def q_X11_move_68 (S : HS) (x1 x2 x3 : Int32) : Prop := (vp_in x2 90) ∧ (q_X11_move_75 (sA S 15 x2.toNatClampNeg x1) x1)
def b_X11_move_a66 (S : HS) (x1 x2 x3 y0 y1 : Int32) : Int32 × HS := (b_X11_move_68 (sA S 23 y1.toNatClampNeg (S.2 22 y0.toNatClampNeg)) x1 x2 x3)
def q_X11_move_a66 (S : HS) (x1 x2 x3 y0 y1 : Int32) : Prop := (vp_in y0 90) ∧ (vp_in y1 90) ∧ (q_X11_move_68 (sA S 23 y1.toNatClampNeg (S.2 22 y0.toNatClampNeg)) x1 x2 x3)
def b_X11_move_39 (S : HS) (x1 x2 y0 : Int32) : Int32 × HS := if y0 = 0 then (b_X11_move_68 S x1 x2 y0) else if (S.2 25 x2.toNatClampNeg) = 0 then (b_X11_move_a66 (f_X11_top S ).2 x1 x2 y0 (f_X11_top S ).1 x2) else (b_X11_move_68 S x1 x2 y0)
def q_X11_move_39 (S : HS) (x1 x2 y0 : Int32) : Prop := (if y0 = 0 then (q_X11_move_68 S x1 x2 y0) else (vp_in x2 90) ∧ (if (S.2 25 x2.toNatClampNeg) = 0 then (p_X11_top S ) ∧ (q_X11_move_a66 (f_X11_top S ).2 x1 x2 y0 (f_X11_top S ).1 x2) else (q_X11_move_68 S x1 x2 y0)))
def b_X11_move_34 (S : HS) (x1 x2 : Int32) : Int32 × HS := (b_X11_move_39 S x1 x2 1)
def q_X11_move_34 (S : HS) (x1 x2 : Int32) : Prop := (q_X11_move_39 S x1 x2 1)
def f_X11_move (S : HS) (x1 : Int32) : Int32 × HS := if (S.1 36) = 0 then if (S.2 14 (S.2 32 (0 : Int32).toNatClampNeg).toNatClampNeg) = 2 then (b_X11_move_34 S x1 (S.2 32 (0 : Int32).toNatClampNeg)) else if (S.2 14 (S.2 32 (0 : Int32).toNatClampNeg).toNatClampNeg) = 3 then (b_X11_move_34 S x1 (S.2 32 (0 : Int32).toNatClampNeg)) else (b_X11_move_39 S x1 (S.2 32 (0 : Int32).toNatClampNeg) 0) else (b_X11_move_75 S x1)
def p_X11_move (S : HS) (x1 : Int32) : Prop := (if (S.1 36) = 0 then (vp_in 0 9) ∧ (vp_in (S.2 32 (0 : Int32).toNatClampNeg) 90) ∧ (if (S.2 14 (S.2 32 (0 : Int32).toNatClampNeg).toNatClampNeg) = 2 then (q_X11_move_34 S x1 (S.2 32 (0 : Int32).toNatClampNeg)) else (vp_in (S.2 32 (0 : Int32).toNatClampNeg) 90) ∧ (if (S.2 14 (S.2 32 (0 : Int32).toNatClampNeg).toNatClampNeg) = 3 then (q_X11_move_34 S x1 (S.2 32 (0 : Int32).toNatClampNeg)) else (q_X11_move_39 S x1 (S.2 32 (0 : Int32).toNatClampNeg) 0))) else (q_X11_move_75 S x1))
def e_X11_move : List Cond := [.fieldLink RX11 151 "MotionFloorModel$Hall" "draftTabled" "Z", .fieldLink RX11 130 "MotionFloorModel$Hall" "drafted" "I", .fieldLink RX11 115 "MotionFloorModel$Hall" "pending" "I", .fieldLink RX11 112 "MotionFloorModel$Hall" "floor" "I", .fieldLink RX11 72 "MotionFloorModel$Hall" "row" "[I", .fieldLink RX11 75 "MotionFloorModel$Hall" "draft" "[I", .fieldLink RX11 22 "MotionFloorModel$Hall" "kind" "[I", .fieldLink RX11 25 "MotionFloorModel$Hall" "mover" "[I", .fieldLink RX11 55 "MotionFloorModel$Hall" "laid" "[Z", .fieldLink RX11 49 "MotionFloorModel$Hall" "subject" "[I", .fieldLink RX11 46 "MotionFloorModel$Hall" "self" "[I", .methodLink RX11 155 yX11_top, .instanceMethod yX11_top, .selects RX11 yX11_top yX11_top, .initialized RX11]
def v_X11_move : List Cond := .code yX11_move cX11_move 4 (some .int) :: (e_X11_move ++ (wsX110 ++ (v_X11_top ++ [])))
theorem te_X11_move : GoodIn lw_tbl e_X11_move := wGc z85 (wGc z86 (wGc z56 (wGc z118 (wGc z57 (wGc z84 (wGc z78 (wGc z77 (wGc z72 (wGc z73 (wGc z63 (wGc z91 (wGc z90 (wGc z89 (wGc z51 (wG0)))))))))))))))
theorem t_X11_move : GoodIn lw_tbl v_X11_move := wGc z144 (wGa te_X11_move (wGa zcX11 (wGa t_X11_top (wG0))))
set_option maxHeartbeats 4000000 in
set_option maxRecDepth 100000 in
theorem c_X11_move (l : Launch) (G : va_G) (K : Nat → ClassId) (h : Nat) (g : Nat → Nat) (S0 : HS) (a1 : Int32) (sz : Nat) : Met l yX11_move v_X11_move ({ frames := 1, cells := 0, slots := 0, locals := 20 }) (va_Pc [.ref h, .int a1] (hS G K h g sz S0 (p_X11_move S0 a1))) (va_Qi (fun (r : Int32) (u : HS) => (r, u) = f_X11_move S0 a1) (hB G K h g (va_A (hW K h g S0) sz)) (va_A (hW K h g S0) sz)) 0 0 (va_A (hW K h g S0) sz) := by
  refine Met.ofW (cc := cX11_move) (maxL := 4) (ret := (some .int)) (by decide) rfl ?_
  intro p e s m args below meth c s₁ B hml hv
  obtain ⟨rfl, ⟨hsz, hP, hK, hD0, hTE⟩, hp⟩ := hv
  have hx := B.exec
  have hb := B.bytes
  have hr := B.returns
  have hts := atoms_spec (ws := v_X11_move) B.pre
  have t_ := t_X11_move
  have mw : ∀ w ∈ e_X11_move, w ∈ v_X11_move := fun w h => List.mem_cons_of_mem _ (List.mem_append_left _ h)
  have hw := fun w (h : w ∈ e_X11_move) => hts w (mw w h)
  have iX11 : ∀ w ∈ wsX110, w ∈ v_X11_move := fun w h => List.mem_cons_of_mem _ (List.mem_append_right _ (List.mem_append_left _ h))
  have j_X11_top : ∀ w ∈ v_X11_top, w ∈ v_X11_move := fun w h => List.mem_cons_of_mem _ (List.mem_append_right _ (List.mem_append_right _ (List.mem_append_left _ h)))
  have hown : s.vm.findClass RX11 = some m.cls := findClass_of_methodNamed B.named
  have hlocks := B.notSynchronized
  subst hsz
  have hD := hD0.self (sz := s.heap.size)
  generalize hAe : va_A (hW K h g S0) s.heap.size = A at hD ⊢
  have hA : ∀ q : Nat, s.heap.size ≤ q → A q := fun q h => by rw [← hAe]; exact Or.inr h
  have hS : va_S A s.heap s.heap [] := va_S.rf
  have hl := lv_entry ([.ref h, .int a1]) (n := 4) (Nat.le_of_ble_eq_true rfl)
  rw [lg_entry_eq]
  generalize (lg_sl ([.ref h, .int a1]) ++ List.replicate (4 - (lg_sl ([.ref h, .int a1])).length) Slot.unset).toArray = ls at hl ⊢
  have hl : lv_has ls 4 [(0, .ref h), (1, .int a1)] := hl
  refine wGen (fun Q hQ => ?_)
  obtain ⟨X, hX⟩ : ∃ X, f_X11_move S0 a1 = X := ⟨_, rfl⟩
  have L_77 : ∀ (n : Nat) (S : HS) (x1 x2 : Int32) (H : Heap) (locs : List Loc) (ls : Array Slot), lp_X11_move_77 n S x1 x2 = X → lq_X11_move_77 n S x1 x2 → va_P G vwCl (hW K h g S) H → va_D A (hW K h g S) → va_S A s.heap H locs → lv_has ls 4 [(0, .ref h), (1, .int x1), (2, .int x2)] → W p l e ({ frames := 1, cells := 0, slots := 0, locals := 20 } : Room) s m #[Value.ref h, Value.int a1] below meth c H locs 0 0 Q (F0 m 77 ls []) := by
    intro n1
    induction n1 with
    | zero => intro S x1 x2 H locs ls hE hp; exact False.elim hp
    | succ n1 ih1 =>
      intro S x1 x2 H locs ls hO1 hp hP hD hS hl
      rw [lp_X11_move_77] at hO1
      rw [lq_X11_move_77] at hp
      obtain ⟨hp, hq1⟩ := hp
      generalize hE : st_X11_move_77 S x1 x2 = Y1 at hO1 hq1
      unfold st_X11_move_77 at hE
      unfold ps_X11_move_77 at hp
      refine lv_iload_n hx hb dX11_move_77 rfl (lv_at hl 2 rfl) ?_
      refine lv_aload_n hx hb dX11_move_78 rfl (lv_at hl 0 rfl) ?_
      refine va_get (D := G) (ci := 8) (v := .int (S.1 35)) (C := RX11) (T := TX11) (N := 42) hx hb hts iX11 hown hK hP 0 rfl rfl 35 (by decide) (hw (.fieldLink RX11 130 "MotionFloorModel$Hall" "drafted" "I") (List.mem_of_getElem? (i := 1) rfl)) (fun _ h9 => h9) rfl dX11_move_79 ?_
      refine lv_icmp_ge (tgt := 108) hx hb dX11_move_82 (by decide) (fun c2 => ?_) (fun c2 => ?_)
      · rw [if_pos c2] at hE hp
        subst hE
        have hE := hO1
        dsimp only at hE
        refine lv_aload_n hx hb dX11_move_108 rfl (lv_at hl 0 rfl) ?_
        refine lv_dup hx hb dX11_move_109 rfl ?_
        refine va_get (D := G) (ci := 8) (v := .int (S.1 6)) (C := RX11) (T := TX11) (N := 42) hx hb hts iX11 hown hK hP 0 rfl rfl 6 (by decide) (hw (.fieldLink RX11 115 "MotionFloorModel$Hall" "pending" "I") (List.mem_of_getElem? (i := 2) rfl)) (fun _ h9 => h9) rfl dX11_move_110 ?_
        refine lv_aload_n hx hb dX11_move_113 rfl (lv_at hl 0 rfl) ?_
        refine va_get (D := G) (ci := 8) (v := .int (S.1 35)) (C := RX11) (T := TX11) (N := 42) hx hb hts iX11 hown hK hP 0 rfl rfl 35 (by decide) (hw (.fieldLink RX11 130 "MotionFloorModel$Hall" "drafted" "I") (List.mem_of_getElem? (i := 1) rfl)) (fun _ h9 => h9) rfl dX11_move_114 ?_
        refine lv_iadd hx hb dX11_move_117 ?_
        refine va_put (D := G) (ci := 8) (v := .int ((S.1 6) + (S.1 35))) (ty := .int) (C := RX11) (T := TX11) (N := 42) hx hb hts iX11 tyX11 tyX11_ok nmX11 hown hK hP hD hS 0 rfl rfl 6 (by decide) (hw (.fieldLink RX11 115 "MotionFloorModel$Hall" "pending" "I") (List.mem_of_getElem? (i := 2) rfl)) (fun _ h9 => h9) rfl (by decide +kernel) rfl rfl (Nat.le_of_ble_eq_true rfl) dX11_move_118 (fun H locs hP hD hS => ?_)
        rw [sI_6] at hP hD
        refine lv_aload_n hx hb dX11_move_121 rfl (lv_at hl 0 rfl) ?_
        refine lv_iconst (v := 0) hx hb dX11_move_122 (by decide) ?_
        refine va_put (D := G) (ci := 8) (v := .int 0) (ty := .int) (C := RX11) (T := TX11) (N := 42) hx hb hts iX11 tyX11 tyX11_ok nmX11 hown hK hP hD hS 0 rfl rfl 35 (by decide) (hw (.fieldLink RX11 130 "MotionFloorModel$Hall" "drafted" "I") (List.mem_of_getElem? (i := 1) rfl)) (fun _ h9 => h9) rfl (by decide +kernel) rfl rfl (Nat.le_of_ble_eq_true rfl) dX11_move_123 (fun H locs hP hD hS => ?_)
        rw [sI_35] at hP hD
        refine lv_aload_n hx hb dX11_move_126 rfl (lv_at hl 0 rfl) ?_
        refine lv_iconst (v := (-1)) hx hb dX11_move_127 (by decide) ?_
        refine va_put (D := G) (ci := 8) (v := .int (-1)) (ty := .int) (C := RX11) (T := TX11) (N := 42) hx hb hts iX11 tyX11 tyX11_ok nmX11 hown hK hP hD hS 0 rfl rfl 5 (by decide) (hw (.fieldLink RX11 112 "MotionFloorModel$Hall" "floor" "I") (List.mem_of_getElem? (i := 3) rfl)) (fun _ h9 => h9) rfl (by decide +kernel) rfl rfl (Nat.le_of_ble_eq_true rfl) dX11_move_128 (fun H locs hP hD hS => ?_)
        rw [sI_5] at hP hD
        refine lv_aload_n hx hb dX11_move_131 rfl (lv_at hl 0 rfl) ?_
        refine va_get (D := G) (ci := 8) (v := .int ((sI (sI (sI S 6 ((S.1 6) + (S.1 35))) 35 0) 5 (-1)).1 6)) (C := RX11) (T := TX11) (N := 42) hx hb hts iX11 hown hK hP 0 rfl rfl 6 (by decide) (hw (.fieldLink RX11 115 "MotionFloorModel$Hall" "pending" "I") (List.mem_of_getElem? (i := 2) rfl)) (fun _ h9 => h9) rfl dX11_move_132 ?_
        subst hQ
        exact W.iret (v := ((sI (sI (sI S 6 ((S.1 6) + (S.1 35))) 35 0) 5 (-1)).1 6)) hx hb hr (fun t ht hW => ⟨⟨((sI (sI (sI S 6 ((S.1 6) + (S.1 35))) 35 0) 5 (-1)).1 6), (sI (sI (sI S 6 ((S.1 6) + (S.1 35))) 35 0) 5 (-1)), rfl, hE.trans hX.symm, by rw [ht]; exact hP, hD⟩, hS.F ht⟩) hS.2.2 dX11_move_135
      · rw [if_neg c2] at hE hp
        refine lv_aload_n hx hb dX11_move_85 rfl (lv_at hl 0 rfl) ?_
        refine va_get (D := G) (ci := 8) (v := .ref (g 31)) (C := RX11) (T := TX11) (N := 42) hx hb hts iX11 hown hK hP 0 rfl rfl 31 (by decide) (hw (.fieldLink RX11 72 "MotionFloorModel$Hall" "row" "[I") (List.mem_of_getElem? (i := 4) rfl)) (fun _ h9 => h9) rfl dX11_move_86 ?_
        refine lv_aload_n hx hb dX11_move_89 rfl (lv_at hl 0 rfl) ?_
        refine va_get (D := G) (ci := 8) (v := .int (S.1 6)) (C := RX11) (T := TX11) (N := 42) hx hb hts iX11 hown hK hP 0 rfl rfl 6 (by decide) (hw (.fieldLink RX11 115 "MotionFloorModel$Hall" "pending" "I") (List.mem_of_getElem? (i := 2) rfl)) (fun _ h9 => h9) rfl dX11_move_90 ?_
        refine lv_iload_n hx hb dX11_move_93 rfl (lv_at hl 2 rfl) ?_
        refine lv_iadd hx hb dX11_move_94 ?_
        refine lv_aload_n hx hb dX11_move_95 rfl (lv_at hl 0 rfl) ?_
        refine va_get (D := G) (ci := 8) (v := .ref (g 32)) (C := RX11) (T := TX11) (N := 42) hx hb hts iX11 hown hK hP 0 rfl rfl 32 (by decide) (hw (.fieldLink RX11 75 "MotionFloorModel$Hall" "draft" "[I") (List.mem_of_getElem? (i := 5) rfl)) (fun _ h9 => h9) rfl dX11_move_96 ?_
        refine lv_iload_n hx hb dX11_move_99 rfl (lv_at hl 2 rfl) ?_
        obtain ⟨hy3, hp⟩ := hp
        refine va_iald hx hb hK hP 21 0 rfl rfl hy3 dX11_move_100 ?_
        obtain ⟨hy4, hp⟩ := hp
        refine va_iast hx hb hK hP hD hS 20 0 rfl rfl hy4 dX11_move_101 (fun H locs hP hD hS => ?_)
        rw [sA_31] at hP hD
        refine lv_iinc (v := (x2 + 1)) (lv' := [(2, .int (x2 + 1)), (0, .ref h), (1, .int x1)]) hx hb dX11_move_102 hl (k := 2) rfl rfl (by decide) rfl (fun ls hl => ?_)
        refine lv_goto (tgt := 77) hx hb dX11_move_105 (by decide) ?_
        subst hE
        dsimp only at hO1 hq1
        exact ih1 (sA S 31 ((S.1 6) + x2).toNatClampNeg (S.2 32 x2.toNatClampNeg)) x1 (x2 + 1) _ _ _ hO1 hq1 hP hD hS (lv_sub hl [1, 2, 0] rfl)
  have B_75 : ∀ (S : HS) (x1 : Int32) (H : Heap) (locs : List Loc) (ls : Array Slot), b_X11_move_75 S x1 = X → q_X11_move_75 S x1 → va_P G vwCl (hW K h g S) H → va_D A (hW K h g S) → va_S A s.heap H locs → lv_has ls 4 [(0, .ref h), (1, .int x1)] → W p l e ({ frames := 1, cells := 0, slots := 0, locals := 20 } : Room) s m #[Value.ref h, Value.int a1] below meth c H locs 0 0 Q (F0 m 75 ls []) := by
    intro S x1 H locs ls hE hp hP hD hS hl
    unfold b_X11_move_75 at hE
    unfold q_X11_move_75 at hp
    refine lv_iconst (v := 0) hx hb dX11_move_75 (by decide) ?_
    refine lv_istore_n (lv' := [(2, .int 0), (0, .ref h), (1, .int x1)]) hx hb dX11_move_76 rfl hl (by decide) rfl (fun ls hl => ?_)
    exact L_77 100000 S x1 0 _ _ _ hE hp hP hD hS (lv_sub hl [1, 2, 0] rfl)
  have B_68 : ∀ (S : HS) (x1 x2 x3 : Int32) (H : Heap) (locs : List Loc) (ls : Array Slot), b_X11_move_68 S x1 x2 x3 = X → q_X11_move_68 S x1 x2 x3 → va_P G vwCl (hW K h g S) H → va_D A (hW K h g S) → va_S A s.heap H locs → lv_has ls 4 [(0, .ref h), (1, .int x1), (2, .int x2), (3, .int x3)] → W p l e ({ frames := 1, cells := 0, slots := 0, locals := 20 } : Room) s m #[Value.ref h, Value.int a1] below meth c H locs 0 0 Q (F0 m 68 ls []) := by
    intro S x1 x2 x3 H locs ls hE hp hP hD hS hl
    unfold b_X11_move_68 at hE
    unfold q_X11_move_68 at hp
    refine lv_aload_n hx hb dX11_move_68 rfl (lv_at hl 0 rfl) ?_
    refine va_get (D := G) (ci := 8) (v := .ref (g 15)) (C := RX11) (T := TX11) (N := 42) hx hb hts iX11 hown hK hP 0 rfl rfl 15 (by decide) (hw (.fieldLink RX11 25 "MotionFloorModel$Hall" "mover" "[I") (List.mem_of_getElem? (i := 7) rfl)) (fun _ h9 => h9) rfl dX11_move_69 ?_
    refine lv_iload_n hx hb dX11_move_72 rfl (lv_at hl 2 rfl) ?_
    refine lv_iload_n hx hb dX11_move_73 rfl (lv_at hl 1 rfl) ?_
    obtain ⟨hy9, hp⟩ := hp
    refine va_iast hx hb hK hP hD hS 5 0 rfl rfl hy9 dX11_move_74 (fun H locs hP hD hS => ?_)
    rw [sA_15] at hP hD
    exact B_75 (sA S 15 x2.toNatClampNeg x1) x1 _ _ _ hE hp hP hD hS (lv_sub hl [0, 1] rfl)
  have B_39 : ∀ (S : HS) (x1 x2 y0 : Int32) (H : Heap) (locs : List Loc) (ls : Array Slot), b_X11_move_39 S x1 x2 y0 = X → q_X11_move_39 S x1 x2 y0 → va_P G vwCl (hW K h g S) H → va_D A (hW K h g S) → va_S A s.heap H locs → lv_has ls 4 [(0, .ref h), (1, .int x1), (2, .int x2)] → W p l e ({ frames := 1, cells := 0, slots := 0, locals := 20 } : Room) s m #[Value.ref h, Value.int a1] below meth c H locs 0 0 Q (F0 m 39 ls [.int y0]) := by
    intro S x1 x2 y0 H locs ls hE hp hP hD hS hl
    unfold b_X11_move_39 at hE
    unfold q_X11_move_39 at hp
    refine lv_istore_n (lv' := [(3, .int y0), (0, .ref h), (1, .int x1), (2, .int x2)]) hx hb dX11_move_39 rfl hl (by decide) rfl (fun ls hl => ?_)
    refine lv_iload_n hx hb dX11_move_40 rfl (lv_at hl 0 rfl) ?_
    refine lv_if_eq (tgt := 68) hx hb dX11_move_41 (by decide) (fun c8 => ?_) (fun c8 => ?_)
    · rw [if_pos c8] at hE hp
      exact B_68 S x1 x2 y0 _ _ _ hE hp hP hD hS (lv_sub hl [1, 2, 3, 0] rfl)
    · rw [if_neg c8] at hE hp
      refine lv_aload_n hx hb dX11_move_44 rfl (lv_at hl 1 rfl) ?_
      refine va_get (D := G) (ci := 8) (v := .ref (g 25)) (C := RX11) (T := TX11) (N := 42) hx hb hts iX11 hown hK hP 0 rfl rfl 25 (by decide) (hw (.fieldLink RX11 55 "MotionFloorModel$Hall" "laid" "[Z") (List.mem_of_getElem? (i := 8) rfl)) (fun _ h9 => h9) rfl dX11_move_45 ?_
      refine lv_iload_n hx hb dX11_move_48 rfl (lv_at hl 3 rfl) ?_
      obtain ⟨hy10, hp⟩ := hp
      refine va_zald hx hb hK hP 15 1 rfl rfl hy10 dX11_move_49 ?_
      refine lv_if_ne (tgt := 68) hx hb dX11_move_50 (by decide) (fun c11 => ?_) (fun c11 => ?_)
      · rw [if_neg c11] at hE hp
        exact B_68 S x1 x2 y0 _ _ _ hE hp hP hD hS (lv_sub hl [1, 2, 3, 0] rfl)
      · rw [if_pos c11] at hE hp
        refine lv_aload_n hx hb dX11_move_53 rfl (lv_at hl 1 rfl) ?_
        refine va_get (D := G) (ci := 8) (v := .ref (g 23)) (C := RX11) (T := TX11) (N := 42) hx hb hts iX11 hown hK hP 0 rfl rfl 23 (by decide) (hw (.fieldLink RX11 49 "MotionFloorModel$Hall" "subject" "[I") (List.mem_of_getElem? (i := 9) rfl)) (fun _ h9 => h9) rfl dX11_move_54 ?_
        refine lv_iload_n hx hb dX11_move_57 rfl (lv_at hl 3 rfl) ?_
        refine lv_aload_n hx hb dX11_move_58 rfl (lv_at hl 1 rfl) ?_
        refine va_get (D := G) (ci := 8) (v := .ref (g 22)) (C := RX11) (T := TX11) (N := 42) hx hb hts iX11 hown hK hP 0 rfl rfl 22 (by decide) (hw (.fieldLink RX11 46 "MotionFloorModel$Hall" "self" "[I") (List.mem_of_getElem? (i := 10) rfl)) (fun _ h9 => h9) rfl dX11_move_59 ?_
        refine lv_aload_n hx hb dX11_move_62 rfl (lv_at hl 1 rfl) ?_
        obtain ⟨hy12, hp⟩ := hp
        refine hGoi (va_runV (As := []) (rest := [.ref (g 22), .int x2, .ref (g 23)]) ⟨hx, hb, hml, hown, hts⟩ (c_X11_top l G K h g S _) (cwV 0 hts (wGV t_ (mw (.methodLink RX11 155 yX11_top) (List.mem_of_getElem? (i := 11) rfl)) (mw (.instanceMethod yX11_top) (List.mem_of_getElem? (i := 12) rfl)) (mw (.selects RX11 yX11_top yX11_top) (List.mem_of_getElem? (i := 13) rfl)) (mw (.initialized RX11) (List.mem_of_getElem? (i := 14) rfl)) j_X11_top) rfl rfl rfl (by decide +kernel) ⟨Nat.le_of_ble_eq_true rfl, Nat.le_of_ble_eq_true rfl⟩) (hPV hK hTE hP hD hy12) rfl rfl hl.1 rfl (lv_room (Nat.le_of_ble_eq_true rfl)) dX11_move_63 ⟨Nat.le_of_ble_eq_true rfl, Nat.le_of_ble_eq_true rfl⟩) hP hD hS hA (fun r14 u13 H locs hv hP hD hS => ?_)
        rw [← hv] at hE hp
        dsimp only at hE hp
        unfold b_X11_move_a66 at hE
        unfold q_X11_move_a66 at hp
        obtain ⟨hy15, hp⟩ := hp
        refine va_iald hx hb hK hP 12 0 rfl rfl hy15 dX11_move_66 ?_
        obtain ⟨hy16, hp⟩ := hp
        refine va_iast hx hb hK hP hD hS 13 0 rfl rfl hy16 dX11_move_67 (fun H locs hP hD hS => ?_)
        rw [sA_23] at hP hD
        exact B_68 (sA u13 23 x2.toNatClampNeg (u13.2 22 r14.toNatClampNeg)) x1 x2 y0 _ _ _ hE hp hP hD hS (lv_sub hl [1, 2, 3, 0] rfl)
  have B_34 : ∀ (S : HS) (x1 x2 : Int32) (H : Heap) (locs : List Loc) (ls : Array Slot), b_X11_move_34 S x1 x2 = X → q_X11_move_34 S x1 x2 → va_P G vwCl (hW K h g S) H → va_D A (hW K h g S) → va_S A s.heap H locs → lv_has ls 4 [(0, .ref h), (1, .int x1), (2, .int x2)] → W p l e ({ frames := 1, cells := 0, slots := 0, locals := 20 } : Room) s m #[Value.ref h, Value.int a1] below meth c H locs 0 0 Q (F0 m 34 ls []) := by
    intro S x1 x2 H locs ls hE hp hP hD hS hl
    unfold b_X11_move_34 at hE
    unfold q_X11_move_34 at hp
    refine lv_iconst (v := 1) hx hb dX11_move_34 (by decide) ?_
    refine lv_goto (tgt := 39) hx hb dX11_move_35 (by decide) ?_
    exact B_39 S x1 x2 1 _ _ _ hE hp hP hD hS (lv_sub hl [0, 1, 2] rfl)
  have B_M : ∀ (S : HS) (x1 : Int32) (H : Heap) (locs : List Loc) (ls : Array Slot), f_X11_move S x1 = X → p_X11_move S x1 → va_P G vwCl (hW K h g S) H → va_D A (hW K h g S) → va_S A s.heap H locs → lv_has ls 4 [(0, .ref h), (1, .int x1)] → W p l e ({ frames := 1, cells := 0, slots := 0, locals := 20 } : Room) s m #[Value.ref h, Value.int a1] below meth c H locs 0 0 Q (F0 m 0 ls []) := by
    intro S x1 H locs ls hE hp hP hD hS hl
    unfold f_X11_move at hE
    unfold p_X11_move at hp
    refine lv_aload_n hx hb dX11_move_0 rfl (lv_at hl 0 rfl) ?_
    refine va_get (D := G) (ci := 8) (v := .int (S.1 36)) (C := RX11) (T := TX11) (N := 42) hx hb hts iX11 hown hK hP 0 rfl rfl 36 (by decide) (hw (.fieldLink RX11 151 "MotionFloorModel$Hall" "draftTabled" "Z") (List.mem_of_getElem? (i := 0) rfl)) (fun _ h9 => h9) rfl dX11_move_1 ?_
    refine lv_if_ne (tgt := 75) hx hb dX11_move_4 (by decide) (fun c1 => ?_) (fun c1 => ?_)
    · rw [if_neg c1] at hE hp
      exact B_75 S x1 _ _ _ hE hp hP hD hS (lv_sub hl [0, 1] rfl)
    · rw [if_pos c1] at hE hp
      refine lv_aload_n hx hb dX11_move_7 rfl (lv_at hl 0 rfl) ?_
      refine va_get (D := G) (ci := 8) (v := .ref (g 32)) (C := RX11) (T := TX11) (N := 42) hx hb hts iX11 hown hK hP 0 rfl rfl 32 (by decide) (hw (.fieldLink RX11 75 "MotionFloorModel$Hall" "draft" "[I") (List.mem_of_getElem? (i := 5) rfl)) (fun _ h9 => h9) rfl dX11_move_8 ?_
      refine lv_iconst (v := 0) hx hb dX11_move_11 (by decide) ?_
      obtain ⟨hy5, hp⟩ := hp
      refine va_iald hx hb hK hP 21 0 rfl rfl hy5 dX11_move_12 ?_
      refine lv_istore_n (lv' := [(2, .int (S.2 32 (0 : Int32).toNatClampNeg)), (0, .ref h), (1, .int x1)]) hx hb dX11_move_13 rfl hl (by decide) rfl (fun ls hl => ?_)
      refine lv_aload_n hx hb dX11_move_14 rfl (lv_at hl 1 rfl) ?_
      refine va_get (D := G) (ci := 8) (v := .ref (g 14)) (C := RX11) (T := TX11) (N := 42) hx hb hts iX11 hown hK hP 0 rfl rfl 14 (by decide) (hw (.fieldLink RX11 22 "MotionFloorModel$Hall" "kind" "[I") (List.mem_of_getElem? (i := 6) rfl)) (fun _ h9 => h9) rfl dX11_move_15 ?_
      refine lv_iload_n hx hb dX11_move_18 rfl (lv_at hl 0 rfl) ?_
      obtain ⟨hy6, hp⟩ := hp
      refine va_iald hx hb hK hP 4 0 rfl rfl hy6 dX11_move_19 ?_
      refine lv_iconst (v := 2) hx hb dX11_move_20 (by decide) ?_
      refine lv_icmp_eq (tgt := 34) hx hb dX11_move_21 (by decide) (fun c7 => ?_) (fun c7 => ?_)
      · rw [if_pos c7] at hE hp
        exact B_34 S x1 (S.2 32 (0 : Int32).toNatClampNeg) _ _ _ hE hp hP hD hS (lv_sub hl [1, 2, 0] rfl)
      · rw [if_neg c7] at hE hp
        refine lv_aload_n hx hb dX11_move_24 rfl (lv_at hl 1 rfl) ?_
        refine va_get (D := G) (ci := 8) (v := .ref (g 14)) (C := RX11) (T := TX11) (N := 42) hx hb hts iX11 hown hK hP 0 rfl rfl 14 (by decide) (hw (.fieldLink RX11 22 "MotionFloorModel$Hall" "kind" "[I") (List.mem_of_getElem? (i := 6) rfl)) (fun _ h9 => h9) rfl dX11_move_25 ?_
        refine lv_iload_n hx hb dX11_move_28 rfl (lv_at hl 0 rfl) ?_
        obtain ⟨hy19, hp⟩ := hp
        refine va_iald hx hb hK hP 4 0 rfl rfl hy19 dX11_move_29 ?_
        refine lv_iconst (v := 3) hx hb dX11_move_30 (by decide) ?_
        refine lv_icmp_ne (tgt := 38) hx hb dX11_move_31 (by decide) (fun c20 => ?_) (fun c20 => ?_)
        · rw [if_neg c20] at hE hp
          refine lv_iconst (v := 0) hx hb dX11_move_38 (by decide) ?_
          exact B_39 S x1 (S.2 32 (0 : Int32).toNatClampNeg) 0 _ _ _ hE hp hP hD hS (lv_sub hl [1, 2, 0] rfl)
        · rw [if_pos c20] at hE hp
          exact B_34 S x1 (S.2 32 (0 : Int32).toNatClampNeg) _ _ _ hE hp hP hD hS (lv_sub hl [1, 2, 0] rfl)
  exact B_M S0 a1 _ _ _ hX hp hP hD hS hl
