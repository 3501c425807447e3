def b_X11_voters_34 (S : HS) (x1 x2 x3 y0 y1 : Int32) : (Int32 × HS) ⊕ (HS × Int32 × Int32 × Int32) := Sum.inr (S, x1, (y1 + y0), (x3 + 1))
def q_X11_voters_34 (S : HS) (x1 x2 x3 y0 y1 : Int32) : Prop := True
def st_X11_voters_4 (S : HS) (x1 x2 x3 : Int32) : (Int32 × HS) ⊕ (HS × Int32 × Int32 × Int32) := if (S.1 0) ≤ x3 then Sum.inl ((x2, S)) else if 2 ≤ (S.2 29 ((200 * x1) + x3).toNatClampNeg) then (b_X11_voters_34 S x1 x2 x3 0 x2) else (b_X11_voters_34 S x1 x2 x3 1 x2)
def ps_X11_voters_4 (S : HS) (x1 x2 x3 : Int32) : Prop := (if (S.1 0) ≤ x3 then True else (vp_in ((200 * x1) + x3) 18000) ∧ (if 2 ≤ (S.2 29 ((200 * x1) + x3).toNatClampNeg) then (q_X11_voters_34 S x1 x2 x3 0 x2) else (q_X11_voters_34 S x1 x2 x3 1 x2)))
def lp_X11_voters_4 : Nat → HS → Int32 → Int32 → Int32 → Int32 × HS
  | 0, S, _, _, _ => (0, S)
  | n + 1, S, x1, x2, x3 => match st_X11_voters_4 S x1 x2 x3 with
    | Sum.inl r => r
    | Sum.inr q => lp_X11_voters_4 n q.1 q.2.1 q.2.2.1 q.2.2.2
def lq_X11_voters_4 : Nat → HS → Int32 → Int32 → Int32 → Prop
  | 0, _, _, _, _ => False
  | n + 1, S, x1, x2, x3 => ps_X11_voters_4 S x1 x2 x3 ∧ (match st_X11_voters_4 S x1 x2 x3 with
    | Sum.inl _ => True
    | Sum.inr q => lq_X11_voters_4 n q.1 q.2.1 q.2.2.1 q.2.2.2)
def f_X11_voters (S : HS) (x1 : Int32) : Int32 × HS := (lp_X11_voters_4 100000 S x1 0 0)
def p_X11_voters (S : HS) (x1 : Int32) : Prop := (lq_X11_voters_4 100000 S x1 0 0)
def e_X11_voters : List Cond := [.fieldLink RX11 96 "MotionFloorModel$Hall" "seats" "I", .fieldLink RX11 68 "MotionFloorModel$Hall" "ballot" "[B"]
def v_X11_voters : List Cond := .code yX11_voters cX11_voters 4 (some .int) :: (e_X11_voters ++ (wsX110 ++ []))
theorem te_X11_voters : GoodIn lw_tbl e_X11_voters := wGc z48 (wGc z59 (wG0))
theorem t_X11_voters : GoodIn lw_tbl v_X11_voters := wGc z135 (wGa te_X11_voters (wGa zcX11 (wG0)))
set_option maxHeartbeats 4000000 in
set_option maxRecDepth 100000 in
theorem c_X11_voters (l : Launch) (G : va_G) (K : Nat → ClassId) (h : Nat) (g : Nat → Nat) (S0 : HS) (a1 : Int32) (sz : Nat) : Met l yX11_voters v_X11_voters ({ frames := 0, cells := 0, slots := 0, locals := 0 }) (va_Pc [.ref h, .int a1] (hS G K h g sz S0 (p_X11_voters S0 a1))) (va_Qi (fun (r : Int32) (u : HS) => (r, u) = f_X11_voters S0 a1) (hB G K h g (va_A (hW K h g S0) sz)) (va_A (hW K h g S0) sz)) 0 0 (va_A (hW K h g S0) sz) := by
  refine Met.ofW (cc := cX11_voters) (maxL := 4) (ret := (some .int)) (by decide) rfl ?_
  intro p e s m args below meth c s₁ B hml hv
  obtain ⟨rfl, ⟨hsz, hP, hK, hD0, hTE⟩, hp⟩ := hv
  have hx := B.exec
  have hb := B.bytes
  have hr := B.returns
  have hts := atoms_spec (ws := v_X11_voters) B.pre
  have t_ := t_X11_voters
  have mw : ∀ w ∈ e_X11_voters, w ∈ v_X11_voters := fun w h => List.mem_cons_of_mem _ (List.mem_append_left _ h)
  have hw := fun w (h : w ∈ e_X11_voters) => hts w (mw w h)
  have iX11 : ∀ w ∈ wsX110, w ∈ v_X11_voters := fun w h => List.mem_cons_of_mem _ (List.mem_append_right _ (List.mem_append_left _ h))
  have hown : s.vm.findClass RX11 = some m.cls := findClass_of_methodNamed B.named
  have hlocks := B.notSynchronized
  subst hsz
  have hD := hD0.self (sz := s.heap.size)
  generalize hAe : va_A (hW K h g S0) s.heap.size = A at hD ⊢
  have hA : ∀ q : Nat, s.heap.size ≤ q → A q := fun q h => by rw [← hAe]; exact Or.inr h
  have hS : va_S A s.heap s.heap [] := va_S.rf
  have hl := lv_entry ([.ref h, .int a1]) (n := 4) (Nat.le_of_ble_eq_true rfl)
  rw [lg_entry_eq]
  generalize (lg_sl ([.ref h, .int a1]) ++ List.replicate (4 - (lg_sl ([.ref h, .int a1])).length) Slot.unset).toArray = ls at hl ⊢
  have hl : lv_has ls 4 [(0, .ref h), (1, .int a1)] := hl
  refine wGen (fun Q hQ => ?_)
  obtain ⟨X, hX⟩ : ∃ X, f_X11_voters S0 a1 = X := ⟨_, rfl⟩
  have L_4 : ∀ (n : Nat) (S : HS) (x1 x2 x3 : Int32) (H : Heap) (locs : List Loc) (ls : Array Slot), lp_X11_voters_4 n S x1 x2 x3 = X → lq_X11_voters_4 n S x1 x2 x3 → va_P G vwCl (hW K h g S) H → va_D A (hW K h g S) → va_S A s.heap H locs → lv_has ls 4 [(0, .ref h), (1, .int x1), (2, .int x2), (3, .int x3)] → W p l e ({ frames := 0, cells := 0, slots := 0, locals := 0 } : Room) s m #[Value.ref h, Value.int a1] below meth c H locs 0 0 Q (F0 m 4 ls []) := by
    intro n1
    induction n1 with
    | zero => intro S x1 x2 x3 H locs ls hE hp; exact False.elim hp
    | succ n1 ih1 =>
      intro S x1 x2 x3 H locs ls hO1 hp hP hD hS hl
      rw [lp_X11_voters_4] at hO1
      rw [lq_X11_voters_4] at hp
      obtain ⟨hp, hq1⟩ := hp
      generalize hE : st_X11_voters_4 S x1 x2 x3 = Y1 at hO1 hq1
      unfold st_X11_voters_4 at hE
      unfold ps_X11_voters_4 at hp
      have B_34 : ∀ (S : HS) (x1 x2 x3 y0 y1 : Int32) (H : Heap) (locs : List Loc) (ls : Array Slot), b_X11_voters_34 S x1 x2 x3 y0 y1 = Y1 → q_X11_voters_34 S x1 x2 x3 y0 y1 → va_P G vwCl (hW K h g S) H → va_D A (hW K h g S) → va_S A s.heap H locs → lv_has ls 4 [(0, .ref h), (1, .int x1), (2, .int x2), (3, .int x3)] → W p l e ({ frames := 0, cells := 0, slots := 0, locals := 0 } : Room) s m #[Value.ref h, Value.int a1] below meth c H locs 0 0 Q (F0 m 34 ls [.int y0, .int y1]) := by
        intro S x1 x2 x3 y0 y1 H locs ls hE hp hP hD hS hl
        unfold b_X11_voters_34 at hE
        unfold q_X11_voters_34 at hp
        refine lv_iadd hx hb dX11_voters_34 ?_
        refine lv_istore_n (lv' := [(2, .int (y1 + y0)), (0, .ref h), (1, .int x1), (3, .int x3)]) hx hb dX11_voters_35 rfl hl (by decide) rfl (fun ls hl => ?_)
        refine lv_iinc (v := (x3 + 1)) (lv' := [(3, .int (x3 + 1)), (2, .int (y1 + y0)), (0, .ref h), (1, .int x1)]) hx hb dX11_voters_36 hl (k := 3) rfl rfl (by decide) rfl (fun ls hl => ?_)
        refine lv_goto (tgt := 4) hx hb dX11_voters_39 (by decide) ?_
        subst hE
        dsimp only at hO1 hq1
        exact ih1 S x1 (y1 + y0) (x3 + 1) _ _ _ hO1 hq1 hP hD hS (lv_sub hl [2, 3, 1, 0] rfl)
      refine lv_iload_n hx hb dX11_voters_4 rfl (lv_at hl 3 rfl) ?_
      refine lv_aload_n hx hb dX11_voters_5 rfl (lv_at hl 0 rfl) ?_
      refine va_get (D := G) (ci := 8) (v := .int (S.1 0)) (C := RX11) (T := TX11) (N := 42) hx hb hts iX11 hown hK hP 0 rfl rfl 0 (by decide) (hw (.fieldLink RX11 96 "MotionFloorModel$Hall" "seats" "I") (List.mem_of_getElem? (i := 0) rfl)) (fun _ h9 => h9) rfl dX11_voters_6 ?_
      refine lv_icmp_ge (tgt := 42) hx hb dX11_voters_9 (by decide) (fun c1 => ?_) (fun c1 => ?_)
      · rw [if_pos c1] at hE hp
        subst hE
        have hE := hO1
        dsimp only at hE
        refine lv_iload_n hx hb dX11_voters_42 rfl (lv_at hl 2 rfl) ?_
        subst hQ
        exact W.iret (v := x2) hx hb hr (fun t ht hW => ⟨⟨x2, S, rfl, hE.trans hX.symm, by rw [ht]; exact hP, hD⟩, hS.F ht⟩) hS.2.2 dX11_voters_43
      · rw [if_neg c1] at hE hp
        refine lv_iload_n hx hb dX11_voters_12 rfl (lv_at hl 2 rfl) ?_
        refine lv_aload_n hx hb dX11_voters_13 rfl (lv_at hl 0 rfl) ?_
        refine va_get (D := G) (ci := 8) (v := .ref (g 29)) (C := RX11) (T := TX11) (N := 42) hx hb hts iX11 hown hK hP 0 rfl rfl 29 (by decide) (hw (.fieldLink RX11 68 "MotionFloorModel$Hall" "ballot" "[B") (List.mem_of_getElem? (i := 1) rfl)) (fun _ h9 => h9) rfl dX11_voters_14 ?_
        refine lv_sipush (v := 200) hx hb dX11_voters_17 (by decide) ?_
        refine lv_iload_n hx hb dX11_voters_20 rfl (lv_at hl 1 rfl) ?_
        refine lv_imul hx hb dX11_voters_21 ?_
        refine lv_iload_n hx hb dX11_voters_22 rfl (lv_at hl 3 rfl) ?_
        refine lv_iadd hx hb dX11_voters_23 ?_
        obtain ⟨hy2, hp⟩ := hp
        refine va_bald hx hb hK hP 19 2 rfl rfl hy2 dX11_voters_24 ?_
        refine lv_iconst (v := 2) hx hb dX11_voters_25 (by decide) ?_
        refine lv_icmp_ge (tgt := 33) hx hb dX11_voters_26 (by decide) (fun c3 => ?_) (fun c3 => ?_)
        · rw [if_pos c3] at hE hp
          refine lv_iconst (v := 0) hx hb dX11_voters_33 (by decide) ?_
          exact B_34 S x1 x2 x3 0 x2 _ _ _ hE hp hP hD hS (lv_sub hl [0, 1, 2, 3] rfl)
        · rw [if_neg c3] at hE hp
          refine lv_iconst (v := 1) hx hb dX11_voters_29 (by decide) ?_
          refine lv_goto (tgt := 34) hx hb dX11_voters_30 (by decide) ?_
          exact B_34 S x1 x2 x3 1 x2 _ _ _ hE hp hP hD hS (lv_sub hl [0, 1, 2, 3] rfl)
  have B_M : ∀ (S : HS) (x1 : Int32) (H : Heap) (locs : List Loc) (ls : Array Slot), f_X11_voters S x1 = X → p_X11_voters S x1 → va_P G vwCl (hW K h g S) H → va_D A (hW K h g S) → va_S A s.heap H locs → lv_has ls 4 [(0, .ref h), (1, .int x1)] → W p l e ({ frames := 0, cells := 0, slots := 0, locals := 0 } : Room) s m #[Value.ref h, Value.int a1] below meth c H locs 0 0 Q (F0 m 0 ls []) := by
    intro S x1 H locs ls hE hp hP hD hS hl
    unfold f_X11_voters at hE
    unfold p_X11_voters at hp
    refine lv_iconst (v := 0) hx hb dX11_voters_0 (by decide) ?_
    refine lv_istore_n (lv' := [(2, .int 0), (0, .ref h), (1, .int x1)]) hx hb dX11_voters_1 rfl hl (by decide) rfl (fun ls hl => ?_)
    refine lv_iconst (v := 0) hx hb dX11_voters_2 (by decide) ?_
    refine lv_istore_n (lv' := [(3, .int 0), (2, .int 0), (0, .ref h), (1, .int x1)]) hx hb dX11_voters_3 rfl hl (by decide) rfl (fun ls hl => ?_)
    exact L_4 100000 S x1 0 0 _ _ _ hE hp hP hD hS (lv_sub hl [2, 3, 1, 0] rfl)
  exact B_M S0 a1 _ _ _ hX hp hP hD hS hl
def st_X11_dropDraft_2 (S : HS) (x1 : Int32) : (Int32 × HS) ⊕ (HS × Int32) := if (S.1 35) ≤ x1 then Sum.inl ((0, (sI S 35 0))) else Sum.inr ((sA S 13 (S.2 32 x1.toNatClampNeg).toNatClampNeg (vp_nar .boolean 0)), (x1 + 1))
def ps_X11_dropDraft_2 (S : HS) (x1 : Int32) : Prop := (if (S.1 35) ≤ x1 then True else (vp_in x1 9) ∧ (vp_in (S.2 32 x1.toNatClampNeg) 90) ∧ True)
def lp_X11_dropDraft_2 : Nat → HS → Int32 → Int32 × HS
  | 0, S, _ => (0, S)
  | n + 1, S, x1 => match st_X11_dropDraft_2 S x1 with
    | Sum.inl r => r
    | Sum.inr q => lp_X11_dropDraft_2 n q.1 q.2
def lq_X11_dropDraft_2 : Nat → HS → Int32 → Prop
  | 0, _, _ => False
  | n + 1, S, x1 => ps_X11_dropDraft_2 S x1 ∧ (match st_X11_dropDraft_2 S x1 with
    | Sum.inl _ => True
    | Sum.inr q => lq_X11_dropDraft_2 n q.1 q.2)
def f_X11_dropDraft (S : HS)  : Int32 × HS := (lp_X11_dropDraft_2 100000 S 0)
def p_X11_dropDraft (S : HS)  : Prop := (lq_X11_dropDraft_2 100000 S 0)
def e_X11_dropDraft : List Cond := [.fieldLink RX11 130 "MotionFloorModel$Hall" "drafted" "I", .fieldLink RX11 19 "MotionFloorModel$Hall" "used" "[Z", .fieldLink RX11 75 "MotionFloorModel$Hall" "draft" "[I"]
def v_X11_dropDraft : List Cond := .code yX11_dropDraft cX11_dropDraft 2 none :: (e_X11_dropDraft ++ (wsX110 ++ []))
theorem te_X11_dropDraft : GoodIn lw_tbl e_X11_dropDraft := wGc z86 (wGc z79 (wGc z84 (wG0)))
theorem t_X11_dropDraft : GoodIn lw_tbl v_X11_dropDraft := wGc z136 (wGa te_X11_dropDraft (wGa zcX11 (wG0)))
set_option maxHeartbeats 4000000 in
set_option maxRecDepth 100000 in
theorem c_X11_dropDraft (l : Launch) (G : va_G) (K : Nat → ClassId) (h : Nat) (g : Nat → Nat) (S0 : HS)  (sz : Nat) : Met l yX11_dropDraft v_X11_dropDraft ({ frames := 0, cells := 0, slots := 0, locals := 0 }) (va_Pc [.ref h] (hS G K h g sz S0 (p_X11_dropDraft S0))) (va_Qv (fun u : HS => (0, u) = f_X11_dropDraft S0) (hB G K h g (va_A (hW K h g S0) sz)) (va_A (hW K h g S0) sz)) 0 0 (va_A (hW K h g S0) sz) := by
  refine Met.ofW (cc := cX11_dropDraft) (maxL := 2) (ret := none) (by decide) rfl ?_
  intro p e s m args below meth c s₁ B hml hv
  obtain ⟨rfl, ⟨hsz, hP, hK, hD0, hTE⟩, hp⟩ := hv
  have hx := B.exec
  have hb := B.bytes
  have hr := B.returns
  have hts := atoms_spec (ws := v_X11_dropDraft) B.pre
  have t_ := t_X11_dropDraft
  have mw : ∀ w ∈ e_X11_dropDraft, w ∈ v_X11_dropDraft := fun w h => List.mem_cons_of_mem _ (List.mem_append_left _ h)
  have hw := fun w (h : w ∈ e_X11_dropDraft) => hts w (mw w h)
  have iX11 : ∀ w ∈ wsX110, w ∈ v_X11_dropDraft := fun w h => List.mem_cons_of_mem _ (List.mem_append_right _ (List.mem_append_left _ h))
  have hown : s.vm.findClass RX11 = some m.cls := findClass_of_methodNamed B.named
  have hlocks := B.notSynchronized
  subst hsz
  have hD := hD0.self (sz := s.heap.size)
  generalize hAe : va_A (hW K h g S0) s.heap.size = A at hD ⊢
  have hA : ∀ q : Nat, s.heap.size ≤ q → A q := fun q h => by rw [← hAe]; exact Or.inr h
  have hS : va_S A s.heap s.heap [] := va_S.rf
  have hl := lv_entry ([.ref h]) (n := 2) (Nat.le_of_ble_eq_true rfl)
  rw [lg_entry_eq]
  generalize (lg_sl ([.ref h]) ++ List.replicate (2 - (lg_sl ([.ref h])).length) Slot.unset).toArray = ls at hl ⊢
  have hl : lv_has ls 2 [(0, .ref h)] := hl
  refine wGen (fun Q hQ => ?_)
  obtain ⟨X, hX⟩ : ∃ X, f_X11_dropDraft S0 = X := ⟨_, rfl⟩
  have L_2 : ∀ (n : Nat) (S : HS) (x1 : Int32) (H : Heap) (locs : List Loc) (ls : Array Slot), lp_X11_dropDraft_2 n S x1 = X → lq_X11_dropDraft_2 n S x1 → va_P G vwCl (hW K h g S) H → va_D A (hW K h g S) → va_S A s.heap H locs → lv_has ls 2 [(0, .ref h), (1, .int x1)] → W p l e ({ frames := 0, cells := 0, slots := 0, locals := 0 } : Room) s m #[Value.ref h] below meth c H locs 0 0 Q (F0 m 2 ls []) := by
    intro n1
    induction n1 with
    | zero => intro S x1 H locs ls hE hp; exact False.elim hp
    | succ n1 ih1 =>
      intro S x1 H locs ls hO1 hp hP hD hS hl
      rw [lp_X11_dropDraft_2] at hO1
      rw [lq_X11_dropDraft_2] at hp
      obtain ⟨hp, hq1⟩ := hp
      generalize hE : st_X11_dropDraft_2 S x1 = Y1 at hO1 hq1
      unfold st_X11_dropDraft_2 at hE
      unfold ps_X11_dropDraft_2 at hp
      refine lv_iload_n hx hb dX11_dropDraft_2 rfl (lv_at hl 1 rfl) ?_
      refine lv_aload_n hx hb dX11_dropDraft_3 rfl (lv_at hl 0 rfl) ?_
      refine va_get (D := G) (ci := 8) (v := .int (S.1 35)) (C := RX11) (T := TX11) (N := 42) hx hb hts iX11 hown hK hP 0 rfl rfl 35 (by decide) (hw (.fieldLink RX11 130 "MotionFloorModel$Hall" "drafted" "I") (List.mem_of_getElem? (i := 0) rfl)) (fun _ h9 => h9) rfl dX11_dropDraft_4 ?_
      refine lv_icmp_ge (tgt := 28) hx hb dX11_dropDraft_7 (by decide) (fun c1 => ?_) (fun c1 => ?_)
      · rw [if_pos c1] at hE hp
        subst hE
        have hE := hO1
        dsimp only at hE
        refine lv_aload_n hx hb dX11_dropDraft_28 rfl (lv_at hl 0 rfl) ?_
        refine lv_iconst (v := 0) hx hb dX11_dropDraft_29 (by decide) ?_
        refine va_put (D := G) (ci := 8) (v := .int 0) (ty := .int) (C := RX11) (T := TX11) (N := 42) hx hb hts iX11 tyX11 tyX11_ok nmX11 hown hK hP hD hS 0 rfl rfl 35 (by decide) (hw (.fieldLink RX11 130 "MotionFloorModel$Hall" "drafted" "I") (List.mem_of_getElem? (i := 0) rfl)) (fun _ h9 => h9) rfl (by decide +kernel) rfl rfl (Nat.le_of_ble_eq_true rfl) dX11_dropDraft_30 (fun H locs hP hD hS => ?_)
        rw [sI_35] at hP hD
        subst hQ
        exact W.vret hx hb hr (fun t ht hW => ⟨⟨(sI S 35 0), rfl, hE.trans hX.symm, by rw [ht]; exact hP, hD⟩, hS.F ht⟩) hS.2.2 dX11_dropDraft_33
      · rw [if_neg c1] at hE hp
        refine lv_aload_n hx hb dX11_dropDraft_10 rfl (lv_at hl 0 rfl) ?_
        refine va_get (D := G) (ci := 8) (v := .ref (g 13)) (C := RX11) (T := TX11) (N := 42) hx hb hts iX11 hown hK hP 0 rfl rfl 13 (by decide) (hw (.fieldLink RX11 19 "MotionFloorModel$Hall" "used" "[Z") (List.mem_of_getElem? (i := 1) rfl)) (fun _ h9 => h9) rfl dX11_dropDraft_11 ?_
        refine lv_aload_n hx hb dX11_dropDraft_14 rfl (lv_at hl 0 rfl) ?_
        refine va_get (D := G) (ci := 8) (v := .ref (g 32)) (C := RX11) (T := TX11) (N := 42) hx hb hts iX11 hown hK hP 0 rfl rfl 32 (by decide) (hw (.fieldLink RX11 75 "MotionFloorModel$Hall" "draft" "[I") (List.mem_of_getElem? (i := 2) rfl)) (fun _ h9 => h9) rfl dX11_dropDraft_15 ?_
        refine lv_iload_n hx hb dX11_dropDraft_18 rfl (lv_at hl 1 rfl) ?_
        obtain ⟨hy2, hp⟩ := hp
        refine va_iald hx hb hK hP 21 0 rfl rfl hy2 dX11_dropDraft_19 ?_
        refine lv_iconst (v := 0) hx hb dX11_dropDraft_20 (by decide) ?_
        obtain ⟨hy3, hp⟩ := hp
        refine va_zast hx hb hK hP hD hS 3 1 rfl rfl hy3 dX11_dropDraft_21 (fun H locs hP hD hS => ?_)
        rw [sA_13] at hP hD
        refine lv_iinc (v := (x1 + 1)) (lv' := [(1, .int (x1 + 1)), (0, .ref h)]) hx hb dX11_dropDraft_22 hl (k := 1) rfl rfl (by decide) rfl (fun ls hl => ?_)
        refine lv_goto (tgt := 2) hx hb dX11_dropDraft_25 (by decide) ?_
        subst hE
        dsimp only at hO1 hq1
        exact ih1 (sA S 13 (S.2 32 x1.toNatClampNeg).toNatClampNeg (vp_nar .boolean 0)) (x1 + 1) _ _ _ hO1 hq1 hP hD hS (lv_sub hl [1, 0] rfl)
  have B_M : ∀ (S : HS) (H : Heap) (locs : List Loc) (ls : Array Slot), f_X11_dropDraft S = X → p_X11_dropDraft S → va_P G vwCl (hW K h g S) H → va_D A (hW K h g S) → va_S A s.heap H locs → lv_has ls 2 [(0, .ref h)] → W p l e ({ frames := 0, cells := 0, slots := 0, locals := 0 } : Room) s m #[Value.ref h] below meth c H locs 0 0 Q (F0 m 0 ls []) := by
    intro S H locs ls hE hp hP hD hS hl
    unfold f_X11_dropDraft at hE
    unfold p_X11_dropDraft at hp
    refine lv_iconst (v := 0) hx hb dX11_dropDraft_0 (by decide) ?_
    refine lv_istore_n (lv' := [(1, .int 0), (0, .ref h)]) hx hb dX11_dropDraft_1 rfl hl (by decide) rfl (fun ls hl => ?_)
    exact L_2 100000 S 0 _ _ _ hE hp hP hD hS (lv_sub hl [1, 0] rfl)
  exact B_M S0 _ _ _ hX hp hP hD hS hl
def f_X11_addWord (S : HS) (x1 : Int32) : Int32 × HS := if x1 = 0 then (0, S) else (0, (sA (sA S 28 ((400 * (S.2 32 (0 : Int32).toNatClampNeg)) + (S.2 19 (S.2 32 (0 : Int32).toNatClampNeg).toNatClampNeg)).toNatClampNeg x1) 19 (S.2 32 (0 : Int32).toNatClampNeg).toNatClampNeg (((sA S 28 ((400 * (S.2 32 (0 : Int32).toNatClampNeg)) + (S.2 19 (S.2 32 (0 : Int32).toNatClampNeg).toNatClampNeg)).toNatClampNeg x1).2 19 (S.2 32 (0 : Int32).toNatClampNeg).toNatClampNeg) + 1)))
def p_X11_addWord (S : HS) (x1 : Int32) : Prop := (if x1 = 0 then True else (vp_in 0 9) ∧ (vp_in (S.2 32 (0 : Int32).toNatClampNeg) 90) ∧ (vp_in ((400 * (S.2 32 (0 : Int32).toNatClampNeg)) + (S.2 19 (S.2 32 (0 : Int32).toNatClampNeg).toNatClampNeg)) 36000) ∧ (vp_in (S.2 32 (0 : Int32).toNatClampNeg) 90) ∧ (vp_in (S.2 32 (0 : Int32).toNatClampNeg) 90) ∧ True)
def e_X11_addWord : List Cond := [.fieldLink RX11 75 "MotionFloorModel$Hall" "draft" "[I", .fieldLink RX11 65 "MotionFloorModel$Hall" "text" "[I", .fieldLink RX11 37 "MotionFloorModel$Hall" "words" "[I"]
def v_X11_addWord : List Cond := .code yX11_addWord cX11_addWord 3 none :: (e_X11_addWord ++ (wsX110 ++ []))
theorem te_X11_addWord : GoodIn lw_tbl e_X11_addWord := wGc z84 (wGc z137 (wGc z76 (wG0)))
theorem t_X11_addWord : GoodIn lw_tbl v_X11_addWord := wGc z138 (wGa te_X11_addWord (wGa zcX11 (wG0)))
set_option maxHeartbeats 4000000 in
set_option maxRecDepth 100000 in
theorem c_X11_addWord (l : Launch) (G : va_G) (K : Nat → ClassId) (h : Nat) (g : Nat → Nat) (S0 : HS) (a1 : Int32) (sz : Nat) : Met l yX11_addWord v_X11_addWord ({ frames := 0, cells := 0, slots := 0, locals := 0 }) (va_Pc [.ref h, .int a1] (hS G K h g sz S0 (p_X11_addWord S0 a1))) (va_Qv (fun u : HS => (0, u) = f_X11_addWord S0 a1) (hB G K h g (va_A (hW K h g S0) sz)) (va_A (hW K h g S0) sz)) 0 0 (va_A (hW K h g S0) sz) := by
  refine Met.ofW (cc := cX11_addWord) (maxL := 3) (ret := none) (by decide) rfl ?_
  intro p e s m args below meth c s₁ B hml hv
  obtain ⟨rfl, ⟨hsz, hP, hK, hD0, hTE⟩, hp⟩ := hv
  have hx := B.exec
  have hb := B.bytes
  have hr := B.returns
  have hts := atoms_spec (ws := v_X11_addWord) B.pre
  have t_ := t_X11_addWord
  have mw : ∀ w ∈ e_X11_addWord, w ∈ v_X11_addWord := fun w h => List.mem_cons_of_mem _ (List.mem_append_left _ h)
  have hw := fun w (h : w ∈ e_X11_addWord) => hts w (mw w h)
  have iX11 : ∀ w ∈ wsX110, w ∈ v_X11_addWord := fun w h => List.mem_cons_of_mem _ (List.mem_append_right _ (List.mem_append_left _ h))
  have hown : s.vm.findClass RX11 = some m.cls := findClass_of_methodNamed B.named
  have hlocks := B.notSynchronized
  subst hsz
  have hD := hD0.self (sz := s.heap.size)
  generalize hAe : va_A (hW K h g S0) s.heap.size = A at hD ⊢
  have hA : ∀ q : Nat, s.heap.size ≤ q → A q := fun q h => by rw [← hAe]; exact Or.inr h
  have hS : va_S A s.heap s.heap [] := va_S.rf
  have hl := lv_entry ([.ref h, .int a1]) (n := 3) (Nat.le_of_ble_eq_true rfl)
  rw [lg_entry_eq]
  generalize (lg_sl ([.ref h, .int a1]) ++ List.replicate (3 - (lg_sl ([.ref h, .int a1])).length) Slot.unset).toArray = ls at hl ⊢
  have hl : lv_has ls 3 [(0, .ref h), (1, .int a1)] := hl
  refine wGen (fun Q hQ => ?_)
  obtain ⟨X, hX⟩ : ∃ X, f_X11_addWord S0 a1 = X := ⟨_, rfl⟩
  have B_M : ∀ (S : HS) (x1 : Int32) (H : Heap) (locs : List Loc) (ls : Array Slot), f_X11_addWord S x1 = X → p_X11_addWord S x1 → va_P G vwCl (hW K h g S) H → va_D A (hW K h g S) → va_S A s.heap H locs → lv_has ls 3 [(0, .ref h), (1, .int x1)] → W p l e ({ frames := 0, cells := 0, slots := 0, locals := 0 } : Room) s m #[Value.ref h, Value.int a1] below meth c H locs 0 0 Q (F0 m 0 ls []) := by
    intro S x1 H locs ls hE hp hP hD hS hl
    unfold f_X11_addWord at hE
    unfold p_X11_addWord at hp
    refine lv_iload_n hx hb dX11_addWord_0 rfl (lv_at hl 1 rfl) ?_
    refine lv_if_ne (tgt := 5) hx hb dX11_addWord_1 (by decide) (fun c1 => ?_) (fun c1 => ?_)
    · rw [if_neg c1] at hE hp
      refine lv_aload_n hx hb dX11_addWord_5 rfl (lv_at hl 0 rfl) ?_
      refine va_get (D := G) (ci := 8) (v := .ref (g 32)) (C := RX11) (T := TX11) (N := 42) hx hb hts iX11 hown hK hP 0 rfl rfl 32 (by decide) (hw (.fieldLink RX11 75 "MotionFloorModel$Hall" "draft" "[I") (List.mem_of_getElem? (i := 0) rfl)) (fun _ h9 => h9) rfl dX11_addWord_6 ?_
      refine lv_iconst (v := 0) hx hb dX11_addWord_9 (by decide) ?_
      obtain ⟨hy2, hp⟩ := hp
      refine va_iald hx hb hK hP 21 0 rfl rfl hy2 dX11_addWord_10 ?_
      refine lv_istore_n (lv' := [(2, .int (S.2 32 (0 : Int32).toNatClampNeg)), (0, .ref h), (1, .int x1)]) hx hb dX11_addWord_11 rfl hl (by decide) rfl (fun ls hl => ?_)
      refine lv_aload_n hx hb dX11_addWord_12 rfl (lv_at hl 1 rfl) ?_
      refine va_get (D := G) (ci := 8) (v := .ref (g 28)) (C := RX11) (T := TX11) (N := 42) hx hb hts iX11 hown hK hP 0 rfl rfl 28 (by decide) (hw (.fieldLink RX11 65 "MotionFloorModel$Hall" "text" "[I") (List.mem_of_getElem? (i := 1) rfl)) (fun _ h9 => h9) rfl dX11_addWord_13 ?_
      refine lv_sipush (v := 400) hx hb dX11_addWord_16 (by decide) ?_
      refine lv_iload_n hx hb dX11_addWord_19 rfl (lv_at hl 0 rfl) ?_
      refine lv_imul hx hb dX11_addWord_20 ?_
      refine lv_aload_n hx hb dX11_addWord_21 rfl (lv_at hl 1 rfl) ?_
      refine va_get (D := G) (ci := 8) (v := .ref (g 19)) (C := RX11) (T := TX11) (N := 42) hx hb hts iX11 hown hK hP 0 rfl rfl 19 (by decide) (hw (.fieldLink RX11 37 "MotionFloorModel$Hall" "words" "[I") (List.mem_of_getElem? (i := 2) rfl)) (fun _ h9 => h9) rfl dX11_addWord_22 ?_
      refine lv_iload_n hx hb dX11_addWord_25 rfl (lv_at hl 0 rfl) ?_
      obtain ⟨hy3, hp⟩ := hp
      refine va_iald hx hb hK hP 9 0 rfl rfl hy3 dX11_addWord_26 ?_
      refine lv_iadd hx hb dX11_addWord_27 ?_
      refine lv_iload_n hx hb dX11_addWord_28 rfl (lv_at hl 2 rfl) ?_
      obtain ⟨hy4, hp⟩ := hp
      refine va_iast hx hb hK hP hD hS 18 0 rfl rfl hy4 dX11_addWord_29 (fun H locs hP hD hS => ?_)
      rw [sA_28] at hP hD
      refine lv_aload_n hx hb dX11_addWord_30 rfl (lv_at hl 1 rfl) ?_
      refine va_get (D := G) (ci := 8) (v := .ref (g 19)) (C := RX11) (T := TX11) (N := 42) hx hb hts iX11 hown hK hP 0 rfl rfl 19 (by decide) (hw (.fieldLink RX11 37 "MotionFloorModel$Hall" "words" "[I") (List.mem_of_getElem? (i := 2) rfl)) (fun _ h9 => h9) rfl dX11_addWord_31 ?_
      refine lv_iload_n hx hb dX11_addWord_34 rfl (lv_at hl 0 rfl) ?_
      refine lv_dup2_11 hx hb dX11_addWord_35 rfl rfl ?_
      obtain ⟨hy5, hp⟩ := hp
      refine va_iald hx hb hK hP 9 0 rfl rfl hy5 dX11_addWord_36 ?_
      refine lv_iconst (v := 1) hx hb dX11_addWord_37 (by decide) ?_
      refine lv_iadd hx hb dX11_addWord_38 ?_
      obtain ⟨hy6, hp⟩ := hp
      refine va_iast hx hb hK hP hD hS 9 0 rfl rfl hy6 dX11_addWord_39 (fun H locs hP hD hS => ?_)
      rw [sA_19] at hP hD
      subst hQ
      exact W.vret hx hb hr (fun t ht hW => ⟨⟨(sA (sA S 28 ((400 * (S.2 32 (0 : Int32).toNatClampNeg)) + (S.2 19 (S.2 32 (0 : Int32).toNatClampNeg).toNatClampNeg)).toNatClampNeg x1) 19 (S.2 32 (0 : Int32).toNatClampNeg).toNatClampNeg (((sA S 28 ((400 * (S.2 32 (0 : Int32).toNatClampNeg)) + (S.2 19 (S.2 32 (0 : Int32).toNatClampNeg).toNatClampNeg)).toNatClampNeg x1).2 19 (S.2 32 (0 : Int32).toNatClampNeg).toNatClampNeg) + 1)), rfl, hE.trans hX.symm, by rw [ht]; exact hP, hD⟩, hS.F ht⟩) hS.2.2 dX11_addWord_40
    · rw [if_pos c1] at hE hp
      subst hQ
      exact W.vret hx hb hr (fun t ht hW => ⟨⟨S, rfl, hE.trans hX.symm, by rw [ht]; exact hP, hD⟩, hS.F ht⟩) hS.2.2 dX11_addWord_4
  exact B_M S0 a1 _ _ _ hX hp hP hD hS hl
def b_X11_goes_a8 (S : HS) (y0 : Int32) : Int32 × HS := (0, (sI (sA S 13 y0.toNatClampNeg (vp_nar .boolean 0)) 6 (((sA S 13 y0.toNatClampNeg (vp_nar .boolean 0)).1 6) - 1)))
def q_X11_goes_a8 (S : HS) (y0 : Int32) : Prop := (vp_in y0 90) ∧ True
def f_X11_goes (S : HS)  : Int32 × HS := (b_X11_goes_a8 (f_X11_top S ).2 (f_X11_top S ).1)
def p_X11_goes (S : HS)  : Prop := (p_X11_top S ) ∧ (q_X11_goes_a8 (f_X11_top S ).2 (f_X11_top S ).1)
def e_X11_goes : List Cond := [.fieldLink RX11 19 "MotionFloorModel$Hall" "used" "[Z", .methodLink RX11 155 yX11_top, .instanceMethod yX11_top, .selects RX11 yX11_top yX11_top, .initialized RX11, .fieldLink RX11 115 "MotionFloorModel$Hall" "pending" "I"]
def v_X11_goes : List Cond := .code yX11_goes cX11_goes 1 none :: (e_X11_goes ++ (wsX110 ++ (v_X11_top ++ [])))
theorem te_X11_goes : GoodIn lw_tbl e_X11_goes := wGc z79 (wGc z91 (wGc z90 (wGc z89 (wGc z51 (wGc z56 (wG0))))))
theorem t_X11_goes : GoodIn lw_tbl v_X11_goes := wGc z139 (wGa te_X11_goes (wGa zcX11 (wGa t_X11_top (wG0))))
set_option maxHeartbeats 4000000 in
set_option maxRecDepth 100000 in
theorem c_X11_goes (l : Launch) (G : va_G) (K : Nat → ClassId) (h : Nat) (g : Nat → Nat) (S0 : HS)  (sz : Nat) : Met l yX11_goes v_X11_goes ({ frames := 1, cells := 0, slots := 0, locals := 20 }) (va_Pc [.ref h] (hS G K h g sz S0 (p_X11_goes S0))) (va_Qv (fun u : HS => (0, u) = f_X11_goes S0) (hB G K h g (va_A (hW K h g S0) sz)) (va_A (hW K h g S0) sz)) 0 0 (va_A (hW K h g S0) sz) := by
  refine Met.ofW (cc := cX11_goes) (maxL := 1) (ret := none) (by decide) rfl ?_
  intro p e s m args below meth c s₁ B hml hv
  obtain ⟨rfl, ⟨hsz, hP, hK, hD0, hTE⟩, hp⟩ := hv
  have hx := B.exec
  have hb := B.bytes
  have hr := B.returns
  have hts := atoms_spec (ws := v_X11_goes) B.pre
  have t_ := t_X11_goes
  have mw : ∀ w ∈ e_X11_goes, w ∈ v_X11_goes := fun w h => List.mem_cons_of_mem _ (List.mem_append_left _ h)
  have hw := fun w (h : w ∈ e_X11_goes) => hts w (mw w h)
  have iX11 : ∀ w ∈ wsX110, w ∈ v_X11_goes := fun w h => List.mem_cons_of_mem _ (List.mem_append_right _ (List.mem_append_left _ h))
  have j_X11_top : ∀ w ∈ v_X11_top, w ∈ v_X11_goes := fun w h => List.mem_cons_of_mem _ (List.mem_append_right _ (List.mem_append_right _ (List.mem_append_left _ h)))
  have hown : s.vm.findClass RX11 = some m.cls := findClass_of_methodNamed B.named
  have hlocks := B.notSynchronized
  subst hsz
  have hD := hD0.self (sz := s.heap.size)
  generalize hAe : va_A (hW K h g S0) s.heap.size = A at hD ⊢
  have hA : ∀ q : Nat, s.heap.size ≤ q → A q := fun q h => by rw [← hAe]; exact Or.inr h
  have hS : va_S A s.heap s.heap [] := va_S.rf
  have hl := lv_entry ([.ref h]) (n := 1) (Nat.le_of_ble_eq_true rfl)
  rw [lg_entry_eq]
  generalize (lg_sl ([.ref h]) ++ List.replicate (1 - (lg_sl ([.ref h])).length) Slot.unset).toArray = ls at hl ⊢
  have hl : lv_has ls 1 [(0, .ref h)] := hl
  refine wGen (fun Q hQ => ?_)
  obtain ⟨X, hX⟩ : ∃ X, f_X11_goes S0 = X := ⟨_, rfl⟩
  have B_M : ∀ (S : HS) (H : Heap) (locs : List Loc) (ls : Array Slot), f_X11_goes S = X → p_X11_goes S → va_P G vwCl (hW K h g S) H → va_D A (hW K h g S) → va_S A s.heap H locs → lv_has ls 1 [(0, .ref h)] → W p l e ({ frames := 1, cells := 0, slots := 0, locals := 20 } : Room) s m #[Value.ref h] below meth c H locs 0 0 Q (F0 m 0 ls []) := by
    intro S H locs ls hE hp hP hD hS hl
    unfold f_X11_goes at hE
    unfold p_X11_goes at hp
    refine lv_aload_n hx hb dX11_goes_0 rfl (lv_at hl 0 rfl) ?_
    refine va_get (D := G) (ci := 8) (v := .ref (g 13)) (C := RX11) (T := TX11) (N := 42) hx hb hts iX11 hown hK hP 0 rfl rfl 13 (by decide) (hw (.fieldLink RX11 19 "MotionFloorModel$Hall" "used" "[Z") (List.mem_of_getElem? (i := 0) rfl)) (fun _ h9 => h9) rfl dX11_goes_1 ?_
    refine lv_aload_n hx hb dX11_goes_4 rfl (lv_at hl 0 rfl) ?_
    obtain ⟨hy1, hp⟩ := hp
    refine hGoi (va_runV (As := []) (rest := [.ref (g 13)]) ⟨hx, hb, hml, hown, hts⟩ (c_X11_top l G K h g S _) (cwV 0 hts (wGV t_ (mw (.methodLink RX11 155 yX11_top) (List.mem_of_getElem? (i := 1) rfl)) (mw (.instanceMethod yX11_top) (List.mem_of_getElem? (i := 2) rfl)) (mw (.selects RX11 yX11_top yX11_top) (List.mem_of_getElem? (i := 3) rfl)) (mw (.initialized RX11) (List.mem_of_getElem? (i := 4) rfl)) j_X11_top) rfl rfl rfl (by decide +kernel) ⟨Nat.le_of_ble_eq_true rfl, Nat.le_of_ble_eq_true rfl⟩) (hPV hK hTE hP hD hy1) rfl rfl hl.1 rfl (lv_room (Nat.le_of_ble_eq_true rfl)) dX11_goes_5 ⟨Nat.le_of_ble_eq_true rfl, Nat.le_of_ble_eq_true rfl⟩) hP hD hS hA (fun r3 u2 H locs hv hP hD hS => ?_)
    rw [← hv] at hE hp
    dsimp only at hE hp
    unfold b_X11_goes_a8 at hE
    unfold q_X11_goes_a8 at hp
    refine lv_iconst (v := 0) hx hb dX11_goes_8 (by decide) ?_
    obtain ⟨hy4, hp⟩ := hp
    refine va_zast hx hb hK hP hD hS 3 1 rfl rfl hy4 dX11_goes_9 (fun H locs hP hD hS => ?_)
    rw [sA_13] at hP hD
    refine lv_aload_n hx hb dX11_goes_10 rfl (lv_at hl 0 rfl) ?_
    refine lv_dup hx hb dX11_goes_11 rfl ?_
    refine va_get (D := G) (ci := 8) (v := .int ((sA u2 13 r3.toNatClampNeg (vp_nar .boolean 0)).1 6)) (C := RX11) (T := TX11) (N := 42) hx hb hts iX11 hown hK hP 0 rfl rfl 6 (by decide) (hw (.fieldLink RX11 115 "MotionFloorModel$Hall" "pending" "I") (List.mem_of_getElem? (i := 5) rfl)) (fun _ h9 => h9) rfl dX11_goes_12 ?_
    refine lv_iconst (v := 1) hx hb dX11_goes_15 (by decide) ?_
    refine lv_isub hx hb dX11_goes_16 ?_
    refine va_put (D := G) (ci := 8) (v := .int (((sA u2 13 r3.toNatClampNeg (vp_nar .boolean 0)).1 6) - 1)) (ty := .int) (C := RX11) (T := TX11) (N := 42) hx hb hts iX11 tyX11 tyX11_ok nmX11 hown hK hP hD hS 0 rfl rfl 6 (by decide) (hw (.fieldLink RX11 115 "MotionFloorModel$Hall" "pending" "I") (List.mem_of_getElem? (i := 5) rfl)) (fun _ h9 => h9) rfl (by decide +kernel) rfl rfl (Nat.le_of_ble_eq_true rfl) dX11_goes_17 (fun H locs hP hD hS => ?_)
    rw [sI_6] at hP hD
    subst hQ
    exact W.vret hx hb hr (fun t ht hW => ⟨⟨(sI (sA u2 13 r3.toNatClampNeg (vp_nar .boolean 0)) 6 (((sA u2 13 r3.toNatClampNeg (vp_nar .boolean 0)).1 6) - 1)), rfl, hE.trans hX.symm, by rw [ht]; exact hP, hD⟩, hS.F ht⟩) hS.2.2 dX11_goes_20
  exact B_M S0 _ _ _ hX hp hP hD hS hl
def st_X11_lay_67 (S : HS) (x1 x2 x3 : Int32) : (Int32 × HS) ⊕ (HS × Int32 × Int32 × Int32) := if (S.1 35) ≤ x3 then Sum.inl ((x1, (sI (sA (sA S 34 x1.toNatClampNeg (S.1 35)) 37 x1.toNatClampNeg (vp_nar .boolean ((sA S 34 x1.toNatClampNeg (S.1 35)).1 36))) 35 0))) else Sum.inr ((sA S 33 ((9 * x1) + x3).toNatClampNeg (S.2 32 x3.toNatClampNeg)), x1, x2, (x3 + 1))
def ps_X11_lay_67 (S : HS) (x1 x2 x3 : Int32) : Prop := (if (S.1 35) ≤ x3 then (vp_in x1 8) ∧ (vp_in x1 8) ∧ True else (vp_in x3 9) ∧ (vp_in ((9 * x1) + x3) 72) ∧ True)
def lp_X11_lay_67 : Nat → HS → Int32 → Int32 → Int32 → Int32 × HS
  | 0, S, _, _, _ => (0, S)
  | n + 1, S, x1, x2, x3 => match st_X11_lay_67 S x1 x2 x3 with
    | Sum.inl r => r
    | Sum.inr q => lp_X11_lay_67 n q.1 q.2.1 q.2.2.1 q.2.2.2
def lq_X11_lay_67 : Nat → HS → Int32 → Int32 → Int32 → Prop
  | 0, _, _, _, _ => False
  | n + 1, S, x1, x2, x3 => ps_X11_lay_67 S x1 x2 x3 ∧ (match st_X11_lay_67 S x1 x2 x3 with
    | Sum.inl _ => True
    | Sum.inr q => lq_X11_lay_67 n q.1 q.2.1 q.2.2.1 q.2.2.2)
def b_X11_lay_65 (S : HS) (x1 x2 : Int32) : Int32 × HS := (lp_X11_lay_67 100000 S x1 x2 0)
def q_X11_lay_65 (S : HS) (x1 x2 : Int32) : Prop := (lq_X11_lay_67 100000 S x1 x2 0)
def b_X11_lay_58 (S : HS) (x1 x2 : Int32) : Int32 × HS := (b_X11_lay_65 (sA S 25 x2.toNatClampNeg (vp_nar .boolean 1)) x1 x2)
def q_X11_lay_58 (S : HS) (x1 x2 : Int32) : Prop := (vp_in x2 90) ∧ (q_X11_lay_65 (sA S 25 x2.toNatClampNeg (vp_nar .boolean 1)) x1 x2)
def b_X11_lay_a56 (S : HS) (x1 x2 y0 y1 : Int32) : Int32 × HS := (b_X11_lay_58 (sA S 23 y1.toNatClampNeg (S.2 22 y0.toNatClampNeg)) x1 x2)
def q_X11_lay_a56 (S : HS) (x1 x2 y0 y1 : Int32) : Prop := (vp_in y0 90) ∧ (vp_in y1 90) ∧ (q_X11_lay_58 (sA S 23 y1.toNatClampNeg (S.2 22 y0.toNatClampNeg)) x1 x2)
def b_X11_lay_43 (S : HS) (x1 x2 : Int32) : Int32 × HS := (b_X11_lay_a56 (f_X11_top S ).2 x1 x2 (f_X11_top S ).1 x2)
def q_X11_lay_43 (S : HS) (x1 x2 : Int32) : Prop := (p_X11_top S ) ∧ (q_X11_lay_a56 (f_X11_top S ).2 x1 x2 (f_X11_top S ).1 x2)
def f_X11_lay (S : HS) (x1 : Int32) : Int32 × HS := if (S.1 36) = 0 then if (S.2 25 (S.2 32 (0 : Int32).toNatClampNeg).toNatClampNeg) = 0 then if (S.2 14 (S.2 32 (0 : Int32).toNatClampNeg).toNatClampNeg) = 2 then (b_X11_lay_43 S x1 (S.2 32 (0 : Int32).toNatClampNeg)) else if (S.2 14 (S.2 32 (0 : Int32).toNatClampNeg).toNatClampNeg) = 3 then (b_X11_lay_43 S x1 (S.2 32 (0 : Int32).toNatClampNeg)) else (b_X11_lay_58 S x1 (S.2 32 (0 : Int32).toNatClampNeg)) else (b_X11_lay_58 S x1 (S.2 32 (0 : Int32).toNatClampNeg)) else (b_X11_lay_65 S x1 (S.2 32 (0 : Int32).toNatClampNeg))
def p_X11_lay (S : HS) (x1 : Int32) : Prop := (vp_in 0 9) ∧ (if (S.1 36) = 0 then (vp_in (S.2 32 (0 : Int32).toNatClampNeg) 90) ∧ (if (S.2 25 (S.2 32 (0 : Int32).toNatClampNeg).toNatClampNeg) = 0 then (vp_in (S.2 32 (0 : Int32).toNatClampNeg) 90) ∧ (if (S.2 14 (S.2 32 (0 : Int32).toNatClampNeg).toNatClampNeg) = 2 then (q_X11_lay_43 S x1 (S.2 32 (0 : Int32).toNatClampNeg)) else (vp_in (S.2 32 (0 : Int32).toNatClampNeg) 90) ∧ (if (S.2 14 (S.2 32 (0 : Int32).toNatClampNeg).toNatClampNeg) = 3 then (q_X11_lay_43 S x1 (S.2 32 (0 : Int32).toNatClampNeg)) else (q_X11_lay_58 S x1 (S.2 32 (0 : Int32).toNatClampNeg)))) else (q_X11_lay_58 S x1 (S.2 32 (0 : Int32).toNatClampNeg))) else (q_X11_lay_65 S x1 (S.2 32 (0 : Int32).toNatClampNeg)))
def e_X11_lay : List Cond := [.fieldLink RX11 75 "MotionFloorModel$Hall" "draft" "[I", .fieldLink RX11 151 "MotionFloorModel$Hall" "draftTabled" "Z", .fieldLink RX11 130 "MotionFloorModel$Hall" "drafted" "I", .fieldLink RX11 81 "MotionFloorModel$Hall" "lying" "[I", .fieldLink RX11 84 "MotionFloorModel$Hall" "tabled" "[Z", .fieldLink RX11 78 "MotionFloorModel$Hall" "desk" "[I", .fieldLink RX11 55 "MotionFloorModel$Hall" "laid" "[Z", .fieldLink RX11 22 "MotionFloorModel$Hall" "kind" "[I", .fieldLink RX11 49 "MotionFloorModel$Hall" "subject" "[I", .fieldLink RX11 46 "MotionFloorModel$Hall" "self" "[I", .methodLink RX11 155 yX11_top, .instanceMethod yX11_top, .selects RX11 yX11_top yX11_top, .initialized RX11]
def v_X11_lay : List Cond := .code yX11_lay cX11_lay 4 (some .int) :: (e_X11_lay ++ (wsX110 ++ (v_X11_top ++ [])))
theorem te_X11_lay : GoodIn lw_tbl e_X11_lay := wGc z84 (wGc z85 (wGc z86 (wGc z81 (wGc z141 (wGc z140 (wGc z72 (wGc z78 (wGc z73 (wGc z63 (wGc z91 (wGc z90 (wGc z89 (wGc z51 (wG0))))))))))))))
theorem t_X11_lay : GoodIn lw_tbl v_X11_lay := wGc z142 (wGa te_X11_lay (wGa zcX11 (wGa t_X11_top (wG0))))
set_option maxHeartbeats 4000000 in
set_option maxRecDepth 100000 in
theorem c_X11_lay (l : Launch) (G : va_G) (K : Nat → ClassId) (h : Nat) (g : Nat → Nat) (S0 : HS) (a1 : Int32) (sz : Nat) : Met l yX11_lay v_X11_lay ({ frames := 1, cells := 0, slots := 0, locals := 20 }) (va_Pc [.ref h, .int a1] (hS G K h g sz S0 (p_X11_lay S0 a1))) (va_Qi (fun (r : Int32) (u : HS) => (r, u) = f_X11_lay S0 a1) (hB G K h g (va_A (hW K h g S0) sz)) (va_A (hW K h g S0) sz)) 0 0 (va_A (hW K h g S0) sz) := by
  refine Met.ofW (cc := cX11_lay) (maxL := 4) (ret := (some .int)) (by decide) rfl ?_
  intro p e s m args below meth c s₁ B hml hv
  obtain ⟨rfl, ⟨hsz, hP, hK, hD0, hTE⟩, hp⟩ := hv
  have hx := B.exec
  have hb := B.bytes
  have hr := B.returns
  have hts := atoms_spec (ws := v_X11_lay) B.pre
  have t_ := t_X11_lay
  have mw : ∀ w ∈ e_X11_lay, w ∈ v_X11_lay := fun w h => List.mem_cons_of_mem _ (List.mem_append_left _ h)
  have hw := fun w (h : w ∈ e_X11_lay) => hts w (mw w h)
  have iX11 : ∀ w ∈ wsX110, w ∈ v_X11_lay := fun w h => List.mem_cons_of_mem _ (List.mem_append_right _ (List.mem_append_left _ h))
  have j_X11_top : ∀ w ∈ v_X11_top, w ∈ v_X11_lay := fun w h => List.mem_cons_of_mem _ (List.mem_append_right _ (List.mem_append_right _ (List.mem_append_left _ h)))
  have hown : s.vm.findClass RX11 = some m.cls := findClass_of_methodNamed B.named
  have hlocks := B.notSynchronized
  subst hsz
  have hD := hD0.self (sz := s.heap.size)
  generalize hAe : va_A (hW K h g S0) s.heap.size = A at hD ⊢
  have hA : ∀ q : Nat, s.heap.size ≤ q → A q := fun q h => by rw [← hAe]; exact Or.inr h
  have hS : va_S A s.heap s.heap [] := va_S.rf
  have hl := lv_entry ([.ref h, .int a1]) (n := 4) (Nat.le_of_ble_eq_true rfl)
  rw [lg_entry_eq]
  generalize (lg_sl ([.ref h, .int a1]) ++ List.replicate (4 - (lg_sl ([.ref h, .int a1])).length) Slot.unset).toArray = ls at hl ⊢
  have hl : lv_has ls 4 [(0, .ref h), (1, .int a1)] := hl
  refine wGen (fun Q hQ => ?_)
  obtain ⟨X, hX⟩ : ∃ X, f_X11_lay S0 a1 = X := ⟨_, rfl⟩
  have L_67 : ∀ (n : Nat) (S : HS) (x1 x2 x3 : Int32) (H : Heap) (locs : List Loc) (ls : Array Slot), lp_X11_lay_67 n S x1 x2 x3 = X → lq_X11_lay_67 n S x1 x2 x3 → va_P G vwCl (hW K h g S) H → va_D A (hW K h g S) → va_S A s.heap H locs → lv_has ls 4 [(0, .ref h), (1, .int x1), (2, .int x2), (3, .int x3)] → W p l e ({ frames := 1, cells := 0, slots := 0, locals := 20 } : Room) s m #[Value.ref h, Value.int a1] below meth c H locs 0 0 Q (F0 m 67 ls []) := by
    intro n1
    induction n1 with
    | zero => intro S x1 x2 x3 H locs ls hE hp; exact False.elim hp
    | succ n1 ih1 =>
      intro S x1 x2 x3 H locs ls hO1 hp hP hD hS hl
      rw [lp_X11_lay_67] at hO1
      rw [lq_X11_lay_67] at hp
      obtain ⟨hp, hq1⟩ := hp
      generalize hE : st_X11_lay_67 S x1 x2 x3 = Y1 at hO1 hq1
      unfold st_X11_lay_67 at hE
      unfold ps_X11_lay_67 at hp
      refine lv_iload_n hx hb dX11_lay_67 rfl (lv_at hl 3 rfl) ?_
      refine lv_aload_n hx hb dX11_lay_68 rfl (lv_at hl 0 rfl) ?_
      refine va_get (D := G) (ci := 8) (v := .int (S.1 35)) (C := RX11) (T := TX11) (N := 42) hx hb hts iX11 hown hK hP 0 rfl rfl 35 (by decide) (hw (.fieldLink RX11 130 "MotionFloorModel$Hall" "drafted" "I") (List.mem_of_getElem? (i := 2) rfl)) (fun _ h9 => h9) rfl dX11_lay_69 ?_
      refine lv_icmp_ge (tgt := 98) hx hb dX11_lay_72 (by decide) (fun c3 => ?_) (fun c3 => ?_)
      · rw [if_pos c3] at hE hp
        subst hE
        have hE := hO1
        dsimp only at hE
        refine lv_aload_n hx hb dX11_lay_98 rfl (lv_at hl 0 rfl) ?_
        refine va_get (D := G) (ci := 8) (v := .ref (g 34)) (C := RX11) (T := TX11) (N := 42) hx hb hts iX11 hown hK hP 0 rfl rfl 34 (by decide) (hw (.fieldLink RX11 81 "MotionFloorModel$Hall" "lying" "[I") (List.mem_of_getElem? (i := 3) rfl)) (fun _ h9 => h9) rfl dX11_lay_99 ?_
        refine lv_iload_n hx hb dX11_lay_102 rfl (lv_at hl 1 rfl) ?_
        refine lv_aload_n hx hb dX11_lay_103 rfl (lv_at hl 0 rfl) ?_
        refine va_get (D := G) (ci := 8) (v := .int (S.1 35)) (C := RX11) (T := TX11) (N := 42) hx hb hts iX11 hown hK hP 0 rfl rfl 35 (by decide) (hw (.fieldLink RX11 130 "MotionFloorModel$Hall" "drafted" "I") (List.mem_of_getElem? (i := 2) rfl)) (fun _ h9 => h9) rfl dX11_lay_104 ?_
        obtain ⟨hy4, hp⟩ := hp
        refine va_iast hx hb hK hP hD hS 23 0 rfl rfl hy4 dX11_lay_107 (fun H locs hP hD hS => ?_)
        rw [sA_34] at hP hD
        refine lv_aload_n hx hb dX11_lay_108 rfl (lv_at hl 0 rfl) ?_
        refine va_get (D := G) (ci := 8) (v := .ref (g 37)) (C := RX11) (T := TX11) (N := 42) hx hb hts iX11 hown hK hP 0 rfl rfl 37 (by decide) (hw (.fieldLink RX11 84 "MotionFloorModel$Hall" "tabled" "[Z") (List.mem_of_getElem? (i := 4) rfl)) (fun _ h9 => h9) rfl dX11_lay_109 ?_
        refine lv_iload_n hx hb dX11_lay_112 rfl (lv_at hl 1 rfl) ?_
        refine lv_aload_n hx hb dX11_lay_113 rfl (lv_at hl 0 rfl) ?_
        refine va_get (D := G) (ci := 8) (v := .int ((sA S 34 x1.toNatClampNeg (S.1 35)).1 36)) (C := RX11) (T := TX11) (N := 42) hx hb hts iX11 hown hK hP 0 rfl rfl 36 (by decide) (hw (.fieldLink RX11 151 "MotionFloorModel$Hall" "draftTabled" "Z") (List.mem_of_getElem? (i := 1) rfl)) (fun _ h9 => h9) rfl dX11_lay_114 ?_
        obtain ⟨hy5, hp⟩ := hp
        refine va_zast hx hb hK hP hD hS 24 1 rfl rfl hy5 dX11_lay_117 (fun H locs hP hD hS => ?_)
        rw [sA_37] at hP hD
        refine lv_aload_n hx hb dX11_lay_118 rfl (lv_at hl 0 rfl) ?_
        refine lv_iconst (v := 0) hx hb dX11_lay_119 (by decide) ?_
        refine va_put (D := G) (ci := 8) (v := .int 0) (ty := .int) (C := RX11) (T := TX11) (N := 42) hx hb hts iX11 tyX11 tyX11_ok nmX11 hown hK hP hD hS 0 rfl rfl 35 (by decide) (hw (.fieldLink RX11 130 "MotionFloorModel$Hall" "drafted" "I") (List.mem_of_getElem? (i := 2) rfl)) (fun _ h9 => h9) rfl (by decide +kernel) rfl rfl (Nat.le_of_ble_eq_true rfl) dX11_lay_120 (fun H locs hP hD hS => ?_)
        rw [sI_35] at hP hD
        refine lv_iload_n hx hb dX11_lay_123 rfl (lv_at hl 1 rfl) ?_
        subst hQ
        exact W.iret (v := x1) hx hb hr (fun t ht hW => ⟨⟨x1, (sI (sA (sA S 34 x1.toNatClampNeg (S.1 35)) 37 x1.toNatClampNeg (vp_nar .boolean ((sA S 34 x1.toNatClampNeg (S.1 35)).1 36))) 35 0), rfl, hE.trans hX.symm, by rw [ht]; exact hP, hD⟩, hS.F ht⟩) hS.2.2 dX11_lay_124
      · rw [if_neg c3] at hE hp
        refine lv_aload_n hx hb dX11_lay_75 rfl (lv_at hl 0 rfl) ?_
        refine va_get (D := G) (ci := 8) (v := .ref (g 33)) (C := RX11) (T := TX11) (N := 42) hx hb hts iX11 hown hK hP 0 rfl rfl 33 (by decide) (hw (.fieldLink RX11 78 "MotionFloorModel$Hall" "desk" "[I") (List.mem_of_getElem? (i := 5) rfl)) (fun _ h9 => h9) rfl dX11_lay_76 ?_
        refine lv_bipush (v := 9) hx hb dX11_lay_79 (by decide) ?_
        refine lv_iload_n hx hb dX11_lay_81 rfl (lv_at hl 1 rfl) ?_
        refine lv_imul hx hb dX11_lay_82 ?_
        refine lv_iload_n hx hb dX11_lay_83 rfl (lv_at hl 3 rfl) ?_
        refine lv_iadd hx hb dX11_lay_84 ?_
        refine lv_aload_n hx hb dX11_lay_85 rfl (lv_at hl 0 rfl) ?_
        refine va_get (D := G) (ci := 8) (v := .ref (g 32)) (C := RX11) (T := TX11) (N := 42) hx hb hts iX11 hown hK hP 0 rfl rfl 32 (by decide) (hw (.fieldLink RX11 75 "MotionFloorModel$Hall" "draft" "[I") (List.mem_of_getElem? (i := 0) rfl)) (fun _ h9 => h9) rfl dX11_lay_86 ?_
        refine lv_iload_n hx hb dX11_lay_89 rfl (lv_at hl 3 rfl) ?_
        obtain ⟨hy6, hp⟩ := hp
        refine va_iald hx hb hK hP 21 0 rfl rfl hy6 dX11_lay_90 ?_
        obtain ⟨hy7, hp⟩ := hp
        refine va_iast hx hb hK hP hD hS 22 0 rfl rfl hy7 dX11_lay_91 (fun H locs hP hD hS => ?_)
        rw [sA_33] at hP hD
        refine lv_iinc (v := (x3 + 1)) (lv' := [(3, .int (x3 + 1)), (0, .ref h), (1, .int x1), (2, .int x2)]) hx hb dX11_lay_92 hl (k := 3) rfl rfl (by decide) rfl (fun ls hl => ?_)
        refine lv_goto (tgt := 67) hx hb dX11_lay_95 (by decide) ?_
        subst hE
        dsimp only at hO1 hq1
        exact ih1 (sA S 33 ((9 * x1) + x3).toNatClampNeg (S.2 32 x3.toNatClampNeg)) x1 x2 (x3 + 1) _ _ _ hO1 hq1 hP hD hS (lv_sub hl [1, 2, 3, 0] rfl)
  have B_65 : ∀ (S : HS) (x1 x2 : Int32) (H : Heap) (locs : List Loc) (ls : Array Slot), b_X11_lay_65 S x1 x2 = X → q_X11_lay_65 S x1 x2 → va_P G vwCl (hW K h g S) H → va_D A (hW K h g S) → va_S A s.heap H locs → lv_has ls 4 [(0, .ref h), (1, .int x1), (2, .int x2)] → W p l e ({ frames := 1, cells := 0, slots := 0, locals := 20 } : Room) s m #[Value.ref h, Value.int a1] below meth c H locs 0 0 Q (F0 m 65 ls []) := by
    intro S x1 x2 H locs ls hE hp hP hD hS hl
    unfold b_X11_lay_65 at hE
    unfold q_X11_lay_65 at hp
    refine lv_iconst (v := 0) hx hb dX11_lay_65 (by decide) ?_
    refine lv_istore_n (lv' := [(3, .int 0), (0, .ref h), (1, .int x1), (2, .int x2)]) hx hb dX11_lay_66 rfl hl (by decide) rfl (fun ls hl => ?_)
    exact L_67 100000 S x1 x2 0 _ _ _ hE hp hP hD hS (lv_sub hl [1, 2, 3, 0] rfl)
  have B_58 : ∀ (S : HS) (x1 x2 : Int32) (H : Heap) (locs : List Loc) (ls : Array Slot), b_X11_lay_58 S x1 x2 = X → q_X11_lay_58 S x1 x2 → va_P G vwCl (hW K h g S) H → va_D A (hW K h g S) → va_S A s.heap H locs → lv_has ls 4 [(0, .ref h), (1, .int x1), (2, .int x2)] → W p l e ({ frames := 1, cells := 0, slots := 0, locals := 20 } : Room) s m #[Value.ref h, Value.int a1] below meth c H locs 0 0 Q (F0 m 58 ls []) := by
    intro S x1 x2 H locs ls hE hp hP hD hS hl
    unfold b_X11_lay_58 at hE
    unfold q_X11_lay_58 at hp
    refine lv_aload_n hx hb dX11_lay_58 rfl (lv_at hl 0 rfl) ?_
    refine va_get (D := G) (ci := 8) (v := .ref (g 25)) (C := RX11) (T := TX11) (N := 42) hx hb hts iX11 hown hK hP 0 rfl rfl 25 (by decide) (hw (.fieldLink RX11 55 "MotionFloorModel$Hall" "laid" "[Z") (List.mem_of_getElem? (i := 6) rfl)) (fun _ h9 => h9) rfl dX11_lay_59 ?_
    refine lv_iload_n hx hb dX11_lay_62 rfl (lv_at hl 2 rfl) ?_
    refine lv_iconst (v := 1) hx hb dX11_lay_63 (by decide) ?_
    obtain ⟨hy10, hp⟩ := hp
    refine va_zast hx hb hK hP hD hS 15 1 rfl rfl hy10 dX11_lay_64 (fun H locs hP hD hS => ?_)
    rw [sA_25] at hP hD
    exact B_65 (sA S 25 x2.toNatClampNeg (vp_nar .boolean 1)) x1 x2 _ _ _ hE hp hP hD hS (lv_sub hl [0, 1, 2] rfl)
  have B_43 : ∀ (S : HS) (x1 x2 : Int32) (H : Heap) (locs : List Loc) (ls : Array Slot), b_X11_lay_43 S x1 x2 = X → q_X11_lay_43 S x1 x2 → va_P G vwCl (hW K h g S) H → va_D A (hW K h g S) → va_S A s.heap H locs → lv_has ls 4 [(0, .ref h), (1, .int x1), (2, .int x2)] → W p l e ({ frames := 1, cells := 0, slots := 0, locals := 20 } : Room) s m #[Value.ref h, Value.int a1] below meth c H locs 0 0 Q (F0 m 43 ls []) := by
    intro S x1 x2 H locs ls hE hp hP hD hS hl
    unfold b_X11_lay_43 at hE
    unfold q_X11_lay_43 at hp
    refine lv_aload_n hx hb dX11_lay_43 rfl (lv_at hl 0 rfl) ?_
    refine va_get (D := G) (ci := 8) (v := .ref (g 23)) (C := RX11) (T := TX11) (N := 42) hx hb hts iX11 hown hK hP 0 rfl rfl 23 (by decide) (hw (.fieldLink RX11 49 "MotionFloorModel$Hall" "subject" "[I") (List.mem_of_getElem? (i := 8) rfl)) (fun _ h9 => h9) rfl dX11_lay_44 ?_
    refine lv_iload_n hx hb dX11_lay_47 rfl (lv_at hl 2 rfl) ?_
    refine lv_aload_n hx hb dX11_lay_48 rfl (lv_at hl 0 rfl) ?_
    refine va_get (D := G) (ci := 8) (v := .ref (g 22)) (C := RX11) (T := TX11) (N := 42) hx hb hts iX11 hown hK hP 0 rfl rfl 22 (by decide) (hw (.fieldLink RX11 46 "MotionFloorModel$Hall" "self" "[I") (List.mem_of_getElem? (i := 9) rfl)) (fun _ h9 => h9) rfl dX11_lay_49 ?_
    refine lv_aload_n hx hb dX11_lay_52 rfl (lv_at hl 0 rfl) ?_
    obtain ⟨hy13, hp⟩ := hp
    refine hGoi (va_runV (As := []) (rest := [.ref (g 22), .int x2, .ref (g 23)]) ⟨hx, hb, hml, hown, hts⟩ (c_X11_top l G K h g S _) (cwV 0 hts (wGV t_ (mw (.methodLink RX11 155 yX11_top) (List.mem_of_getElem? (i := 10) rfl)) (mw (.instanceMethod yX11_top) (List.mem_of_getElem? (i := 11) rfl)) (mw (.selects RX11 yX11_top yX11_top) (List.mem_of_getElem? (i := 12) rfl)) (mw (.initialized RX11) (List.mem_of_getElem? (i := 13) rfl)) j_X11_top) rfl rfl rfl (by decide +kernel) ⟨Nat.le_of_ble_eq_true rfl, Nat.le_of_ble_eq_true rfl⟩) (hPV hK hTE hP hD hy13) rfl rfl hl.1 rfl (lv_room (Nat.le_of_ble_eq_true rfl)) dX11_lay_53 ⟨Nat.le_of_ble_eq_true rfl, Nat.le_of_ble_eq_true rfl⟩) hP hD hS hA (fun r15 u14 H locs hv hP hD hS => ?_)
    rw [← hv] at hE hp
    dsimp only at hE hp
    unfold b_X11_lay_a56 at hE
    unfold q_X11_lay_a56 at hp
    obtain ⟨hy16, hp⟩ := hp
    refine va_iald hx hb hK hP 12 0 rfl rfl hy16 dX11_lay_56 ?_
    obtain ⟨hy17, hp⟩ := hp
    refine va_iast hx hb hK hP hD hS 13 0 rfl rfl hy17 dX11_lay_57 (fun H locs hP hD hS => ?_)
    rw [sA_23] at hP hD
    exact B_58 (sA u14 23 x2.toNatClampNeg (u14.2 22 r15.toNatClampNeg)) x1 x2 _ _ _ hE hp hP hD hS (lv_sub hl [0, 1, 2] rfl)
  have B_M : ∀ (S : HS) (x1 : Int32) (H : Heap) (locs : List Loc) (ls : Array Slot), f_X11_lay S x1 = X → p_X11_lay S x1 → va_P G vwCl (hW K h g S) H → va_D A (hW K h g S) → va_S A s.heap H locs → lv_has ls 4 [(0, .ref h), (1, .int x1)] → W p l e ({ frames := 1, cells := 0, slots := 0, locals := 20 } : Room) s m #[Value.ref h, Value.int a1] below meth c H locs 0 0 Q (F0 m 0 ls []) := by
    intro S x1 H locs ls hE hp hP hD hS hl
    unfold f_X11_lay at hE
    unfold p_X11_lay at hp
    refine lv_aload_n hx hb dX11_lay_0 rfl (lv_at hl 0 rfl) ?_
    refine va_get (D := G) (ci := 8) (v := .ref (g 32)) (C := RX11) (T := TX11) (N := 42) hx hb hts iX11 hown hK hP 0 rfl rfl 32 (by decide) (hw (.fieldLink RX11 75 "MotionFloorModel$Hall" "draft" "[I") (List.mem_of_getElem? (i := 0) rfl)) (fun _ h9 => h9) rfl dX11_lay_1 ?_
    refine lv_iconst (v := 0) hx hb dX11_lay_4 (by decide) ?_
    obtain ⟨hy1, hp⟩ := hp
    refine va_iald hx hb hK hP 21 0 rfl rfl hy1 dX11_lay_5 ?_
    refine lv_istore_n (lv' := [(2, .int (S.2 32 (0 : Int32).toNatClampNeg)), (0, .ref h), (1, .int x1)]) hx hb dX11_lay_6 rfl hl (by decide) rfl (fun ls hl => ?_)
    refine lv_aload_n hx hb dX11_lay_7 rfl (lv_at hl 1 rfl) ?_
    refine va_get (D := G) (ci := 8) (v := .int (S.1 36)) (C := RX11) (T := TX11) (N := 42) hx hb hts iX11 hown hK hP 0 rfl rfl 36 (by decide) (hw (.fieldLink RX11 151 "MotionFloorModel$Hall" "draftTabled" "Z") (List.mem_of_getElem? (i := 1) rfl)) (fun _ h9 => h9) rfl dX11_lay_8 ?_
    refine lv_if_ne (tgt := 65) hx hb dX11_lay_11 (by decide) (fun c2 => ?_) (fun c2 => ?_)
    · rw [if_neg c2] at hE hp
      exact B_65 S x1 (S.2 32 (0 : Int32).toNatClampNeg) _ _ _ hE hp hP hD hS (lv_sub hl [1, 2, 0] rfl)
    · rw [if_pos c2] at hE hp
      refine lv_aload_n hx hb dX11_lay_14 rfl (lv_at hl 1 rfl) ?_
      refine va_get (D := G) (ci := 8) (v := .ref (g 25)) (C := RX11) (T := TX11) (N := 42) hx hb hts iX11 hown hK hP 0 rfl rfl 25 (by decide) (hw (.fieldLink RX11 55 "MotionFloorModel$Hall" "laid" "[Z") (List.mem_of_getElem? (i := 6) rfl)) (fun _ h9 => h9) rfl dX11_lay_15 ?_
      refine lv_iload_n hx hb dX11_lay_18 rfl (lv_at hl 0 rfl) ?_
      obtain ⟨hy8, hp⟩ := hp
      refine va_zald hx hb hK hP 15 1 rfl rfl hy8 dX11_lay_19 ?_
      refine lv_if_ne (tgt := 58) hx hb dX11_lay_20 (by decide) (fun c9 => ?_) (fun c9 => ?_)
      · rw [if_neg c9] at hE hp
        exact B_58 S x1 (S.2 32 (0 : Int32).toNatClampNeg) _ _ _ hE hp hP hD hS (lv_sub hl [1, 2, 0] rfl)
      · rw [if_pos c9] at hE hp
        refine lv_aload_n hx hb dX11_lay_23 rfl (lv_at hl 1 rfl) ?_
        refine va_get (D := G) (ci := 8) (v := .ref (g 14)) (C := RX11) (T := TX11) (N := 42) hx hb hts iX11 hown hK hP 0 rfl rfl 14 (by decide) (hw (.fieldLink RX11 22 "MotionFloorModel$Hall" "kind" "[I") (List.mem_of_getElem? (i := 7) rfl)) (fun _ h9 => h9) rfl dX11_lay_24 ?_
        refine lv_iload_n hx hb dX11_lay_27 rfl (lv_at hl 0 rfl) ?_
        obtain ⟨hy11, hp⟩ := hp
        refine va_iald hx hb hK hP 4 0 rfl rfl hy11 dX11_lay_28 ?_
        refine lv_iconst (v := 2) hx hb dX11_lay_29 (by decide) ?_
        refine lv_icmp_eq (tgt := 43) hx hb dX11_lay_30 (by decide) (fun c12 => ?_) (fun c12 => ?_)
        · rw [if_pos c12] at hE hp
          exact B_43 S x1 (S.2 32 (0 : Int32).toNatClampNeg) _ _ _ hE hp hP hD hS (lv_sub hl [1, 2, 0] rfl)
        · rw [if_neg c12] at hE hp
          refine lv_aload_n hx hb dX11_lay_33 rfl (lv_at hl 1 rfl) ?_
          refine va_get (D := G) (ci := 8) (v := .ref (g 14)) (C := RX11) (T := TX11) (N := 42) hx hb hts iX11 hown hK hP 0 rfl rfl 14 (by decide) (hw (.fieldLink RX11 22 "MotionFloorModel$Hall" "kind" "[I") (List.mem_of_getElem? (i := 7) rfl)) (fun _ h9 => h9) rfl dX11_lay_34 ?_
          refine lv_iload_n hx hb dX11_lay_37 rfl (lv_at hl 0 rfl) ?_
          obtain ⟨hy20, hp⟩ := hp
          refine va_iald hx hb hK hP 4 0 rfl rfl hy20 dX11_lay_38 ?_
          refine lv_iconst (v := 3) hx hb dX11_lay_39 (by decide) ?_
          refine lv_icmp_ne (tgt := 58) hx hb dX11_lay_40 (by decide) (fun c21 => ?_) (fun c21 => ?_)
          · rw [if_neg c21] at hE hp
            exact B_58 S x1 (S.2 32 (0 : Int32).toNatClampNeg) _ _ _ hE hp hP hD hS (lv_sub hl [1, 2, 0] rfl)
          · rw [if_pos c21] at hE hp
            exact B_43 S x1 (S.2 32 (0 : Int32).toNatClampNeg) _ _ _ hE hp hP hD hS (lv_sub hl [1, 2, 0] rfl)
  exact B_M S0 a1 _ _ _ hX hp hP hD hS hl
def b_X11_take_97 (S : HS) (x1 x2 y0 : Int32) : Int32 × HS := (y0, S)
def q_X11_take_97 (S : HS) (x1 x2 y0 : Int32) : Prop := True
def st_X11_take_2 (S : HS) (x1 x2 : Int32) : (Int32 × HS) ⊕ (HS × Int32 × Int32) := if (S.2 34 x1.toNatClampNeg) ≤ x2 then Sum.inl (if ((sA (sA (sI (sI S 35 (S.2 34 x1.toNatClampNeg)) 36 ((sI S 35 (S.2 34 x1.toNatClampNeg)).2 37 x1.toNatClampNeg)) 34 x1.toNatClampNeg 0) 27 ((sA (sI (sI S 35 (S.2 34 x1.toNatClampNeg)) 36 ((sI S 35 (S.2 34 x1.toNatClampNeg)).2 37 x1.toNatClampNeg)) 34 x1.toNatClampNeg 0).2 32 (0 : Int32).toNatClampNeg).toNatClampNeg (vp_nar .boolean 0)).1 36) = 0 then (b_X11_take_97 (sA (sA (sI (sI S 35 (S.2 34 x1.toNatClampNeg)) 36 ((sI S 35 (S.2 34 x1.toNatClampNeg)).2 37 x1.toNatClampNeg)) 34 x1.toNatClampNeg 0) 27 ((sA (sI (sI S 35 (S.2 34 x1.toNatClampNeg)) 36 ((sI S 35 (S.2 34 x1.toNatClampNeg)).2 37 x1.toNatClampNeg)) 34 x1.toNatClampNeg 0).2 32 (0 : Int32).toNatClampNeg).toNatClampNeg (vp_nar .boolean 0)) x1 x2 ((sA (sA (sI (sI S 35 (S.2 34 x1.toNatClampNeg)) 36 ((sI S 35 (S.2 34 x1.toNatClampNeg)).2 37 x1.toNatClampNeg)) 34 x1.toNatClampNeg 0) 27 ((sA (sI (sI S 35 (S.2 34 x1.toNatClampNeg)) 36 ((sI S 35 (S.2 34 x1.toNatClampNeg)).2 37 x1.toNatClampNeg)) 34 x1.toNatClampNeg 0).2 32 (0 : Int32).toNatClampNeg).toNatClampNeg (vp_nar .boolean 0)).2 14 ((sA (sA (sI (sI S 35 (S.2 34 x1.toNatClampNeg)) 36 ((sI S 35 (S.2 34 x1.toNatClampNeg)).2 37 x1.toNatClampNeg)) 34 x1.toNatClampNeg 0) 27 ((sA (sI (sI S 35 (S.2 34 x1.toNatClampNeg)) 36 ((sI S 35 (S.2 34 x1.toNatClampNeg)).2 37 x1.toNatClampNeg)) 34 x1.toNatClampNeg 0).2 32 (0 : Int32).toNatClampNeg).toNatClampNeg (vp_nar .boolean 0)).2 32 (0 : Int32).toNatClampNeg).toNatClampNeg)) else (b_X11_take_97 (sA (sA (sI (sI S 35 (S.2 34 x1.toNatClampNeg)) 36 ((sI S 35 (S.2 34 x1.toNatClampNeg)).2 37 x1.toNatClampNeg)) 34 x1.toNatClampNeg 0) 27 ((sA (sI (sI S 35 (S.2 34 x1.toNatClampNeg)) 36 ((sI S 35 (S.2 34 x1.toNatClampNeg)).2 37 x1.toNatClampNeg)) 34 x1.toNatClampNeg 0).2 32 (0 : Int32).toNatClampNeg).toNatClampNeg (vp_nar .boolean 0)) x1 x2 7)) else Sum.inr ((sA S 32 x2.toNatClampNeg (S.2 33 ((9 * x1) + x2).toNatClampNeg)), x1, (x2 + 1))
def ps_X11_take_2 (S : HS) (x1 x2 : Int32) : Prop := (vp_in x1 8) ∧ (if (S.2 34 x1.toNatClampNeg) ≤ x2 then (vp_in x1 8) ∧ (vp_in x1 8) ∧ (narrow .boolean (.int ((sI S 35 (S.2 34 x1.toNatClampNeg)).2 37 x1.toNatClampNeg)) = .int ((sI S 35 (S.2 34 x1.toNatClampNeg)).2 37 x1.toNatClampNeg) ∧ fits .boolean (.int ((sI S 35 (S.2 34 x1.toNatClampNeg)).2 37 x1.toNatClampNeg)) = true) ∧ (vp_in x1 8) ∧ (vp_in 0 9) ∧ (vp_in ((sA (sI (sI S 35 (S.2 34 x1.toNatClampNeg)) 36 ((sI S 35 (S.2 34 x1.toNatClampNeg)).2 37 x1.toNatClampNeg)) 34 x1.toNatClampNeg 0).2 32 (0 : Int32).toNatClampNeg) 90) ∧ (if ((sA (sA (sI (sI S 35 (S.2 34 x1.toNatClampNeg)) 36 ((sI S 35 (S.2 34 x1.toNatClampNeg)).2 37 x1.toNatClampNeg)) 34 x1.toNatClampNeg 0) 27 ((sA (sI (sI S 35 (S.2 34 x1.toNatClampNeg)) 36 ((sI S 35 (S.2 34 x1.toNatClampNeg)).2 37 x1.toNatClampNeg)) 34 x1.toNatClampNeg 0).2 32 (0 : Int32).toNatClampNeg).toNatClampNeg (vp_nar .boolean 0)).1 36) = 0 then (vp_in 0 9) ∧ (vp_in ((sA (sA (sI (sI S 35 (S.2 34 x1.toNatClampNeg)) 36 ((sI S 35 (S.2 34 x1.toNatClampNeg)).2 37 x1.toNatClampNeg)) 34 x1.toNatClampNeg 0) 27 ((sA (sI (sI S 35 (S.2 34 x1.toNatClampNeg)) 36 ((sI S 35 (S.2 34 x1.toNatClampNeg)).2 37 x1.toNatClampNeg)) 34 x1.toNatClampNeg 0).2 32 (0 : Int32).toNatClampNeg).toNatClampNeg (vp_nar .boolean 0)).2 32 (0 : Int32).toNatClampNeg) 90) ∧ (q_X11_take_97 (sA (sA (sI (sI S 35 (S.2 34 x1.toNatClampNeg)) 36 ((sI S 35 (S.2 34 x1.toNatClampNeg)).2 37 x1.toNatClampNeg)) 34 x1.toNatClampNeg 0) 27 ((sA (sI (sI S 35 (S.2 34 x1.toNatClampNeg)) 36 ((sI S 35 (S.2 34 x1.toNatClampNeg)).2 37 x1.toNatClampNeg)) 34 x1.toNatClampNeg 0).2 32 (0 : Int32).toNatClampNeg).toNatClampNeg (vp_nar .boolean 0)) x1 x2 ((sA (sA (sI (sI S 35 (S.2 34 x1.toNatClampNeg)) 36 ((sI S 35 (S.2 34 x1.toNatClampNeg)).2 37 x1.toNatClampNeg)) 34 x1.toNatClampNeg 0) 27 ((sA (sI (sI S 35 (S.2 34 x1.toNatClampNeg)) 36 ((sI S 35 (S.2 34 x1.toNatClampNeg)).2 37 x1.toNatClampNeg)) 34 x1.toNatClampNeg 0).2 32 (0 : Int32).toNatClampNeg).toNatClampNeg (vp_nar .boolean 0)).2 14 ((sA (sA (sI (sI S 35 (S.2 34 x1.toNatClampNeg)) 36 ((sI S 35 (S.2 34 x1.toNatClampNeg)).2 37 x1.toNatClampNeg)) 34 x1.toNatClampNeg 0) 27 ((sA (sI (sI S 35 (S.2 34 x1.toNatClampNeg)) 36 ((sI S 35 (S.2 34 x1.toNatClampNeg)).2 37 x1.toNatClampNeg)) 34 x1.toNatClampNeg 0).2 32 (0 : Int32).toNatClampNeg).toNatClampNeg (vp_nar .boolean 0)).2 32 (0 : Int32).toNatClampNeg).toNatClampNeg)) else (q_X11_take_97 (sA (sA (sI (sI S 35 (S.2 34 x1.toNatClampNeg)) 36 ((sI S 35 (S.2 34 x1.toNatClampNeg)).2 37 x1.toNatClampNeg)) 34 x1.toNatClampNeg 0) 27 ((sA (sI (sI S 35 (S.2 34 x1.toNatClampNeg)) 36 ((sI S 35 (S.2 34 x1.toNatClampNeg)).2 37 x1.toNatClampNeg)) 34 x1.toNatClampNeg 0).2 32 (0 : Int32).toNatClampNeg).toNatClampNeg (vp_nar .boolean 0)) x1 x2 7)) else (vp_in ((9 * x1) + x2) 72) ∧ (vp_in x2 9) ∧ True)
def lp_X11_take_2 : Nat → HS → Int32 → Int32 → Int32 × HS
  | 0, S, _, _ => (0, S)
  | n + 1, S, x1, x2 => match st_X11_take_2 S x1 x2 with
    | Sum.inl r => r
    | Sum.inr q => lp_X11_take_2 n q.1 q.2.1 q.2.2
def lq_X11_take_2 : Nat → HS → Int32 → Int32 → Prop
  | 0, _, _, _ => False
  | n + 1, S, x1, x2 => ps_X11_take_2 S x1 x2 ∧ (match st_X11_take_2 S x1 x2 with
    | Sum.inl _ => True
    | Sum.inr q => lq_X11_take_2 n q.1 q.2.1 q.2.2)
def f_X11_take (S : HS) (x1 : Int32) : Int32 × HS := (lp_X11_take_2 100000 S x1 0)
def p_X11_take (S : HS) (x1 : Int32) : Prop := (lq_X11_take_2 100000 S x1 0)
def e_X11_take : List Cond := [.fieldLink RX11 81 "MotionFloorModel$Hall" "lying" "[I", .fieldLink RX11 130 "MotionFloorModel$Hall" "drafted" "I", .fieldLink RX11 84 "MotionFloorModel$Hall" "tabled" "[Z", .fieldLink RX11 151 "MotionFloorModel$Hall" "draftTabled" "Z", .fieldLink RX11 61 "MotionFloorModel$Hall" "letter" "[Z", .fieldLink RX11 75 "MotionFloorModel$Hall" "draft" "[I", .fieldLink RX11 22 "MotionFloorModel$Hall" "kind" "[I", .fieldLink RX11 78 "MotionFloorModel$Hall" "desk" "[I"]
def v_X11_take : List Cond := .code yX11_take cX11_take 3 (some .int) :: (e_X11_take ++ (wsX110 ++ []))
theorem te_X11_take : GoodIn lw_tbl e_X11_take := wGc z81 (wGc z86 (wGc z141 (wGc z85 (wGc z70 (wGc z84 (wGc z78 (wGc z140 (wG0))))))))
theorem t_X11_take : GoodIn lw_tbl v_X11_take := wGc z143 (wGa te_X11_take (wGa zcX11 (wG0)))
set_option maxHeartbeats 4000000 in
set_option maxRecDepth 100000 in
theorem c_X11_take (l : Launch) (G : va_G) (K : Nat → ClassId) (h : Nat) (g : Nat → Nat) (S0 : HS) (a1 : Int32) (sz : Nat) : Met l yX11_take v_X11_take ({ frames := 0, cells := 0, slots := 0, locals := 0 }) (va_Pc [.ref h, .int a1] (hS G K h g sz S0 (p_X11_take S0 a1))) (va_Qi (fun (r : Int32) (u : HS) => (r, u) = f_X11_take S0 a1) (hB G K h g (va_A (hW K h g S0) sz)) (va_A (hW K h g S0) sz)) 0 0 (va_A (hW K h g S0) sz) := by
  refine Met.ofW (cc := cX11_take) (maxL := 3) (ret := (some .int)) (by decide) rfl ?_
  intro p e s m args below meth c s₁ B hml hv
  obtain ⟨rfl, ⟨hsz, hP, hK, hD0, hTE⟩, hp⟩ := hv
  have hx := B.exec
  have hb := B.bytes
  have hr := B.returns
  have hts := atoms_spec (ws := v_X11_take) B.pre
  have t_ := t_X11_take
  have mw : ∀ w ∈ e_X11_take, w ∈ v_X11_take := fun w h => List.mem_cons_of_mem _ (List.mem_append_left _ h)
  have hw := fun w (h : w ∈ e_X11_take) => hts w (mw w h)
  have iX11 : ∀ w ∈ wsX110, w ∈ v_X11_take := fun w h => List.mem_cons_of_mem _ (List.mem_append_right _ (List.mem_append_left _ h))
  have hown : s.vm.findClass RX11 = some m.cls := findClass_of_methodNamed B.named
  have hlocks := B.notSynchronized
  subst hsz
  have hD := hD0.self (sz := s.heap.size)
  generalize hAe : va_A (hW K h g S0) s.heap.size = A at hD ⊢
  have hA : ∀ q : Nat, s.heap.size ≤ q → A q := fun q h => by rw [← hAe]; exact Or.inr h
  have hS : va_S A s.heap s.heap [] := va_S.rf
  have hl := lv_entry ([.ref h, .int a1]) (n := 3) (Nat.le_of_ble_eq_true rfl)
  rw [lg_entry_eq]
  generalize (lg_sl ([.ref h, .int a1]) ++ List.replicate (3 - (lg_sl ([.ref h, .int a1])).length) Slot.unset).toArray = ls at hl ⊢
  have hl : lv_has ls 3 [(0, .ref h), (1, .int a1)] := hl
  refine wGen (fun Q hQ => ?_)
  obtain ⟨X, hX⟩ : ∃ X, f_X11_take S0 a1 = X := ⟨_, rfl⟩
  have B_97 : ∀ (S : HS) (x1 x2 y0 : Int32) (H : Heap) (locs : List Loc) (ls : Array Slot), b_X11_take_97 S x1 x2 y0 = X → q_X11_take_97 S x1 x2 y0 → va_P G vwCl (hW K h g S) H → va_D A (hW K h g S) → va_S A s.heap H locs → lv_has ls 3 [(0, .ref h), (1, .int x1), (2, .int x2)] → W p l e ({ frames := 0, cells := 0, slots := 0, locals := 0 } : Room) s m #[Value.ref h, Value.int a1] below meth c H locs 0 0 Q (F0 m 97 ls [.int y0]) := by
    intro S x1 x2 y0 H locs ls hE hp hP hD hS hl
    unfold b_X11_take_97 at hE
    unfold q_X11_take_97 at hp
    subst hQ
    exact W.iret (v := y0) hx hb hr (fun t ht hW => ⟨⟨y0, S, rfl, hE.trans hX.symm, by rw [ht]; exact hP, hD⟩, hS.F ht⟩) hS.2.2 dX11_take_97
  have L_2 : ∀ (n : Nat) (S : HS) (x1 x2 : Int32) (H : Heap) (locs : List Loc) (ls : Array Slot), lp_X11_take_2 n S x1 x2 = X → lq_X11_take_2 n S x1 x2 → va_P G vwCl (hW K h g S) H → va_D A (hW K h g S) → va_S A s.heap H locs → lv_has ls 3 [(0, .ref h), (1, .int x1), (2, .int x2)] → W p l e ({ frames := 0, cells := 0, slots := 0, locals := 0 } : Room) s m #[Value.ref h, Value.int a1] below meth c H locs 0 0 Q (F0 m 2 ls []) := by
    intro n1
    induction n1 with
    | zero => intro S x1 x2 H locs ls hE hp; exact False.elim hp
    | succ n1 ih1 =>
      intro S x1 x2 H locs ls hO1 hp hP hD hS hl
      rw [lp_X11_take_2] at hO1
      rw [lq_X11_take_2] at hp
      obtain ⟨hp, hq1⟩ := hp
      generalize hE : st_X11_take_2 S x1 x2 = Y1 at hO1 hq1
      unfold st_X11_take_2 at hE
      unfold ps_X11_take_2 at hp
      refine lv_iload_n hx hb dX11_take_2 rfl (lv_at hl 2 rfl) ?_
      refine lv_aload_n hx hb dX11_take_3 rfl (lv_at hl 0 rfl) ?_
      refine va_get (D := G) (ci := 8) (v := .ref (g 34)) (C := RX11) (T := TX11) (N := 42) hx hb hts iX11 hown hK hP 0 rfl rfl 34 (by decide) (hw (.fieldLink RX11 81 "MotionFloorModel$Hall" "lying" "[I") (List.mem_of_getElem? (i := 0) rfl)) (fun _ h9 => h9) rfl dX11_take_4 ?_
      refine lv_iload_n hx hb dX11_take_7 rfl (lv_at hl 1 rfl) ?_
      obtain ⟨hy1, hp⟩ := hp
      refine va_iald hx hb hK hP 23 0 rfl rfl hy1 dX11_take_8 ?_
      refine lv_icmp_ge (tgt := 35) hx hb dX11_take_9 (by decide) (fun c2 => ?_) (fun c2 => ?_)
      · rw [if_pos c2] at hE hp
        subst hE
        have hE := hO1
        dsimp only at hE
        refine lv_aload_n hx hb dX11_take_35 rfl (lv_at hl 0 rfl) ?_
        refine lv_aload_n hx hb dX11_take_36 rfl (lv_at hl 0 rfl) ?_
        refine va_get (D := G) (ci := 8) (v := .ref (g 34)) (C := RX11) (T := TX11) (N := 42) hx hb hts iX11 hown hK hP 0 rfl rfl 34 (by decide) (hw (.fieldLink RX11 81 "MotionFloorModel$Hall" "lying" "[I") (List.mem_of_getElem? (i := 0) rfl)) (fun _ h9 => h9) rfl dX11_take_37 ?_
        refine lv_iload_n hx hb dX11_take_40 rfl (lv_at hl 1 rfl) ?_
        obtain ⟨hy3, hp⟩ := hp
        refine va_iald hx hb hK hP 23 0 rfl rfl hy3 dX11_take_41 ?_
        refine va_put (D := G) (ci := 8) (v := .int (S.2 34 x1.toNatClampNeg)) (ty := .int) (C := RX11) (T := TX11) (N := 42) hx hb hts iX11 tyX11 tyX11_ok nmX11 hown hK hP hD hS 0 rfl rfl 35 (by decide) (hw (.fieldLink RX11 130 "MotionFloorModel$Hall" "drafted" "I") (List.mem_of_getElem? (i := 1) rfl)) (fun _ h9 => h9) rfl (by decide +kernel) rfl rfl (Nat.le_of_ble_eq_true rfl) dX11_take_42 (fun H locs hP hD hS => ?_)
        rw [sI_35] at hP hD
        refine lv_aload_n hx hb dX11_take_45 rfl (lv_at hl 0 rfl) ?_
        refine lv_aload_n hx hb dX11_take_46 rfl (lv_at hl 0 rfl) ?_
        refine va_get (D := G) (ci := 8) (v := .ref (g 37)) (C := RX11) (T := TX11) (N := 42) hx hb hts iX11 hown hK hP 0 rfl rfl 37 (by decide) (hw (.fieldLink RX11 84 "MotionFloorModel$Hall" "tabled" "[Z") (List.mem_of_getElem? (i := 2) rfl)) (fun _ h9 => h9) rfl dX11_take_47 ?_
        refine lv_iload_n hx hb dX11_take_50 rfl (lv_at hl 1 rfl) ?_
        obtain ⟨hy4, hp⟩ := hp
        refine va_zald hx hb hK hP 24 1 rfl rfl hy4 dX11_take_51 ?_
        obtain ⟨hy5, hp⟩ := hp
        refine va_put (D := G) (ci := 8) (v := .int ((sI S 35 (S.2 34 x1.toNatClampNeg)).2 37 x1.toNatClampNeg)) (ty := .boolean) (C := RX11) (T := TX11) (N := 42) hx hb hts iX11 tyX11 tyX11_ok nmX11 hown hK hP hD hS 0 rfl rfl 36 (by decide) (hw (.fieldLink RX11 151 "MotionFloorModel$Hall" "draftTabled" "Z") (List.mem_of_getElem? (i := 3) rfl)) (fun _ h9 => h9) rfl (by decide +kernel) hy5.1 hy5.2 (Nat.le_of_ble_eq_true rfl) dX11_take_52 (fun H locs hP hD hS => ?_)
        rw [sI_36] at hP hD
        refine lv_aload_n hx hb dX11_take_55 rfl (lv_at hl 0 rfl) ?_
        refine va_get (D := G) (ci := 8) (v := .ref (g 34)) (C := RX11) (T := TX11) (N := 42) hx hb hts iX11 hown hK hP 0 rfl rfl 34 (by decide) (hw (.fieldLink RX11 81 "MotionFloorModel$Hall" "lying" "[I") (List.mem_of_getElem? (i := 0) rfl)) (fun _ h9 => h9) rfl dX11_take_56 ?_
        refine lv_iload_n hx hb dX11_take_59 rfl (lv_at hl 1 rfl) ?_
        refine lv_iconst (v := 0) hx hb dX11_take_60 (by decide) ?_
        obtain ⟨hy6, hp⟩ := hp
        refine va_iast hx hb hK hP hD hS 23 0 rfl rfl hy6 dX11_take_61 (fun H locs hP hD hS => ?_)
        rw [sA_34] at hP hD
        refine lv_aload_n hx hb dX11_take_62 rfl (lv_at hl 0 rfl) ?_
        refine va_get (D := G) (ci := 8) (v := .ref (g 27)) (C := RX11) (T := TX11) (N := 42) hx hb hts iX11 hown hK hP 0 rfl rfl 27 (by decide) (hw (.fieldLink RX11 61 "MotionFloorModel$Hall" "letter" "[Z") (List.mem_of_getElem? (i := 4) rfl)) (fun _ h9 => h9) rfl dX11_take_63 ?_
        refine lv_aload_n hx hb dX11_take_66 rfl (lv_at hl 0 rfl) ?_
        refine va_get (D := G) (ci := 8) (v := .ref (g 32)) (C := RX11) (T := TX11) (N := 42) hx hb hts iX11 hown hK hP 0 rfl rfl 32 (by decide) (hw (.fieldLink RX11 75 "MotionFloorModel$Hall" "draft" "[I") (List.mem_of_getElem? (i := 5) rfl)) (fun _ h9 => h9) rfl dX11_take_67 ?_
        refine lv_iconst (v := 0) hx hb dX11_take_70 (by decide) ?_
        obtain ⟨hy7, hp⟩ := hp
        refine va_iald hx hb hK hP 21 0 rfl rfl hy7 dX11_take_71 ?_
        refine lv_iconst (v := 0) hx hb dX11_take_72 (by decide) ?_
        obtain ⟨hy8, hp⟩ := hp
        refine va_zast hx hb hK hP hD hS 17 1 rfl rfl hy8 dX11_take_73 (fun H locs hP hD hS => ?_)
        rw [sA_27] at hP hD
        refine lv_aload_n hx hb dX11_take_74 rfl (lv_at hl 0 rfl) ?_
        refine va_get (D := G) (ci := 8) (v := .int ((sA (sA (sI (sI S 35 (S.2 34 x1.toNatClampNeg)) 36 ((sI S 35 (S.2 34 x1.toNatClampNeg)).2 37 x1.toNatClampNeg)) 34 x1.toNatClampNeg 0) 27 ((sA (sI (sI S 35 (S.2 34 x1.toNatClampNeg)) 36 ((sI S 35 (S.2 34 x1.toNatClampNeg)).2 37 x1.toNatClampNeg)) 34 x1.toNatClampNeg 0).2 32 (0 : Int32).toNatClampNeg).toNatClampNeg (vp_nar .boolean 0)).1 36)) (C := RX11) (T := TX11) (N := 42) hx hb hts iX11 hown hK hP 0 rfl rfl 36 (by decide) (hw (.fieldLink RX11 151 "MotionFloorModel$Hall" "draftTabled" "Z") (List.mem_of_getElem? (i := 3) rfl)) (fun _ h9 => h9) rfl dX11_take_75 ?_
        refine lv_if_eq (tgt := 86) hx hb dX11_take_78 (by decide) (fun c9 => ?_) (fun c9 => ?_)
        · rw [if_pos c9] at hE hp
          refine lv_aload_n hx hb dX11_take_86 rfl (lv_at hl 0 rfl) ?_
          refine va_get (D := G) (ci := 8) (v := .ref (g 14)) (C := RX11) (T := TX11) (N := 42) hx hb hts iX11 hown hK hP 0 rfl rfl 14 (by decide) (hw (.fieldLink RX11 22 "MotionFloorModel$Hall" "kind" "[I") (List.mem_of_getElem? (i := 6) rfl)) (fun _ h9 => h9) rfl dX11_take_87 ?_
          refine lv_aload_n hx hb dX11_take_90 rfl (lv_at hl 0 rfl) ?_
          refine va_get (D := G) (ci := 8) (v := .ref (g 32)) (C := RX11) (T := TX11) (N := 42) hx hb hts iX11 hown hK hP 0 rfl rfl 32 (by decide) (hw (.fieldLink RX11 75 "MotionFloorModel$Hall" "draft" "[I") (List.mem_of_getElem? (i := 5) rfl)) (fun _ h9 => h9) rfl dX11_take_91 ?_
          refine lv_iconst (v := 0) hx hb dX11_take_94 (by decide) ?_
          obtain ⟨hy10, hp⟩ := hp
          refine va_iald hx hb hK hP 21 0 rfl rfl hy10 dX11_take_95 ?_
          obtain ⟨hy11, hp⟩ := hp
          refine va_iald hx hb hK hP 4 0 rfl rfl hy11 dX11_take_96 ?_
          exact B_97 (sA (sA (sI (sI S 35 (S.2 34 x1.toNatClampNeg)) 36 ((sI S 35 (S.2 34 x1.toNatClampNeg)).2 37 x1.toNatClampNeg)) 34 x1.toNatClampNeg 0) 27 ((sA (sI (sI S 35 (S.2 34 x1.toNatClampNeg)) 36 ((sI S 35 (S.2 34 x1.toNatClampNeg)).2 37 x1.toNatClampNeg)) 34 x1.toNatClampNeg 0).2 32 (0 : Int32).toNatClampNeg).toNatClampNeg (vp_nar .boolean 0)) x1 x2 ((sA (sA (sI (sI S 35 (S.2 34 x1.toNatClampNeg)) 36 ((sI S 35 (S.2 34 x1.toNatClampNeg)).2 37 x1.toNatClampNeg)) 34 x1.toNatClampNeg 0) 27 ((sA (sI (sI S 35 (S.2 34 x1.toNatClampNeg)) 36 ((sI S 35 (S.2 34 x1.toNatClampNeg)).2 37 x1.toNatClampNeg)) 34 x1.toNatClampNeg 0).2 32 (0 : Int32).toNatClampNeg).toNatClampNeg (vp_nar .boolean 0)).2 14 ((sA (sA (sI (sI S 35 (S.2 34 x1.toNatClampNeg)) 36 ((sI S 35 (S.2 34 x1.toNatClampNeg)).2 37 x1.toNatClampNeg)) 34 x1.toNatClampNeg 0) 27 ((sA (sI (sI S 35 (S.2 34 x1.toNatClampNeg)) 36 ((sI S 35 (S.2 34 x1.toNatClampNeg)).2 37 x1.toNatClampNeg)) 34 x1.toNatClampNeg 0).2 32 (0 : Int32).toNatClampNeg).toNatClampNeg (vp_nar .boolean 0)).2 32 (0 : Int32).toNatClampNeg).toNatClampNeg) _ _ _ hE hp hP hD hS (lv_sub hl [0, 1, 2] rfl)
        · rw [if_neg c9] at hE hp
          refine lv_bipush (v := 7) hx hb dX11_take_81 (by decide) ?_
          refine lv_goto (tgt := 97) hx hb dX11_take_83 (by decide) ?_
          exact B_97 (sA (sA (sI (sI S 35 (S.2 34 x1.toNatClampNeg)) 36 ((sI S 35 (S.2 34 x1.toNatClampNeg)).2 37 x1.toNatClampNeg)) 34 x1.toNatClampNeg 0) 27 ((sA (sI (sI S 35 (S.2 34 x1.toNatClampNeg)) 36 ((sI S 35 (S.2 34 x1.toNatClampNeg)).2 37 x1.toNatClampNeg)) 34 x1.toNatClampNeg 0).2 32 (0 : Int32).toNatClampNeg).toNatClampNeg (vp_nar .boolean 0)) x1 x2 7 _ _ _ hE hp hP hD hS (lv_sub hl [0, 1, 2] rfl)
      · rw [if_neg c2] at hE hp
        refine lv_aload_n hx hb dX11_take_12 rfl (lv_at hl 0 rfl) ?_
        refine va_get (D := G) (ci := 8) (v := .ref (g 32)) (C := RX11) (T := TX11) (N := 42) hx hb hts iX11 hown hK hP 0 rfl rfl 32 (by decide) (hw (.fieldLink RX11 75 "MotionFloorModel$Hall" "draft" "[I") (List.mem_of_getElem? (i := 5) rfl)) (fun _ h9 => h9) rfl dX11_take_13 ?_
        refine lv_iload_n hx hb dX11_take_16 rfl (lv_at hl 2 rfl) ?_
        refine lv_aload_n hx hb dX11_take_17 rfl (lv_at hl 0 rfl) ?_
        refine va_get (D := G) (ci := 8) (v := .ref (g 33)) (C := RX11) (T := TX11) (N := 42) hx hb hts iX11 hown hK hP 0 rfl rfl 33 (by decide) (hw (.fieldLink RX11 78 "MotionFloorModel$Hall" "desk" "[I") (List.mem_of_getElem? (i := 7) rfl)) (fun _ h9 => h9) rfl dX11_take_18 ?_
        refine lv_bipush (v := 9) hx hb dX11_take_21 (by decide) ?_
        refine lv_iload_n hx hb dX11_take_23 rfl (lv_at hl 1 rfl) ?_
        refine lv_imul hx hb dX11_take_24 ?_
        refine lv_iload_n hx hb dX11_take_25 rfl (lv_at hl 2 rfl) ?_
        refine lv_iadd hx hb dX11_take_26 ?_
        obtain ⟨hy12, hp⟩ := hp
        refine va_iald hx hb hK hP 22 0 rfl rfl hy12 dX11_take_27 ?_
        obtain ⟨hy13, hp⟩ := hp
        refine va_iast hx hb hK hP hD hS 21 0 rfl rfl hy13 dX11_take_28 (fun H locs hP hD hS => ?_)
        rw [sA_32] at hP hD
        refine lv_iinc (v := (x2 + 1)) (lv' := [(2, .int (x2 + 1)), (0, .ref h), (1, .int x1)]) hx hb dX11_take_29 hl (k := 2) rfl rfl (by decide) rfl (fun ls hl => ?_)
        refine lv_goto (tgt := 2) hx hb dX11_take_32 (by decide) ?_
        subst hE
        dsimp only at hO1 hq1
        exact ih1 (sA S 32 x2.toNatClampNeg (S.2 33 ((9 * x1) + x2).toNatClampNeg)) x1 (x2 + 1) _ _ _ hO1 hq1 hP hD hS (lv_sub hl [1, 2, 0] rfl)
  have B_M : ∀ (S : HS) (x1 : Int32) (H : Heap) (locs : List Loc) (ls : Array Slot), f_X11_take S x1 = X → p_X11_take S x1 → va_P G vwCl (hW K h g S) H → va_D A (hW K h g S) → va_S A s.heap H locs → lv_has ls 3 [(0, .ref h), (1, .int x1)] → W p l e ({ frames := 0, cells := 0, slots := 0, locals := 0 } : Room) s m #[Value.ref h, Value.int a1] below meth c H locs 0 0 Q (F0 m 0 ls []) := by
    intro S x1 H locs ls hE hp hP hD hS hl
    unfold f_X11_take at hE
    unfold p_X11_take at hp
    refine lv_iconst (v := 0) hx hb dX11_take_0 (by decide) ?_
    refine lv_istore_n (lv' := [(2, .int 0), (0, .ref h), (1, .int x1)]) hx hb dX11_take_1 rfl hl (by decide) rfl (fun ls hl => ?_)
    exact L_2 100000 S x1 0 _ _ _ hE hp hP hD hS (lv_sub hl [1, 2, 0] rfl)
  exact B_M S0 a1 _ _ _ hX hp hP hD hS hl
def st_X11_move_77 (S : HS) (x1 x2 : Int32) : (Int32 × HS) ⊕ (HS × Int32 × Int32) := if (S.1 35) ≤ x2 then Sum.inl ((((sI (sI (sI S 6 ((S.1 6) + (S.1 35))) 35 0) 5 (-1)).1 6), (sI (sI (sI S 6 ((S.1 6) + (S.1 35))) 35 0) 5 (-1)))) else Sum.inr ((sA S 31 ((S.1 6) + x2).toNatClampNeg (S.2 32 x2.toNatClampNeg)), x1, (x2 + 1))
def ps_X11_move_77 (S : HS) (x1 x2 : Int32) : Prop := (if (S.1 35) ≤ x2 then True else (vp_in x2 9) ∧ (vp_in ((S.1 6) + x2) 9) ∧ True)
def lp_X11_move_77 : Nat → HS → Int32 → Int32 → Int32 × HS
  | 0, S, _, _ => (0, S)
  | n + 1, S, x1, x2 => match st_X11_move_77 S x1 x2 with
    | Sum.inl r => r
    | Sum.inr q => lp_X11_move_77 n q.1 q.2.1 q.2.2
def lq_X11_move_77 : Nat → HS → Int32 → Int32 → Prop
  | 0, _, _, _ => False
  | n + 1, S, x1, x2 => ps_X11_move_77 S x1 x2 ∧ (match st_X11_move_77 S x1 x2 with
    | Sum.inl _ => True
    | Sum.inr q => lq_X11_move_77 n q.1 q.2.1 q.2.2)
def b_X11_move_75 (S : HS) (x1 : Int32) : Int32 × HS := (lp_X11_move_77 100000 S x1 0)
def q_X11_move_75 (S : HS) (x1 : Int32) : Prop := (lq_X11_move_77 100000 S x1 0)
def b_X11_move_68 (S : HS) (x1 x2 x3 : Int32) : Int32 × HS := (b_X11_move_75 (sA S 15 x2.toNatClampNeg x1) x1)
def q_X11_move_68 (S : HS) (x1 x2 x3 : Int32) : Prop := (vp_in x2 90) ∧ (q_X11_move_75 (sA S 15 x2.toNatClampNeg x1) x1)
def b_X11_move_a66 (S : HS) (x1 x2 x3 y0 y1 : Int32) : Int32 × HS := (b_X11_move_68 (sA S 23 y1.toNatClampNeg (S.2 22 y0.toNatClampNeg)) x1 x2 x3)
def q_X11_move_a66 (S : HS) (x1 x2 x3 y0 y1 : Int32) : Prop := (vp_in y0 90) ∧ (vp_in y1 90) ∧ (q_X11_move_68 (sA S 23 y1.toNatClampNeg (S.2 22 y0.toNatClampNeg)) x1 x2 x3)
def b_X11_move_39 (S : HS) (x1 x2 y0 : Int32) : Int32 × HS := if y0 = 0 then (b_X11_move_68 S x1 x2 y0) else if (S.2 25 x2.toNatClampNeg) = 0 then (b_X11_move_a66 (f_X11_top S ).2 x1 x2 y0 (f_X11_top S ).1 x2) else (b_X11_move_68 S x1 x2 y0)
def q_X11_move_39 (S : HS) (x1 x2 y0 : Int32) : Prop := (if y0 = 0 then (q_X11_move_68 S x1 x2 y0) else (vp_in x2 90) ∧ (if (S.2 25 x2.toNatClampNeg) = 0 then (p_X11_top S ) ∧ (q_X11_move_a66 (f_X11_top S ).2 x1 x2 y0 (f_X11_top S ).1 x2) else (q_X11_move_68 S x1 x2 y0)))
def b_X11_move_34 (S : HS) (x1 x2 : Int32) : Int32 × HS := (b_X11_move_39 S x1 x2 1)
def q_X11_move_34 (S : HS) (x1 x2 : Int32) : Prop := (q_X11_move_39 S x1 x2 1)
def f_X11_move (S : HS) (x1 : Int32) : Int32 × HS := if (S.1 36) = 0 then if (S.2 14 (S.2 32 (0 : Int32).toNatClampNeg).toNatClampNeg) = 2 then (b_X11_move_34 S x1 (S.2 32 (0 : Int32).toNatClampNeg)) else if (S.2 14 (S.2 32 (0 : Int32).toNatClampNeg).toNatClampNeg) = 3 then (b_X11_move_34 S x1 (S.2 32 (0 : Int32).toNatClampNeg)) else (b_X11_move_39 S x1 (S.2 32 (0 : Int32).toNatClampNeg) 0) else (b_X11_move_75 S x1)
def p_X11_move (S : HS) (x1 : Int32) : Prop := (if (S.1 36) = 0 then (vp_in 0 9) ∧ (vp_in (S.2 32 (0 : Int32).toNatClampNeg) 90) ∧ (if (S.2 14 (S.2 32 (0 : Int32).toNatClampNeg).toNatClampNeg) = 2 then (q_X11_move_34 S x1 (S.2 32 (0 : Int32).toNatClampNeg)) else (vp_in (S.2 32 (0 : Int32).toNatClampNeg) 90) ∧ (if (S.2 14 (S.2 32 (0 : Int32).toNatClampNeg).toNatClampNeg) = 3 then (q_X11_move_34 S x1 (S.2 32 (0 : Int32).toNatClampNeg)) else (q_X11_move_39 S x1 (S.2 32 (0 : Int32).toNatClampNeg) 0))) else (q_X11_move_75 S x1))
def e_X11_move : List Cond := [.fieldLink RX11 151 "MotionFloorModel$Hall" "draftTabled" "Z", .fieldLink RX11 130 "MotionFloorModel$Hall" "drafted" "I", .fieldLink RX11 115 "MotionFloorModel$Hall" "pending" "I", .fieldLink RX11 112 "MotionFloorModel$Hall" "floor" "I", .fieldLink RX11 72 "MotionFloorModel$Hall" "row" "[I", .fieldLink RX11 75 "MotionFloorModel$Hall" "draft" "[I", .fieldLink RX11 22 "MotionFloorModel$Hall" "kind" "[I", .fieldLink RX11 25 "MotionFloorModel$Hall" "mover" "[I", .fieldLink RX11 55 "MotionFloorModel$Hall" "laid" "[Z", .fieldLink RX11 49 "MotionFloorModel$Hall" "subject" "[I", .fieldLink RX11 46 "MotionFloorModel$Hall" "self" "[I", .methodLink RX11 155 yX11_top, .instanceMethod yX11_top, .selects RX11 yX11_top yX11_top, .initialized RX11]
def v_X11_move : List Cond := .code yX11_move cX11_move 4 (some .int) :: (e_X11_move ++ (wsX110 ++ (v_X11_top ++ [])))
theorem te_X11_move : GoodIn lw_tbl e_X11_move := wGc z85 (wGc z86 (wGc z56 (wGc z118 (wGc z57 (wGc z84 (wGc z78 (wGc z77 (wGc z72 (wGc z73 (wGc z63 (wGc z91 (wGc z90 (wGc z89 (wGc z51 (wG0)))))))))))))))
theorem t_X11_move : GoodIn lw_tbl v_X11_move := wGc z144 (wGa te_X11_move (wGa zcX11 (wGa t_X11_top (wG0))))
set_option maxHeartbeats 4000000 in
set_option maxRecDepth 100000 in
theorem c_X11_move (l : Launch) (G : va_G) (K : Nat → ClassId) (h : Nat) (g : Nat → Nat) (S0 : HS) (a1 : Int32) (sz : Nat) : Met l yX11_move v_X11_move ({ frames := 1, cells := 0, slots := 0, locals := 20 }) (va_Pc [.ref h, .int a1] (hS G K h g sz S0 (p_X11_move S0 a1))) (va_Qi (fun (r : Int32) (u : HS) => (r, u) = f_X11_move S0 a1) (hB G K h g (va_A (hW K h g S0) sz)) (va_A (hW K h g S0) sz)) 0 0 (va_A (hW K h g S0) sz) := by
  refine Met.ofW (cc := cX11_move) (maxL := 4) (ret := (some .int)) (by decide) rfl ?_
  intro p e s m args below meth c s₁ B hml hv
  obtain ⟨rfl, ⟨hsz, hP, hK, hD0, hTE⟩, hp⟩ := hv
  have hx := B.exec
  have hb := B.bytes
  have hr := B.returns
  have hts := atoms_spec (ws := v_X11_move) B.pre
  have t_ := t_X11_move
  have mw : ∀ w ∈ e_X11_move, w ∈ v_X11_move := fun w h => List.mem_cons_of_mem _ (List.mem_append_left _ h)
  have hw := fun w (h : w ∈ e_X11_move) => hts w (mw w h)
  have iX11 : ∀ w ∈ wsX110, w ∈ v_X11_move := fun w h => List.mem_cons_of_mem _ (List.mem_append_right _ (List.mem_append_left _ h))
  have j_X11_top : ∀ w ∈ v_X11_top, w ∈ v_X11_move := fun w h => List.mem_cons_of_mem _ (List.mem_append_right _ (List.mem_append_right _ (List.mem_append_left _ h)))
  have hown : s.vm.findClass RX11 = some m.cls := findClass_of_methodNamed B.named
  have hlocks := B.notSynchronized
  subst hsz
  have hD := hD0.self (sz := s.heap.size)
  generalize hAe : va_A (hW K h g S0) s.heap.size = A at hD ⊢
  have hA : ∀ q : Nat, s.heap.size ≤ q → A q := fun q h => by rw [← hAe]; exact Or.inr h
  have hS : va_S A s.heap s.heap [] := va_S.rf
  have hl := lv_entry ([.ref h, .int a1]) (n := 4) (Nat.le_of_ble_eq_true rfl)
  rw [lg_entry_eq]
  generalize (lg_sl ([.ref h, .int a1]) ++ List.replicate (4 - (lg_sl ([.ref h, .int a1])).length) Slot.unset).toArray = ls at hl ⊢
  have hl : lv_has ls 4 [(0, .ref h), (1, .int a1)] := hl
  refine wGen (fun Q hQ => ?_)
  obtain ⟨X, hX⟩ : ∃ X, f_X11_move S0 a1 = X := ⟨_, rfl⟩
  have L_77 : ∀ (n : Nat) (S : HS) (x1 x2 : Int32) (H : Heap) (locs : List Loc) (ls : Array Slot), lp_X11_move_77 n S x1 x2 = X → lq_X11_move_77 n S x1 x2 → va_P G vwCl (hW K h g S) H → va_D A (hW K h g S) → va_S A s.heap H locs → lv_has ls 4 [(0, .ref h), (1, .int x1), (2, .int x2)] → W p l e ({ frames := 1, cells := 0, slots := 0, locals := 20 } : Room) s m #[Value.ref h, Value.int a1] below meth c H locs 0 0 Q (F0 m 77 ls []) := by
    intro n1
    induction n1 with
    | zero => intro S x1 x2 H locs ls hE hp; exact False.elim hp
    | succ n1 ih1 =>
      intro S x1 x2 H locs ls hO1 hp hP hD hS hl
      rw [lp_X11_move_77] at hO1
      rw [lq_X11_move_77] at hp
      obtain ⟨hp, hq1⟩ := hp
      generalize hE : st_X11_move_77 S x1 x2 = Y1 at hO1 hq1
      unfold st_X11_move_77 at hE
      unfold ps_X11_move_77 at hp
      refine lv_iload_n hx hb dX11_move_77 rfl (lv_at hl 2 rfl) ?_
      refine lv_aload_n hx hb dX11_move_78 rfl (lv_at hl 0 rfl) ?_
      refine va_get (D := G) (ci := 8) (v := .int (S.1 35)) (C := RX11) (T := TX11) (N := 42) hx hb hts iX11 hown hK hP 0 rfl rfl 35 (by decide) (hw (.fieldLink RX11 130 "MotionFloorModel$Hall" "drafted" "I") (List.mem_of_getElem? (i := 1) rfl)) (fun _ h9 => h9) rfl dX11_move_79 ?_
      refine lv_icmp_ge (tgt := 108) hx hb dX11_move_82 (by decide) (fun c2 => ?_) (fun c2 => ?_)
      · rw [if_pos c2] at hE hp
        subst hE
        have hE := hO1
        dsimp only at hE
        refine lv_aload_n hx hb dX11_move_108 rfl (lv_at hl 0 rfl) ?_
        refine lv_dup hx hb dX11_move_109 rfl ?_
        refine va_get (D := G) (ci := 8) (v := .int (S.1 6)) (C := RX11) (T := TX11) (N := 42) hx hb hts iX11 hown hK hP 0 rfl rfl 6 (by decide) (hw (.fieldLink RX11 115 "MotionFloorModel$Hall" "pending" "I") (List.mem_of_getElem? (i := 2) rfl)) (fun _ h9 => h9) rfl dX11_move_110 ?_
        refine lv_aload_n hx hb dX11_move_113 rfl (lv_at hl 0 rfl) ?_
        refine va_get (D := G) (ci := 8) (v := .int (S.1 35)) (C := RX11) (T := TX11) (N := 42) hx hb hts iX11 hown hK hP 0 rfl rfl 35 (by decide) (hw (.fieldLink RX11 130 "MotionFloorModel$Hall" "drafted" "I") (List.mem_of_getElem? (i := 1) rfl)) (fun _ h9 => h9) rfl dX11_move_114 ?_
        refine lv_iadd hx hb dX11_move_117 ?_
        refine va_put (D := G) (ci := 8) (v := .int ((S.1 6) + (S.1 35))) (ty := .int) (C := RX11) (T := TX11) (N := 42) hx hb hts iX11 tyX11 tyX11_ok nmX11 hown hK hP hD hS 0 rfl rfl 6 (by decide) (hw (.fieldLink RX11 115 "MotionFloorModel$Hall" "pending" "I") (List.mem_of_getElem? (i := 2) rfl)) (fun _ h9 => h9) rfl (by decide +kernel) rfl rfl (Nat.le_of_ble_eq_true rfl) dX11_move_118 (fun H locs hP hD hS => ?_)
        rw [sI_6] at hP hD
        refine lv_aload_n hx hb dX11_move_121 rfl (lv_at hl 0 rfl) ?_
        refine lv_iconst (v := 0) hx hb dX11_move_122 (by decide) ?_
        refine va_put (D := G) (ci := 8) (v := .int 0) (ty := .int) (C := RX11) (T := TX11) (N := 42) hx hb hts iX11 tyX11 tyX11_ok nmX11 hown hK hP hD hS 0 rfl rfl 35 (by decide) (hw (.fieldLink RX11 130 "MotionFloorModel$Hall" "drafted" "I") (List.mem_of_getElem? (i := 1) rfl)) (fun _ h9 => h9) rfl (by decide +kernel) rfl rfl (Nat.le_of_ble_eq_true rfl) dX11_move_123 (fun H locs hP hD hS => ?_)
        rw [sI_35] at hP hD
        refine lv_aload_n hx hb dX11_move_126 rfl (lv_at hl 0 rfl) ?_
        refine lv_iconst (v := (-1)) hx hb dX11_move_127 (by decide) ?_
        refine va_put (D := G) (ci := 8) (v := .int (-1)) (ty := .int) (C := RX11) (T := TX11) (N := 42) hx hb hts iX11 tyX11 tyX11_ok nmX11 hown hK hP hD hS 0 rfl rfl 5 (by decide) (hw (.fieldLink RX11 112 "MotionFloorModel$Hall" "floor" "I") (List.mem_of_getElem? (i := 3) rfl)) (fun _ h9 => h9) rfl (by decide +kernel) rfl rfl (Nat.le_of_ble_eq_true rfl) dX11_move_128 (fun H locs hP hD hS => ?_)
        rw [sI_5] at hP hD
        refine lv_aload_n hx hb dX11_move_131 rfl (lv_at hl 0 rfl) ?_
        refine va_get (D := G) (ci := 8) (v := .int ((sI (sI (sI S 6 ((S.1 6) + (S.1 35))) 35 0) 5 (-1)).1 6)) (C := RX11) (T := TX11) (N := 42) hx hb hts iX11 hown hK hP 0 rfl rfl 6 (by decide) (hw (.fieldLink RX11 115 "MotionFloorModel$Hall" "pending" "I") (List.mem_of_getElem? (i := 2) rfl)) (fun _ h9 => h9) rfl dX11_move_132 ?_
        subst hQ
        exact W.iret (v := ((sI (sI (sI S 6 ((S.1 6) + (S.1 35))) 35 0) 5 (-1)).1 6)) hx hb hr (fun t ht hW => ⟨⟨((sI (sI (sI S 6 ((S.1 6) + (S.1 35))) 35 0) 5 (-1)).1 6), (sI (sI (sI S 6 ((S.1 6) + (S.1 35))) 35 0) 5 (-1)), rfl, hE.trans hX.symm, by rw [ht]; exact hP, hD⟩, hS.F ht⟩) hS.2.2 dX11_move_135
      · rw [if_neg c2] at hE hp
        refine lv_aload_n hx hb dX11_move_85 rfl (lv_at hl 0 rfl) ?_
        refine va_get (D := G) (ci := 8) (v := .ref (g 31)) (C := RX11) (T := TX11) (N := 42) hx hb hts iX11 hown hK hP 0 rfl rfl 31 (by decide) (hw (.fieldLink RX11 72 "MotionFloorModel$Hall" "row" "[I") (List.mem_of_getElem? (i := 4) rfl)) (fun _ h9 => h9) rfl dX11_move_86 ?_
        refine lv_aload_n hx hb dX11_move_89 rfl (lv_at hl 0 rfl) ?_
        refine va_get (D := G) (ci := 8) (v := .int (S.1 6)) (C := RX11) (T := TX11) (N := 42) hx hb hts iX11 hown hK hP 0 rfl rfl 6 (by decide) (hw (.fieldLink RX11 115 "MotionFloorModel$Hall" "pending" "I") (List.mem_of_getElem? (i := 2) rfl)) (fun _ h9 => h9) rfl dX11_move_90 ?_
        refine lv_iload_n hx hb dX11_move_93 rfl (lv_at hl 2 rfl) ?_
        refine lv_iadd hx hb dX11_move_94 ?_
        refine lv_aload_n hx hb dX11_move_95 rfl (lv_at hl 0 rfl) ?_
        refine va_get (D := G) (ci := 8) (v := .ref (g 32)) (C := RX11) (T := TX11) (N := 42) hx hb hts iX11 hown hK hP 0 rfl rfl 32 (by decide) (hw (.fieldLink RX11 75 "MotionFloorModel$Hall" "draft" "[I") (List.mem_of_getElem? (i := 5) rfl)) (fun _ h9 => h9) rfl dX11_move_96 ?_
        refine lv_iload_n hx hb dX11_move_99 rfl (lv_at hl 2 rfl) ?_
        obtain ⟨hy3, hp⟩ := hp
        refine va_iald hx hb hK hP 21 0 rfl rfl hy3 dX11_move_100 ?_
        obtain ⟨hy4, hp⟩ := hp
        refine va_iast hx hb hK hP hD hS 20 0 rfl rfl hy4 dX11_move_101 (fun H locs hP hD hS => ?_)
        rw [sA_31] at hP hD
        refine lv_iinc (v := (x2 + 1)) (lv' := [(2, .int (x2 + 1)), (0, .ref h), (1, .int x1)]) hx hb dX11_move_102 hl (k := 2) rfl rfl (by decide) rfl (fun ls hl => ?_)
        refine lv_goto (tgt := 77) hx hb dX11_move_105 (by decide) ?_
        subst hE
        dsimp only at hO1 hq1
        exact ih1 (sA S 31 ((S.1 6) + x2).toNatClampNeg (S.2 32 x2.toNatClampNeg)) x1 (x2 + 1) _ _ _ hO1 hq1 hP hD hS (lv_sub hl [1, 2, 0] rfl)
  have B_75 : ∀ (S : HS) (x1 : Int32) (H : Heap) (locs : List Loc) (ls : Array Slot), b_X11_move_75 S x1 = X → q_X11_move_75 S x1 → va_P G vwCl (hW K h g S) H → va_D A (hW K h g S) → va_S A s.heap H locs → lv_has ls 4 [(0, .ref h), (1, .int x1)] → W p l e ({ frames := 1, cells := 0, slots := 0, locals := 20 } : Room) s m #[Value.ref h, Value.int a1] below meth c H locs 0 0 Q (F0 m 75 ls []) := by
    intro S x1 H locs ls hE hp hP hD hS hl
    unfold b_X11_move_75 at hE
    unfold q_X11_move_75 at hp
    refine lv_iconst (v := 0) hx hb dX11_move_75 (by decide) ?_
    refine lv_istore_n (lv' := [(2, .int 0), (0, .ref h), (1, .int x1)]) hx hb dX11_move_76 rfl hl (by decide) rfl (fun ls hl => ?_)
    exact L_77 100000 S x1 0 _ _ _ hE hp hP hD hS (lv_sub hl [1, 2, 0] rfl)
  have B_68 : ∀ (S : HS) (x1 x2 x3 : Int32) (H : Heap) (locs : List Loc) (ls : Array Slot), b_X11_move_68 S x1 x2 x3 = X → q_X11_move_68 S x1 x2 x3 → va_P G vwCl (hW K h g S) H → va_D A (hW K h g S) → va_S A s.heap H locs → lv_has ls 4 [(0, .ref h), (1, .int x1), (2, .int x2), (3, .int x3)] → W p l e ({ frames := 1, cells := 0, slots := 0, locals := 20 } : Room) s m #[Value.ref h, Value.int a1] below meth c H locs 0 0 Q (F0 m 68 ls []) := by
    intro S x1 x2 x3 H locs ls hE hp hP hD hS hl
    unfold b_X11_move_68 at hE
    unfold q_X11_move_68 at hp
    refine lv_aload_n hx hb dX11_move_68 rfl (lv_at hl 0 rfl) ?_
    refine va_get (D := G) (ci := 8) (v := .ref (g 15)) (C := RX11) (T := TX11) (N := 42) hx hb hts iX11 hown hK hP 0 rfl rfl 15 (by decide) (hw (.fieldLink RX11 25 "MotionFloorModel$Hall" "mover" "[I") (List.mem_of_getElem? (i := 7) rfl)) (fun _ h9 => h9) rfl dX11_move_69 ?_
    refine lv_iload_n hx hb dX11_move_72 rfl (lv_at hl 2 rfl) ?_
    refine lv_iload_n hx hb dX11_move_73 rfl (lv_at hl 1 rfl) ?_
    obtain ⟨hy9, hp⟩ := hp
    refine va_iast hx hb hK hP hD hS 5 0 rfl rfl hy9 dX11_move_74 (fun H locs hP hD hS => ?_)
    rw [sA_15] at hP hD
    exact B_75 (sA S 15 x2.toNatClampNeg x1) x1 _ _ _ hE hp hP hD hS (lv_sub hl [0, 1] rfl)
  have B_39 : ∀ (S : HS) (x1 x2 y0 : Int32) (H : Heap) (locs : List Loc) (ls : Array Slot), b_X11_move_39 S x1 x2 y0 = X → q_X11_move_39 S x1 x2 y0 → va_P G vwCl (hW K h g S) H → va_D A (hW K h g S) → va_S A s.heap H locs → lv_has ls 4 [(0, .ref h), (1, .int x1), (2, .int x2)] → W p l e ({ frames := 1, cells := 0, slots := 0, locals := 20 } : Room) s m #[Value.ref h, Value.int a1] below meth c H locs 0 0 Q (F0 m 39 ls [.int y0]) := by
    intro S x1 x2 y0 H locs ls hE hp hP hD hS hl
    unfold b_X11_move_39 at hE
    unfold q_X11_move_39 at hp
    refine lv_istore_n (lv' := [(3, .int y0), (0, .ref h), (1, .int x1), (2, .int x2)]) hx hb dX11_move_39 rfl hl (by decide) rfl (fun ls hl => ?_)
    refine lv_iload_n hx hb dX11_move_40 rfl (lv_at hl 0 rfl) ?_
    refine lv_if_eq (tgt := 68) hx hb dX11_move_41 (by decide) (fun c8 => ?_) (fun c8 => ?_)
    · rw [if_pos c8] at hE hp
      exact B_68 S x1 x2 y0 _ _ _ hE hp hP hD hS (lv_sub hl [1, 2, 3, 0] rfl)
    · rw [if_neg c8] at hE hp
      refine lv_aload_n hx hb dX11_move_44 rfl (lv_at hl 1 rfl) ?_
      refine va_get (D := G) (ci := 8) (v := .ref (g 25)) (C := RX11) (T := TX11) (N := 42) hx hb hts iX11 hown hK hP 0 rfl rfl 25 (by decide) (hw (.fieldLink RX11 55 "MotionFloorModel$Hall" "laid" "[Z") (List.mem_of_getElem? (i := 8) rfl)) (fun _ h9 => h9) rfl dX11_move_45 ?_
      refine lv_iload_n hx hb dX11_move_48 rfl (lv_at hl 3 rfl) ?_
      obtain ⟨hy10, hp⟩ := hp
      refine va_zald hx hb hK hP 15 1 rfl rfl hy10 dX11_move_49 ?_
      refine lv_if_ne (tgt := 68) hx hb dX11_move_50 (by decide) (fun c11 => ?_) (fun c11 => ?_)
      · rw [if_neg c11] at hE hp
        exact B_68 S x1 x2 y0 _ _ _ hE hp hP hD hS (lv_sub hl [1, 2, 3, 0] rfl)
      · rw [if_pos c11] at hE hp
        refine lv_aload_n hx hb dX11_move_53 rfl (lv_at hl 1 rfl) ?_
        refine va_get (D := G) (ci := 8) (v := .ref (g 23)) (C := RX11) (T := TX11) (N := 42) hx hb hts iX11 hown hK hP 0 rfl rfl 23 (by decide) (hw (.fieldLink RX11 49 "MotionFloorModel$Hall" "subject" "[I") (List.mem_of_getElem? (i := 9) rfl)) (fun _ h9 => h9) rfl dX11_move_54 ?_
        refine lv_iload_n hx hb dX11_move_57 rfl (lv_at hl 3 rfl) ?_
        refine lv_aload_n hx hb dX11_move_58 rfl (lv_at hl 1 rfl) ?_
        refine va_get (D := G) (ci := 8) (v := .ref (g 22)) (C := RX11) (T := TX11) (N := 42) hx hb hts iX11 hown hK hP 0 rfl rfl 22 (by decide) (hw (.fieldLink RX11 46 "MotionFloorModel$Hall" "self" "[I") (List.mem_of_getElem? (i := 10) rfl)) (fun _ h9 => h9) rfl dX11_move_59 ?_
        refine lv_aload_n hx hb dX11_move_62 rfl (lv_at hl 1 rfl) ?_
        obtain ⟨hy12, hp⟩ := hp
        refine hGoi (va_runV (As := []) (rest := [.ref (g 22), .int x2, .ref (g 23)]) ⟨hx, hb, hml, hown, hts⟩ (c_X11_top l G K h g S _) (cwV 0 hts (wGV t_ (mw (.methodLink RX11 155 yX11_top) (List.mem_of_getElem? (i := 11) rfl)) (mw (.instanceMethod yX11_top) (List.mem_of_getElem? (i := 12) rfl)) (mw (.selects RX11 yX11_top yX11_top) (List.mem_of_getElem? (i := 13) rfl)) (mw (.initialized RX11) (List.mem_of_getElem? (i := 14) rfl)) j_X11_top) rfl rfl rfl (by decide +kernel) ⟨Nat.le_of_ble_eq_true rfl, Nat.le_of_ble_eq_true rfl⟩) (hPV hK hTE hP hD hy12) rfl rfl hl.1 rfl (lv_room (Nat.le_of_ble_eq_true rfl)) dX11_move_63 ⟨Nat.le_of_ble_eq_true rfl, Nat.le_of_ble_eq_true rfl⟩) hP hD hS hA (fun r14 u13 H locs hv hP hD hS => ?_)
        rw [← hv] at hE hp
        dsimp only at hE hp
        unfold b_X11_move_a66 at hE
        unfold q_X11_move_a66 at hp
        obtain ⟨hy15, hp⟩ := hp
        refine va_iald hx hb hK hP 12 0 rfl rfl hy15 dX11_move_66 ?_
        obtain ⟨hy16, hp⟩ := hp
        refine va_iast hx hb hK hP hD hS 13 0 rfl rfl hy16 dX11_move_67 (fun H locs hP hD hS => ?_)
        rw [sA_23] at hP hD
        exact B_68 (sA u13 23 x2.toNatClampNeg (u13.2 22 r14.toNatClampNeg)) x1 x2 y0 _ _ _ hE hp hP hD hS (lv_sub hl [1, 2, 3, 0] rfl)
  have B_34 : ∀ (S : HS) (x1 x2 : Int32) (H : Heap) (locs : List Loc) (ls : Array Slot), b_X11_move_34 S x1 x2 = X → q_X11_move_34 S x1 x2 → va_P G vwCl (hW K h g S) H → va_D A (hW K h g S) → va_S A s.heap H locs → lv_has ls 4 [(0, .ref h), (1, .int x1), (2, .int x2)] → W p l e ({ frames := 1, cells := 0, slots := 0, locals := 20 } : Room) s m #[Value.ref h, Value.int a1] below meth c H locs 0 0 Q (F0 m 34 ls []) := by
    intro S x1 x2 H locs ls hE hp hP hD hS hl
    unfold b_X11_move_34 at hE
    unfold q_X11_move_34 at hp
    refine lv_iconst (v := 1) hx hb dX11_move_34 (by decide) ?_
    refine lv_goto (tgt := 39) hx hb dX11_move_35 (by decide) ?_
    exact B_39 S x1 x2 1 _ _ _ hE hp hP hD hS (lv_sub hl [0, 1, 2] rfl)
  have B_M : ∀ (S : HS) (x1 : Int32) (H : Heap) (locs : List Loc) (ls : Array Slot), f_X11_move S x1 = X → p_X11_move S x1 → va_P G vwCl (hW K h g S) H → va_D A (hW K h g S) → va_S A s.heap H locs → lv_has ls 4 [(0, .ref h), (1, .int x1)] → W p l e ({ frames := 1, cells := 0, slots := 0, locals := 20 } : Room) s m #[Value.ref h, Value.int a1] below meth c H locs 0 0 Q (F0 m 0 ls []) := by
    intro S x1 H locs ls hE hp hP hD hS hl
    unfold f_X11_move at hE
    unfold p_X11_move at hp
    refine lv_aload_n hx hb dX11_move_0 rfl (lv_at hl 0 rfl) ?_
    refine va_get (D := G) (ci := 8) (v := .int (S.1 36)) (C := RX11) (T := TX11) (N := 42) hx hb hts iX11 hown hK hP 0 rfl rfl 36 (by decide) (hw (.fieldLink RX11 151 "MotionFloorModel$Hall" "draftTabled" "Z") (List.mem_of_getElem? (i := 0) rfl)) (fun _ h9 => h9) rfl dX11_move_1 ?_
    refine lv_if_ne (tgt := 75) hx hb dX11_move_4 (by decide) (fun c1 => ?_) (fun c1 => ?_)
    · rw [if_neg c1] at hE hp
      exact B_75 S x1 _ _ _ hE hp hP hD hS (lv_sub hl [0, 1] rfl)
    · rw [if_pos c1] at hE hp
      refine lv_aload_n hx hb dX11_move_7 rfl (lv_at hl 0 rfl) ?_
      refine va_get (D := G) (ci := 8) (v := .ref (g 32)) (C := RX11) (T := TX11) (N := 42) hx hb hts iX11 hown hK hP 0 rfl rfl 32 (by decide) (hw (.fieldLink RX11 75 "MotionFloorModel$Hall" "draft" "[I") (List.mem_of_getElem? (i := 5) rfl)) (fun _ h9 => h9) rfl dX11_move_8 ?_
      refine lv_iconst (v := 0) hx hb dX11_move_11 (by decide) ?_
      obtain ⟨hy5, hp⟩ := hp
      refine va_iald hx hb hK hP 21 0 rfl rfl hy5 dX11_move_12 ?_
      refine lv_istore_n (lv' := [(2, .int (S.2 32 (0 : Int32).toNatClampNeg)), (0, .ref h), (1, .int x1)]) hx hb dX11_move_13 rfl hl (by decide) rfl (fun ls hl => ?_)
      refine lv_aload_n hx hb dX11_move_14 rfl (lv_at hl 1 rfl) ?_
      refine va_get (D := G) (ci := 8) (v := .ref (g 14)) (C := RX11) (T := TX11) (N := 42) hx hb hts iX11 hown hK hP 0 rfl rfl 14 (by decide) (hw (.fieldLink RX11 22 "MotionFloorModel$Hall" "kind" "[I") (List.mem_of_getElem? (i := 6) rfl)) (fun _ h9 => h9) rfl dX11_move_15 ?_
      refine lv_iload_n hx hb dX11_move_18 rfl (lv_at hl 0 rfl) ?_
      obtain ⟨hy6, hp⟩ := hp
      refine va_iald hx hb hK hP 4 0 rfl rfl hy6 dX11_move_19 ?_
      refine lv_iconst (v := 2) hx hb dX11_move_20 (by decide) ?_
      refine lv_icmp_eq (tgt := 34) hx hb dX11_move_21 (by decide) (fun c7 => ?_) (fun c7 => ?_)
      · rw [if_pos c7] at hE hp
        exact B_34 S x1 (S.2 32 (0 : Int32).toNatClampNeg) _ _ _ hE hp hP hD hS (lv_sub hl [1, 2, 0] rfl)
      · rw [if_neg c7] at hE hp
        refine lv_aload_n hx hb dX11_move_24 rfl (lv_at hl 1 rfl) ?_
        refine va_get (D := G) (ci := 8) (v := .ref (g 14)) (C := RX11) (T := TX11) (N := 42) hx hb hts iX11 hown hK hP 0 rfl rfl 14 (by decide) (hw (.fieldLink RX11 22 "MotionFloorModel$Hall" "kind" "[I") (List.mem_of_getElem? (i := 6) rfl)) (fun _ h9 => h9) rfl dX11_move_25 ?_
        refine lv_iload_n hx hb dX11_move_28 rfl (lv_at hl 0 rfl) ?_
        obtain ⟨hy19, hp⟩ := hp
        refine va_iald hx hb hK hP 4 0 rfl rfl hy19 dX11_move_29 ?_
        refine lv_iconst (v := 3) hx hb dX11_move_30 (by decide) ?_
        refine lv_icmp_ne (tgt := 38) hx hb dX11_move_31 (by decide) (fun c20 => ?_) (fun c20 => ?_)
        · rw [if_neg c20] at hE hp
          refine lv_iconst (v := 0) hx hb dX11_move_38 (by decide) ?_
          exact B_39 S x1 (S.2 32 (0 : Int32).toNatClampNeg) 0 _ _ _ hE hp hP hD hS (lv_sub hl [1, 2, 0] rfl)
        · rw [if_pos c20] at hE hp
          exact B_34 S x1 (S.2 32 (0 : Int32).toNatClampNeg) _ _ _ hE hp hP hD hS (lv_sub hl [1, 2, 0] rfl)
  exact B_M S0 a1 _ _ _ hX hp hP hD hS hl
def st_X11_isPending_2 (S : HS) (x1 x2 : Int32) : (Int32 × HS) ⊕ (HS × Int32 × Int32) := if (S.1 6) ≤ x2 then Sum.inl ((0, S)) else if (S.2 31 x2.toNatClampNeg) = x1 then Sum.inl ((1, S)) else Sum.inr (S, x1, (x2 + 1))
def ps_X11_isPending_2 (S : HS) (x1 x2 : Int32) : Prop := (if (S.1 6) ≤ x2 then True else (vp_in x2 9) ∧ (if (S.2 31 x2.toNatClampNeg) = x1 then True else True))
def lp_X11_isPending_2 : Nat → HS → Int32 → Int32 → Int32 × HS
  | 0, S, _, _ => (0, S)
  | n + 1, S, x1, x2 => match st_X11_isPending_2 S x1 x2 with
    | Sum.inl r => r
    | Sum.inr q => lp_X11_isPending_2 n q.1 q.2.1 q.2.2
def lq_X11_isPending_2 : Nat → HS → Int32 → Int32 → Prop
  | 0, _, _, _ => False
  | n + 1, S, x1, x2 => ps_X11_isPending_2 S x1 x2 ∧ (match st_X11_isPending_2 S x1 x2 with
    | Sum.inl _ => True
    | Sum.inr q => lq_X11_isPending_2 n q.1 q.2.1 q.2.2)
def f_X11_isPending (S : HS) (x1 : Int32) : Int32 × HS := (lp_X11_isPending_2 100000 S x1 0)
def p_X11_isPending (S : HS) (x1 : Int32) : Prop := (lq_X11_isPending_2 100000 S x1 0)
def e_X11_isPending : List Cond := [.fieldLink RX11 115 "MotionFloorModel$Hall" "pending" "I", .fieldLink RX11 72 "MotionFloorModel$Hall" "row" "[I"]
def v_X11_isPending : List Cond := .code yX11_isPending cX11_isPending 3 (some .boolean) :: (e_X11_isPending ++ (wsX110 ++ []))
theorem te_X11_isPending : GoodIn lw_tbl e_X11_isPending := wGc z56 (wGc z57 (wG0))
theorem t_X11_isPending : GoodIn lw_tbl v_X11_isPending := wGc z145 (wGa te_X11_isPending (wGa zcX11 (wG0)))
set_option maxHeartbeats 4000000 in
set_option maxRecDepth 100000 in
theorem c_X11_isPending (l : Launch) (G : va_G) (K : Nat → ClassId) (h : Nat) (g : Nat → Nat) (S0 : HS) (a1 : Int32) (sz : Nat) : Met l yX11_isPending v_X11_isPending ({ frames := 0, cells := 0, slots := 0, locals := 0 }) (va_Pc [.ref h, .int a1] (hS G K h g sz S0 (p_X11_isPending S0 a1))) (va_Qi (fun (r : Int32) (u : HS) => (r, u) = f_X11_isPending S0 a1) (hB G K h g (va_A (hW K h g S0) sz)) (va_A (hW K h g S0) sz)) 0 0 (va_A (hW K h g S0) sz) := by
  refine Met.ofW (cc := cX11_isPending) (maxL := 3) (ret := (some .boolean)) (by decide) rfl ?_
  intro p e s m args below meth c s₁ B hml hv
  obtain ⟨rfl, ⟨hsz, hP, hK, hD0, hTE⟩, hp⟩ := hv
  have hx := B.exec
  have hb := B.bytes
  have hr := B.returns
  have hts := atoms_spec (ws := v_X11_isPending) B.pre
  have t_ := t_X11_isPending
  have mw : ∀ w ∈ e_X11_isPending, w ∈ v_X11_isPending := fun w h => List.mem_cons_of_mem _ (List.mem_append_left _ h)
  have hw := fun w (h : w ∈ e_X11_isPending) => hts w (mw w h)
  have iX11 : ∀ w ∈ wsX110, w ∈ v_X11_isPending := fun w h => List.mem_cons_of_mem _ (List.mem_append_right _ (List.mem_append_left _ h))
  have hown : s.vm.findClass RX11 = some m.cls := findClass_of_methodNamed B.named
  have hlocks := B.notSynchronized
  subst hsz
  have hD := hD0.self (sz := s.heap.size)
  generalize hAe : va_A (hW K h g S0) s.heap.size = A at hD ⊢
  have hA : ∀ q : Nat, s.heap.size ≤ q → A q := fun q h => by rw [← hAe]; exact Or.inr h
  have hS : va_S A s.heap s.heap [] := va_S.rf
  have hl := lv_entry ([.ref h, .int a1]) (n := 3) (Nat.le_of_ble_eq_true rfl)
  rw [lg_entry_eq]
  generalize (lg_sl ([.ref h, .int a1]) ++ List.replicate (3 - (lg_sl ([.ref h, .int a1])).length) Slot.unset).toArray = ls at hl ⊢
  have hl : lv_has ls 3 [(0, .ref h), (1, .int a1)] := hl
  refine wGen (fun Q hQ => ?_)
  obtain ⟨X, hX⟩ : ∃ X, f_X11_isPending S0 a1 = X := ⟨_, rfl⟩
  have L_2 : ∀ (n : Nat) (S : HS) (x1 x2 : Int32) (H : Heap) (locs : List Loc) (ls : Array Slot), lp_X11_isPending_2 n S x1 x2 = X → lq_X11_isPending_2 n S x1 x2 → va_P G vwCl (hW K h g S) H → va_D A (hW K h g S) → va_S A s.heap H locs → lv_has ls 3 [(0, .ref h), (1, .int x1), (2, .int x2)] → W p l e ({ frames := 0, cells := 0, slots := 0, locals := 0 } : Room) s m #[Value.ref h, Value.int a1] below meth c H locs 0 0 Q (F0 m 2 ls []) := by
    intro n1
    induction n1 with
    | zero => intro S x1 x2 H locs ls hE hp; exact False.elim hp
    | succ n1 ih1 =>
      intro S x1 x2 H locs ls hO1 hp hP hD hS hl
      rw [lp_X11_isPending_2] at hO1
      rw [lq_X11_isPending_2] at hp
      obtain ⟨hp, hq1⟩ := hp
      generalize hE : st_X11_isPending_2 S x1 x2 = Y1 at hO1 hq1
      unfold st_X11_isPending_2 at hE
      unfold ps_X11_isPending_2 at hp
      refine lv_iload_n hx hb dX11_isPending_2 rfl (lv_at hl 2 rfl) ?_
      refine lv_aload_n hx hb dX11_isPending_3 rfl (lv_at hl 0 rfl) ?_
      refine va_get (D := G) (ci := 8) (v := .int (S.1 6)) (C := RX11) (T := TX11) (N := 42) hx hb hts iX11 hown hK hP 0 rfl rfl 6 (by decide) (hw (.fieldLink RX11 115 "MotionFloorModel$Hall" "pending" "I") (List.mem_of_getElem? (i := 0) rfl)) (fun _ h9 => h9) rfl dX11_isPending_4 ?_
      refine lv_icmp_ge (tgt := 28) hx hb dX11_isPending_7 (by decide) (fun c1 => ?_) (fun c1 => ?_)
      · rw [if_pos c1] at hE hp
        subst hE
        have hE := hO1
        dsimp only at hE
        refine lv_iconst (v := 0) hx hb dX11_isPending_28 (by decide) ?_
        subst hQ
        exact W.zret (v := 0) (ty := .boolean) hx hb hr rfl (fun t ht hW => ⟨⟨0, S, rfl, hE.trans hX.symm, by rw [ht]; exact hP, hD⟩, hS.F ht⟩) hS.2.2 dX11_isPending_29
      · rw [if_neg c1] at hE hp
        refine lv_aload_n hx hb dX11_isPending_10 rfl (lv_at hl 0 rfl) ?_
        refine va_get (D := G) (ci := 8) (v := .ref (g 31)) (C := RX11) (T := TX11) (N := 42) hx hb hts iX11 hown hK hP 0 rfl rfl 31 (by decide) (hw (.fieldLink RX11 72 "MotionFloorModel$Hall" "row" "[I") (List.mem_of_getElem? (i := 1) rfl)) (fun _ h9 => h9) rfl dX11_isPending_11 ?_
        refine lv_iload_n hx hb dX11_isPending_14 rfl (lv_at hl 2 rfl) ?_
        obtain ⟨hy2, hp⟩ := hp
        refine va_iald hx hb hK hP 20 0 rfl rfl hy2 dX11_isPending_15 ?_
        refine lv_iload_n hx hb dX11_isPending_16 rfl (lv_at hl 1 rfl) ?_
        refine lv_icmp_ne (tgt := 22) hx hb dX11_isPending_17 (by decide) (fun c3 => ?_) (fun c3 => ?_)
        · rw [if_neg c3] at hE hp
          refine lv_iinc (v := (x2 + 1)) (lv' := [(2, .int (x2 + 1)), (0, .ref h), (1, .int x1)]) hx hb dX11_isPending_22 hl (k := 2) rfl rfl (by decide) rfl (fun ls hl => ?_)
          refine lv_goto (tgt := 2) hx hb dX11_isPending_25 (by decide) ?_
          subst hE
          dsimp only at hO1 hq1
          exact ih1 S x1 (x2 + 1) _ _ _ hO1 hq1 hP hD hS (lv_sub hl [1, 2, 0] rfl)
        · rw [if_pos c3] at hE hp
          subst hE
          have hE := hO1
          dsimp only at hE
          refine lv_iconst (v := 1) hx hb dX11_isPending_20 (by decide) ?_
          subst hQ
          exact W.zret (v := 1) (ty := .boolean) hx hb hr rfl (fun t ht hW => ⟨⟨1, S, rfl, hE.trans hX.symm, by rw [ht]; exact hP, hD⟩, hS.F ht⟩) hS.2.2 dX11_isPending_21
  have B_M : ∀ (S : HS) (x1 : Int32) (H : Heap) (locs : List Loc) (ls : Array Slot), f_X11_isPending S x1 = X → p_X11_isPending S x1 → va_P G vwCl (hW K h g S) H → va_D A (hW K h g S) → va_S A s.heap H locs → lv_has ls 3 [(0, .ref h), (1, .int x1)] → W p l e ({ frames := 0, cells := 0, slots := 0, locals := 0 } : Room) s m #[Value.ref h, Value.int a1] below meth c H locs 0 0 Q (F0 m 0 ls []) := by
    intro S x1 H locs ls hE hp hP hD hS hl
    unfold f_X11_isPending at hE
    unfold p_X11_isPending at hp
    refine lv_iconst (v := 0) hx hb dX11_isPending_0 (by decide) ?_
    refine lv_istore_n (lv' := [(2, .int 0), (0, .ref h), (1, .int x1)]) hx hb dX11_isPending_1 rfl hl (by decide) rfl (fun ls hl => ?_)
    exact L_2 100000 S x1 0 _ _ _ hE hp hP hD hS (lv_sub hl [1, 2, 0] rfl)
  exact B_M S0 a1 _ _ _ hX hp hP hD hS hl
def b_X11_change_326 (S : HS) (x1 x2 x3 x4 x5 x6 x7 x8 x9 : Int32) : (Int32 × HS) ⊕ (HS × Int32 × Int32 × Int32 × Int32 × Int32 × Int32 × Int32 × Int32 × Int32) := Sum.inr (S, x1, x2, x3, x4, x5, x6, x7, x8, (x9 + 1))
def q_X11_change_326 (S : HS) (x1 x2 x3 x4 x5 x6 x7 x8 x9 : Int32) : Prop := True
def b_X11_change_a259 (S : HS) (x1 x2 x3 x4 x5 x6 x7 x8 x9 y0 : Int32) : (Int32 × HS) ⊕ (HS × Int32 × Int32 × Int32 × Int32 × Int32 × Int32 × Int32 × Int32 × Int32) := if y0 = 0 then if x3 < (S.2 21 x9.toNatClampNeg) then if (S.2 20 x9.toNatClampNeg) < x4 then (b_X11_change_326 (sA S 26 x9.toNatClampNeg (vp_nar .boolean 1)) x1 x2 x3 x4 x5 x6 x7 x8 x9) else (b_X11_change_326 (sA (sA S 20 x9.toNatClampNeg ((S.2 20 x9.toNatClampNeg) + x6)) 21 x9.toNatClampNeg (((sA S 20 x9.toNatClampNeg ((S.2 20 x9.toNatClampNeg) + x6)).2 21 x9.toNatClampNeg) + x6)) x1 x2 x3 x4 x5 x6 x7 x8 x9) else (b_X11_change_326 S x1 x2 x3 x4 x5 x6 x7 x8 x9) else (b_X11_change_326 S x1 x2 x3 x4 x5 x6 x7 x8 x9)
def q_X11_change_a259 (S : HS) (x1 x2 x3 x4 x5 x6 x7 x8 x9 y0 : Int32) : Prop := (if y0 = 0 then (vp_in x9 90) ∧ (if x3 < (S.2 21 x9.toNatClampNeg) then (vp_in x9 90) ∧ (if (S.2 20 x9.toNatClampNeg) < x4 then (vp_in x9 90) ∧ (q_X11_change_326 (sA S 26 x9.toNatClampNeg (vp_nar .boolean 1)) x1 x2 x3 x4 x5 x6 x7 x8 x9) else (vp_in x9 90) ∧ (vp_in x9 90) ∧ (vp_in x9 90) ∧ (vp_in x9 90) ∧ (q_X11_change_326 (sA (sA S 20 x9.toNatClampNeg ((S.2 20 x9.toNatClampNeg) + x6)) 21 x9.toNatClampNeg (((sA S 20 x9.toNatClampNeg ((S.2 20 x9.toNatClampNeg) + x6)).2 21 x9.toNatClampNeg) + x6)) x1 x2 x3 x4 x5 x6 x7 x8 x9)) else (q_X11_change_326 S x1 x2 x3 x4 x5 x6 x7 x8 x9)) else (q_X11_change_326 S x1 x2 x3 x4 x5 x6 x7 x8 x9))
def st_X11_change_194 (S : HS) (x1 x2 x3 x4 x5 x6 x7 x8 x9 : Int32) : (Int32 × HS) ⊕ (HS × Int32 × Int32 × Int32 × Int32 × Int32 × Int32 × Int32 × Int32 × Int32) := if 90 ≤ x9 then Sum.inl ((0, S)) else if (S.2 13 x9.toNatClampNeg) = 0 then (b_X11_change_326 S x1 x2 x3 x4 x5 x6 x7 x8 x9) else if x9 = x2 then (b_X11_change_326 S x1 x2 x3 x4 x5 x6 x7 x8 x9) else if (S.2 25 x9.toNatClampNeg) = 0 then (b_X11_change_326 S x1 x2 x3 x4 x5 x6 x7 x8 x9) else if (S.2 26 x9.toNatClampNeg) = 0 then if (S.2 23 x9.toNatClampNeg) = (S.2 22 x1.toNatClampNeg) then (b_X11_change_a259 (f_X11_isPending S x9).2 x1 x2 x3 x4 x5 x6 x7 x8 x9 (f_X11_isPending S x9).1) else (b_X11_change_326 S x1 x2 x3 x4 x5 x6 x7 x8 x9) else (b_X11_change_326 S x1 x2 x3 x4 x5 x6 x7 x8 x9)
def ps_X11_change_194 (S : HS) (x1 x2 x3 x4 x5 x6 x7 x8 x9 : Int32) : Prop := (if 90 ≤ x9 then True else (vp_in x9 90) ∧ (if (S.2 13 x9.toNatClampNeg) = 0 then (q_X11_change_326 S x1 x2 x3 x4 x5 x6 x7 x8 x9) else (if x9 = x2 then (q_X11_change_326 S x1 x2 x3 x4 x5 x6 x7 x8 x9) else (vp_in x9 90) ∧ (if (S.2 25 x9.toNatClampNeg) = 0 then (q_X11_change_326 S x1 x2 x3 x4 x5 x6 x7 x8 x9) else (vp_in x9 90) ∧ (if (S.2 26 x9.toNatClampNeg) = 0 then (vp_in x9 90) ∧ (vp_in x1 90) ∧ (if (S.2 23 x9.toNatClampNeg) = (S.2 22 x1.toNatClampNeg) then (p_X11_isPending S x9) ∧ (q_X11_change_a259 (f_X11_isPending S x9).2 x1 x2 x3 x4 x5 x6 x7 x8 x9 (f_X11_isPending S x9).1) else (q_X11_change_326 S x1 x2 x3 x4 x5 x6 x7 x8 x9)) else (q_X11_change_326 S x1 x2 x3 x4 x5 x6 x7 x8 x9))))))
def lp_X11_change_194 : Nat → HS → Int32 → Int32 → Int32 → Int32 → Int32 → Int32 → Int32 → Int32 → Int32 → Int32 × HS
  | 0, S, _, _, _, _, _, _, _, _, _ => (0, S)
  | n + 1, S, x1, x2, x3, x4, x5, x6, x7, x8, x9 => match st_X11_change_194 S x1 x2 x3 x4 x5 x6 x7 x8 x9 with
    | Sum.inl r => r
    | Sum.inr q => lp_X11_change_194 n q.1 q.2.1 q.2.2.1 q.2.2.2.1 q.2.2.2.2.1 q.2.2.2.2.2.1 q.2.2.2.2.2.2.1 q.2.2.2.2.2.2.2.1 q.2.2.2.2.2.2.2.2.1 q.2.2.2.2.2.2.2.2.2
def lq_X11_change_194 : Nat → HS → Int32 → Int32 → Int32 → Int32 → Int32 → Int32 → Int32 → Int32 → Int32 → Prop
  | 0, _, _, _, _, _, _, _, _, _, _ => False
  | n + 1, S, x1, x2, x3, x4, x5, x6, x7, x8, x9 => ps_X11_change_194 S x1 x2 x3 x4 x5 x6 x7 x8 x9 ∧ (match st_X11_change_194 S x1 x2 x3 x4 x5 x6 x7 x8 x9 with
    | Sum.inl _ => True
    | Sum.inr q => lq_X11_change_194 n q.1 q.2.1 q.2.2.1 q.2.2.2.1 q.2.2.2.2.1 q.2.2.2.2.2.1 q.2.2.2.2.2.2.1 q.2.2.2.2.2.2.2.1 q.2.2.2.2.2.2.2.2.1 q.2.2.2.2.2.2.2.2.2)
def st_X11_change_142 (S : HS) (x1 x2 x3 x4 x5 x6 x7 x8 x9 : Int32) : (Int32 × HS) ⊕ (HS × Int32 × Int32 × Int32 × Int32 × Int32 × Int32 × Int32 × Int32 × Int32) := if x5 ≤ x9 then Sum.inl ((lp_X11_change_194 100000 (sA S 19 x1.toNatClampNeg (x7 + x6)) x1 x2 x3 x4 x5 x6 x7 x8 0)) else Sum.inr ((sA S 28 ((x8 + x3) + x9).toNatClampNeg (S.2 28 ((400 * x2) + x9).toNatClampNeg)), x1, x2, x3, x4, x5, x6, x7, x8, (x9 + 1))
def ps_X11_change_142 (S : HS) (x1 x2 x3 x4 x5 x6 x7 x8 x9 : Int32) : Prop := (if x5 ≤ x9 then (vp_in x1 90) ∧ (lq_X11_change_194 100000 (sA S 19 x1.toNatClampNeg (x7 + x6)) x1 x2 x3 x4 x5 x6 x7 x8 0) else (vp_in ((400 * x2) + x9) 36000) ∧ (vp_in ((x8 + x3) + x9) 36000) ∧ True)
def lp_X11_change_142 : Nat → HS → Int32 → Int32 → Int32 → Int32 → Int32 → Int32 → Int32 → Int32 → Int32 → Int32 × HS
  | 0, S, _, _, _, _, _, _, _, _, _ => (0, S)
  | n + 1, S, x1, x2, x3, x4, x5, x6, x7, x8, x9 => match st_X11_change_142 S x1 x2 x3 x4 x5 x6 x7 x8 x9 with
    | Sum.inl r => r
    | Sum.inr q => lp_X11_change_142 n q.1 q.2.1 q.2.2.1 q.2.2.2.1 q.2.2.2.2.1 q.2.2.2.2.2.1 q.2.2.2.2.2.2.1 q.2.2.2.2.2.2.2.1 q.2.2.2.2.2.2.2.2.1 q.2.2.2.2.2.2.2.2.2
def lq_X11_change_142 : Nat → HS → Int32 → Int32 → Int32 → Int32 → Int32 → Int32 → Int32 → Int32 → Int32 → Prop
  | 0, _, _, _, _, _, _, _, _, _, _ => False
  | n + 1, S, x1, x2, x3, x4, x5, x6, x7, x8, x9 => ps_X11_change_142 S x1 x2 x3 x4 x5 x6 x7 x8 x9 ∧ (match st_X11_change_142 S x1 x2 x3 x4 x5 x6 x7 x8 x9 with
    | Sum.inl _ => True
    | Sum.inr q => lq_X11_change_142 n q.1 q.2.1 q.2.2.1 q.2.2.2.1 q.2.2.2.2.1 q.2.2.2.2.2.1 q.2.2.2.2.2.2.1 q.2.2.2.2.2.2.2.1 q.2.2.2.2.2.2.2.2.1 q.2.2.2.2.2.2.2.2.2)
def b_X11_change_139 (S : HS) (x1 x2 x3 x4 x5 x6 x7 x8 : Int32) : Int32 × HS := (lp_X11_change_142 100000 S x1 x2 x3 x4 x5 x6 x7 x8 0)
def q_X11_change_139 (S : HS) (x1 x2 x3 x4 x5 x6 x7 x8 : Int32) : Prop := (lq_X11_change_142 100000 S x1 x2 x3 x4 x5 x6 x7 x8 0)
def st_X11_change_103 (S : HS) (x1 x2 x3 x4 x5 x6 x7 x8 x9 : Int32) : (Int32 × HS) ⊕ (HS × Int32 × Int32 × Int32 × Int32 × Int32 × Int32 × Int32 × Int32 × Int32) := if x7 ≤ x9 then Sum.inl ((b_X11_change_139 S x1 x2 x3 x4 x5 x6 x7 x8)) else Sum.inr ((sA S 28 ((x8 + x9) + x6).toNatClampNeg (S.2 28 (x8 + x9).toNatClampNeg)), x1, x2, x3, x4, x5, x6, x7, x8, (x9 + 1))
def ps_X11_change_103 (S : HS) (x1 x2 x3 x4 x5 x6 x7 x8 x9 : Int32) : Prop := (if x7 ≤ x9 then (q_X11_change_139 S x1 x2 x3 x4 x5 x6 x7 x8) else (vp_in (x8 + x9) 36000) ∧ (vp_in ((x8 + x9) + x6) 36000) ∧ True)
def lp_X11_change_103 : Nat → HS → Int32 → Int32 → Int32 → Int32 → Int32 → Int32 → Int32 → Int32 → Int32 → Int32 × HS
  | 0, S, _, _, _, _, _, _, _, _, _ => (0, S)
  | n + 1, S, x1, x2, x3, x4, x5, x6, x7, x8, x9 => match st_X11_change_103 S x1 x2 x3 x4 x5 x6 x7 x8 x9 with
    | Sum.inl r => r
    | Sum.inr q => lp_X11_change_103 n q.1 q.2.1 q.2.2.1 q.2.2.2.1 q.2.2.2.2.1 q.2.2.2.2.2.1 q.2.2.2.2.2.2.1 q.2.2.2.2.2.2.2.1 q.2.2.2.2.2.2.2.2.1 q.2.2.2.2.2.2.2.2.2
def lq_X11_change_103 : Nat → HS → Int32 → Int32 → Int32 → Int32 → Int32 → Int32 → Int32 → Int32 → Int32 → Prop
  | 0, _, _, _, _, _, _, _, _, _, _ => False
  | n + 1, S, x1, x2, x3, x4, x5, x6, x7, x8, x9 => ps_X11_change_103 S x1 x2 x3 x4 x5 x6 x7 x8 x9 ∧ (match st_X11_change_103 S x1 x2 x3 x4 x5 x6 x7 x8 x9 with
    | Sum.inl _ => True
    | Sum.inr q => lq_X11_change_103 n q.1 q.2.1 q.2.2.1 q.2.2.2.1 q.2.2.2.2.1 q.2.2.2.2.2.1 q.2.2.2.2.2.2.1 q.2.2.2.2.2.2.2.1 q.2.2.2.2.2.2.2.2.1 q.2.2.2.2.2.2.2.2.2)
def b_X11_change_94 (S : HS) (x1 x2 x3 x4 x5 x6 x7 x8 : Int32) : Int32 × HS := if 0 ≤ x6 then (b_X11_change_139 S x1 x2 x3 x4 x5 x6 x7 x8) else (lp_X11_change_103 100000 S x1 x2 x3 x4 x5 x6 x7 x8 x4)
def q_X11_change_94 (S : HS) (x1 x2 x3 x4 x5 x6 x7 x8 : Int32) : Prop := (if 0 ≤ x6 then (q_X11_change_139 S x1 x2 x3 x4 x5 x6 x7 x8) else (lq_X11_change_103 100000 S x1 x2 x3 x4 x5 x6 x7 x8 x4))
def st_X11_change_58 (S : HS) (x1 x2 x3 x4 x5 x6 x7 x8 x9 : Int32) : (Int32 × HS) ⊕ (HS × Int32 × Int32 × Int32 × Int32 × Int32 × Int32 × Int32 × Int32 × Int32) := if x9 < x4 then Sum.inl ((b_X11_change_94 S x1 x2 x3 x4 x5 x6 x7 x8)) else Sum.inr ((sA S 28 ((x8 + x9) + x6).toNatClampNeg (S.2 28 (x8 + x9).toNatClampNeg)), x1, x2, x3, x4, x5, x6, x7, x8, (x9 + (-1)))
def ps_X11_change_58 (S : HS) (x1 x2 x3 x4 x5 x6 x7 x8 x9 : Int32) : Prop := (if x9 < x4 then (q_X11_change_94 S x1 x2 x3 x4 x5 x6 x7 x8) else (vp_in (x8 + x9) 36000) ∧ (vp_in ((x8 + x9) + x6) 36000) ∧ True)
def lp_X11_change_58 : Nat → HS → Int32 → Int32 → Int32 → Int32 → Int32 → Int32 → Int32 → Int32 → Int32 → Int32 × HS
  | 0, S, _, _, _, _, _, _, _, _, _ => (0, S)
  | n + 1, S, x1, x2, x3, x4, x5, x6, x7, x8, x9 => match st_X11_change_58 S x1 x2 x3 x4 x5 x6 x7 x8 x9 with
    | Sum.inl r => r
    | Sum.inr q => lp_X11_change_58 n q.1 q.2.1 q.2.2.1 q.2.2.2.1 q.2.2.2.2.1 q.2.2.2.2.2.1 q.2.2.2.2.2.2.1 q.2.2.2.2.2.2.2.1 q.2.2.2.2.2.2.2.2.1 q.2.2.2.2.2.2.2.2.2
def lq_X11_change_58 : Nat → HS → Int32 → Int32 → Int32 → Int32 → Int32 → Int32 → Int32 → Int32 → Int32 → Prop
  | 0, _, _, _, _, _, _, _, _, _, _ => False
  | n + 1, S, x1, x2, x3, x4, x5, x6, x7, x8, x9 => ps_X11_change_58 S x1 x2 x3 x4 x5 x6 x7 x8 x9 ∧ (match st_X11_change_58 S x1 x2 x3 x4 x5 x6 x7 x8 x9 with
    | Sum.inl _ => True
    | Sum.inr q => lq_X11_change_58 n q.1 q.2.1 q.2.2.1 q.2.2.2.1 q.2.2.2.2.1 q.2.2.2.2.2.1 q.2.2.2.2.2.2.1 q.2.2.2.2.2.2.2.1 q.2.2.2.2.2.2.2.2.1 q.2.2.2.2.2.2.2.2.2)
def f_X11_change (S : HS) (x1 x2 : Int32) : Int32 × HS := if ((S.2 19 x2.toNatClampNeg) - ((S.2 21 x2.toNatClampNeg) - (S.2 20 x2.toNatClampNeg))) ≤ 0 then (b_X11_change_94 S x1 x2 (S.2 20 x2.toNatClampNeg) (S.2 21 x2.toNatClampNeg) (S.2 19 x2.toNatClampNeg) ((S.2 19 x2.toNatClampNeg) - ((S.2 21 x2.toNatClampNeg) - (S.2 20 x2.toNatClampNeg))) (S.2 19 x1.toNatClampNeg) (400 * x1)) else (lp_X11_change_58 100000 S x1 x2 (S.2 20 x2.toNatClampNeg) (S.2 21 x2.toNatClampNeg) (S.2 19 x2.toNatClampNeg) ((S.2 19 x2.toNatClampNeg) - ((S.2 21 x2.toNatClampNeg) - (S.2 20 x2.toNatClampNeg))) (S.2 19 x1.toNatClampNeg) (400 * x1) ((S.2 19 x1.toNatClampNeg) - 1))
def p_X11_change (S : HS) (x1 x2 : Int32) : Prop := (vp_in x2 90) ∧ (vp_in x2 90) ∧ (vp_in x2 90) ∧ (vp_in x1 90) ∧ (if ((S.2 19 x2.toNatClampNeg) - ((S.2 21 x2.toNatClampNeg) - (S.2 20 x2.toNatClampNeg))) ≤ 0 then (q_X11_change_94 S x1 x2 (S.2 20 x2.toNatClampNeg) (S.2 21 x2.toNatClampNeg) (S.2 19 x2.toNatClampNeg) ((S.2 19 x2.toNatClampNeg) - ((S.2 21 x2.toNatClampNeg) - (S.2 20 x2.toNatClampNeg))) (S.2 19 x1.toNatClampNeg) (400 * x1)) else (lq_X11_change_58 100000 S x1 x2 (S.2 20 x2.toNatClampNeg) (S.2 21 x2.toNatClampNeg) (S.2 19 x2.toNatClampNeg) ((S.2 19 x2.toNatClampNeg) - ((S.2 21 x2.toNatClampNeg) - (S.2 20 x2.toNatClampNeg))) (S.2 19 x1.toNatClampNeg) (400 * x1) ((S.2 19 x1.toNatClampNeg) - 1)))
def e_X11_change : List Cond := [.fieldLink RX11 40 "MotionFloorModel$Hall" "from" "[I", .fieldLink RX11 43 "MotionFloorModel$Hall" "to" "[I", .fieldLink RX11 37 "MotionFloorModel$Hall" "words" "[I", .fieldLink RX11 19 "MotionFloorModel$Hall" "used" "[Z", .fieldLink RX11 55 "MotionFloorModel$Hall" "laid" "[Z", .fieldLink RX11 58 "MotionFloorModel$Hall" "outside" "[Z", .fieldLink RX11 49 "MotionFloorModel$Hall" "subject" "[I", .fieldLink RX11 46 "MotionFloorModel$Hall" "self" "[I", .methodLink RX11 243 yX11_isPending, .instanceMethod yX11_isPending, .selects RX11 yX11_isPending yX11_isPending, .initialized RX11, .fieldLink RX11 65 "MotionFloorModel$Hall" "text" "[I"]
def v_X11_change : List Cond := .code yX11_change cX11_change 10 none :: (e_X11_change ++ (wsX110 ++ (v_X11_isPending ++ [])))
theorem te_X11_change : GoodIn lw_tbl e_X11_change := wGc z75 (wGc z74 (wGc z76 (wGc z79 (wGc z72 (wGc z71 (wGc z73 (wGc z63 (wGc z148 (wGc z147 (wGc z146 (wGc z51 (wGc z137 (wG0)))))))))))))
theorem t_X11_change : GoodIn lw_tbl v_X11_change := wGc z149 (wGa te_X11_change (wGa zcX11 (wGa t_X11_isPending (wG0))))
set_option maxHeartbeats 4000000 in
set_option maxRecDepth 100000 in
theorem c_X11_change (l : Launch) (G : va_G) (K : Nat → ClassId) (h : Nat) (g : Nat → Nat) (S0 : HS) (a1 a2 : Int32) (sz : Nat) : Met l yX11_change v_X11_change ({ frames := 1, cells := 0, slots := 0, locals := 22 }) (va_Pc [.ref h, .int a1, .int a2] (hS G K h g sz S0 (p_X11_change S0 a1 a2))) (va_Qv (fun u : HS => (0, u) = f_X11_change S0 a1 a2) (hB G K h g (va_A (hW K h g S0) sz)) (va_A (hW K h g S0) sz)) 0 0 (va_A (hW K h g S0) sz) := by
  refine Met.ofW (cc := cX11_change) (maxL := 10) (ret := none) (by decide) rfl ?_
  intro p e s m args below meth c s₁ B hml hv
  obtain ⟨rfl, ⟨hsz, hP, hK, hD0, hTE⟩, hp⟩ := hv
  have hx := B.exec
  have hb := B.bytes
  have hr := B.returns
  have hts := atoms_spec (ws := v_X11_change) B.pre
  have t_ := t_X11_change
  have mw : ∀ w ∈ e_X11_change, w ∈ v_X11_change := fun w h => List.mem_cons_of_mem _ (List.mem_append_left _ h)
  have hw := fun w (h : w ∈ e_X11_change) => hts w (mw w h)
  have iX11 : ∀ w ∈ wsX110, w ∈ v_X11_change := fun w h => List.mem_cons_of_mem _ (List.mem_append_right _ (List.mem_append_left _ h))
  have j_X11_isPending : ∀ w ∈ v_X11_isPending, w ∈ v_X11_change := fun w h => List.mem_cons_of_mem _ (List.mem_append_right _ (List.mem_append_right _ (List.mem_append_left _ h)))
  have hown : s.vm.findClass RX11 = some m.cls := findClass_of_methodNamed B.named
  have hlocks := B.notSynchronized
  subst hsz
  have hD := hD0.self (sz := s.heap.size)
  generalize hAe : va_A (hW K h g S0) s.heap.size = A at hD ⊢
  have hA : ∀ q : Nat, s.heap.size ≤ q → A q := fun q h => by rw [← hAe]; exact Or.inr h
  have hS : va_S A s.heap s.heap [] := va_S.rf
  have hl := lv_entry ([.ref h, .int a1, .int a2]) (n := 10) (Nat.le_of_ble_eq_true rfl)
  rw [lg_entry_eq]
  generalize (lg_sl ([.ref h, .int a1, .int a2]) ++ List.replicate (10 - (lg_sl ([.ref h, .int a1, .int a2])).length) Slot.unset).toArray = ls at hl ⊢
  have hl : lv_has ls 10 [(0, .ref h), (1, .int a1), (2, .int a2)] := hl
  refine wGen (fun Q hQ => ?_)
  obtain ⟨X, hX⟩ : ∃ X, f_X11_change S0 a1 a2 = X := ⟨_, rfl⟩
  have L_194 : ∀ (n : Nat) (S : HS) (x1 x2 x3 x4 x5 x6 x7 x8 x9 : Int32) (H : Heap) (locs : List Loc) (ls : Array Slot), lp_X11_change_194 n S x1 x2 x3 x4 x5 x6 x7 x8 x9 = X → lq_X11_change_194 n S x1 x2 x3 x4 x5 x6 x7 x8 x9 → va_P G vwCl (hW K h g S) H → va_D A (hW K h g S) → va_S A s.heap H locs → lv_has ls 10 [(0, .ref h), (1, .int x1), (2, .int x2), (3, .int x3), (4, .int x4), (5, .int x5), (6, .int x6), (7, .int x7), (8, .int x8), (9, .int x9)] → W p l e ({ frames := 1, cells := 0, slots := 0, locals := 22 } : Room) s m #[Value.ref h, Value.int a1, Value.int a2] below meth c H locs 0 0 Q (F0 m 194 ls []) := by
    intro n1
    induction n1 with
    | zero => intro S x1 x2 x3 x4 x5 x6 x7 x8 x9 H locs ls hE hp; exact False.elim hp
    | succ n1 ih1 =>
      intro S x1 x2 x3 x4 x5 x6 x7 x8 x9 H locs ls hO1 hp hP hD hS hl
      rw [lp_X11_change_194] at hO1
      rw [lq_X11_change_194] at hp
      obtain ⟨hp, hq1⟩ := hp
      generalize hE : st_X11_change_194 S x1 x2 x3 x4 x5 x6 x7 x8 x9 = Y1 at hO1 hq1
      unfold st_X11_change_194 at hE
      unfold ps_X11_change_194 at hp
      have B_326 : ∀ (S : HS) (x1 x2 x3 x4 x5 x6 x7 x8 x9 : Int32) (H : Heap) (locs : List Loc) (ls : Array Slot), b_X11_change_326 S x1 x2 x3 x4 x5 x6 x7 x8 x9 = Y1 → q_X11_change_326 S x1 x2 x3 x4 x5 x6 x7 x8 x9 → va_P G vwCl (hW K h g S) H → va_D A (hW K h g S) → va_S A s.heap H locs → lv_has ls 10 [(0, .ref h), (1, .int x1), (2, .int x2), (3, .int x3), (4, .int x4), (5, .int x5), (6, .int x6), (7, .int x7), (8, .int x8), (9, .int x9)] → W p l e ({ frames := 1, cells := 0, slots := 0, locals := 22 } : Room) s m #[Value.ref h, Value.int a1, Value.int a2] below meth c H locs 0 0 Q (F0 m 326 ls []) := by
        intro S x1 x2 x3 x4 x5 x6 x7 x8 x9 H locs ls hE hp hP hD hS hl
        unfold b_X11_change_326 at hE
        unfold q_X11_change_326 at hp
        refine lv_iinc (v := (x9 + 1)) (lv' := [(9, .int (x9 + 1)), (0, .ref h), (1, .int x1), (2, .int x2), (3, .int x3), (4, .int x4), (5, .int x5), (6, .int x6), (7, .int x7), (8, .int x8)]) hx hb dX11_change_326 hl (k := 9) rfl rfl (by decide) rfl (fun ls hl => ?_)
        refine lv_goto (tgt := 194) hx hb dX11_change_329 (by decide) ?_
        subst hE
        dsimp only at hO1 hq1
        exact ih1 S x1 x2 x3 x4 x5 x6 x7 x8 (x9 + 1) _ _ _ hO1 hq1 hP hD hS (lv_sub hl [1, 2, 3, 4, 5, 6, 7, 8, 9, 0] rfl)
      refine lv_iload hx hb dX11_change_194 (lv_at hl 9 rfl) ?_
      refine lv_bipush (v := 90) hx hb dX11_change_196 (by decide) ?_
      refine lv_icmp_ge (tgt := 332) hx hb dX11_change_198 (by decide) (fun c9 => ?_) (fun c9 => ?_)
      · rw [if_pos c9] at hE hp
        subst hE
        have hE := hO1
        dsimp only at hE
        subst hQ
        exact W.vret hx hb hr (fun t ht hW => ⟨⟨S, rfl, hE.trans hX.symm, by rw [ht]; exact hP, hD⟩, hS.F ht⟩) hS.2.2 dX11_change_332
      · rw [if_neg c9] at hE hp
        refine lv_aload_n hx hb dX11_change_201 rfl (lv_at hl 0 rfl) ?_
        refine va_get (D := G) (ci := 8) (v := .ref (g 13)) (C := RX11) (T := TX11) (N := 42) hx hb hts iX11 hown hK hP 0 rfl rfl 13 (by decide) (hw (.fieldLink RX11 19 "MotionFloorModel$Hall" "used" "[Z") (List.mem_of_getElem? (i := 3) rfl)) (fun _ h9 => h9) rfl dX11_change_202 ?_
        refine lv_iload hx hb dX11_change_205 (lv_at hl 9 rfl) ?_
        obtain ⟨hy10, hp⟩ := hp
        refine va_zald hx hb hK hP 3 1 rfl rfl hy10 dX11_change_207 ?_
        refine lv_if_eq (tgt := 326) hx hb dX11_change_208 (by decide) (fun c11 => ?_) (fun c11 => ?_)
        · rw [if_pos c11] at hE hp
          exact B_326 S x1 x2 x3 x4 x5 x6 x7 x8 x9 _ _ _ hE hp hP hD hS (lv_sub hl [0, 1, 2, 3, 4, 5, 6, 7, 8, 9] rfl)
        · rw [if_neg c11] at hE hp
          refine lv_iload hx hb dX11_change_211 (lv_at hl 9 rfl) ?_
          refine lv_iload_n hx hb dX11_change_213 rfl (lv_at hl 2 rfl) ?_
          refine lv_icmp_eq (tgt := 326) hx hb dX11_change_214 (by decide) (fun c12 => ?_) (fun c12 => ?_)
          · rw [if_pos c12] at hE hp
            exact B_326 S x1 x2 x3 x4 x5 x6 x7 x8 x9 _ _ _ hE hp hP hD hS (lv_sub hl [0, 1, 2, 3, 4, 5, 6, 7, 8, 9] rfl)
          · rw [if_neg c12] at hE hp
            refine lv_aload_n hx hb dX11_change_217 rfl (lv_at hl 0 rfl) ?_
            refine va_get (D := G) (ci := 8) (v := .ref (g 25)) (C := RX11) (T := TX11) (N := 42) hx hb hts iX11 hown hK hP 0 rfl rfl 25 (by decide) (hw (.fieldLink RX11 55 "MotionFloorModel$Hall" "laid" "[Z") (List.mem_of_getElem? (i := 4) rfl)) (fun _ h9 => h9) rfl dX11_change_218 ?_
            refine lv_iload hx hb dX11_change_221 (lv_at hl 9 rfl) ?_
            obtain ⟨hy13, hp⟩ := hp
            refine va_zald hx hb hK hP 15 1 rfl rfl hy13 dX11_change_223 ?_
            refine lv_if_eq (tgt := 326) hx hb dX11_change_224 (by decide) (fun c14 => ?_) (fun c14 => ?_)
            · rw [if_pos c14] at hE hp
              exact B_326 S x1 x2 x3 x4 x5 x6 x7 x8 x9 _ _ _ hE hp hP hD hS (lv_sub hl [0, 1, 2, 3, 4, 5, 6, 7, 8, 9] rfl)
            · rw [if_neg c14] at hE hp
              refine lv_aload_n hx hb dX11_change_227 rfl (lv_at hl 0 rfl) ?_
              refine va_get (D := G) (ci := 8) (v := .ref (g 26)) (C := RX11) (T := TX11) (N := 42) hx hb hts iX11 hown hK hP 0 rfl rfl 26 (by decide) (hw (.fieldLink RX11 58 "MotionFloorModel$Hall" "outside" "[Z") (List.mem_of_getElem? (i := 5) rfl)) (fun _ h9 => h9) rfl dX11_change_228 ?_
              refine lv_iload hx hb dX11_change_231 (lv_at hl 9 rfl) ?_
              obtain ⟨hy15, hp⟩ := hp
              refine va_zald hx hb hK hP 16 1 rfl rfl hy15 dX11_change_233 ?_
              refine lv_if_ne (tgt := 326) hx hb dX11_change_234 (by decide) (fun c16 => ?_) (fun c16 => ?_)
              · rw [if_neg c16] at hE hp
                exact B_326 S x1 x2 x3 x4 x5 x6 x7 x8 x9 _ _ _ hE hp hP hD hS (lv_sub hl [0, 1, 2, 3, 4, 5, 6, 7, 8, 9] rfl)
              · rw [if_pos c16] at hE hp
                refine lv_aload_n hx hb dX11_change_237 rfl (lv_at hl 0 rfl) ?_
                refine va_get (D := G) (ci := 8) (v := .ref (g 23)) (C := RX11) (T := TX11) (N := 42) hx hb hts iX11 hown hK hP 0 rfl rfl 23 (by decide) (hw (.fieldLink RX11 49 "MotionFloorModel$Hall" "subject" "[I") (List.mem_of_getElem? (i := 6) rfl)) (fun _ h9 => h9) rfl dX11_change_238 ?_
                refine lv_iload hx hb dX11_change_241 (lv_at hl 9 rfl) ?_
                obtain ⟨hy17, hp⟩ := hp
                refine va_iald hx hb hK hP 13 0 rfl rfl hy17 dX11_change_243 ?_
                refine lv_aload_n hx hb dX11_change_244 rfl (lv_at hl 0 rfl) ?_
                refine va_get (D := G) (ci := 8) (v := .ref (g 22)) (C := RX11) (T := TX11) (N := 42) hx hb hts iX11 hown hK hP 0 rfl rfl 22 (by decide) (hw (.fieldLink RX11 46 "MotionFloorModel$Hall" "self" "[I") (List.mem_of_getElem? (i := 7) rfl)) (fun _ h9 => h9) rfl dX11_change_245 ?_
                refine lv_iload_n hx hb dX11_change_248 rfl (lv_at hl 1 rfl) ?_
                obtain ⟨hy18, hp⟩ := hp
                refine va_iald hx hb hK hP 12 0 rfl rfl hy18 dX11_change_249 ?_
                refine lv_icmp_ne (tgt := 326) hx hb dX11_change_250 (by decide) (fun c19 => ?_) (fun c19 => ?_)
                · rw [if_neg c19] at hE hp
                  exact B_326 S x1 x2 x3 x4 x5 x6 x7 x8 x9 _ _ _ hE hp hP hD hS (lv_sub hl [0, 1, 2, 3, 4, 5, 6, 7, 8, 9] rfl)
                · rw [if_pos c19] at hE hp
                  refine lv_aload_n hx hb dX11_change_253 rfl (lv_at hl 0 rfl) ?_
                  refine lv_iload hx hb dX11_change_254 (lv_at hl 9 rfl) ?_
                  obtain ⟨hy20, hp⟩ := hp
                  refine hGoi (va_runV (As := [.int x9]) (rest := []) ⟨hx, hb, hml, hown, hts⟩ (c_X11_isPending l G K h g S x9 _) (cwV 1 hts (wGV t_ (mw (.methodLink RX11 243 yX11_isPending) (List.mem_of_getElem? (i := 8) rfl)) (mw (.instanceMethod yX11_isPending) (List.mem_of_getElem? (i := 9) rfl)) (mw (.selects RX11 yX11_isPending yX11_isPending) (List.mem_of_getElem? (i := 10) rfl)) (mw (.initialized RX11) (List.mem_of_getElem? (i := 11) rfl)) j_X11_isPending) rfl rfl rfl (by decide +kernel) ⟨Nat.le_of_ble_eq_true rfl, Nat.le_of_ble_eq_true rfl⟩) (hPV hK hTE hP hD hy20) rfl rfl hl.1 rfl (lv_room (Nat.le_of_ble_eq_true rfl)) dX11_change_256 ⟨Nat.le_of_ble_eq_true rfl, Nat.le_of_ble_eq_true rfl⟩) hP hD hS hA (fun r22 u21 H locs hv hP hD hS => ?_)
                  rw [← hv] at hE hp
                  dsimp only at hE hp
                  unfold b_X11_change_a259 at hE
                  unfold q_X11_change_a259 at hp
                  refine lv_if_eq (tgt := 265) hx hb dX11_change_259 (by decide) (fun c23 => ?_) (fun c23 => ?_)
                  · rw [if_pos c23] at hE hp
                    refine lv_aload_n hx hb dX11_change_265 rfl (lv_at hl 0 rfl) ?_
                    refine va_get (D := G) (ci := 8) (v := .ref (g 21)) (C := RX11) (T := TX11) (N := 42) hx hb hts iX11 hown hK hP 0 rfl rfl 21 (by decide) (hw (.fieldLink RX11 43 "MotionFloorModel$Hall" "to" "[I") (List.mem_of_getElem? (i := 1) rfl)) (fun _ h9 => h9) rfl dX11_change_266 ?_
                    refine lv_iload hx hb dX11_change_269 (lv_at hl 9 rfl) ?_
                    obtain ⟨hy24, hp⟩ := hp
                    refine va_iald hx hb hK hP 11 0 rfl rfl hy24 dX11_change_271 ?_
                    refine lv_iload_n hx hb dX11_change_272 rfl (lv_at hl 3 rfl) ?_
                    refine lv_icmp_gt (tgt := 279) hx hb dX11_change_273 (by decide) (fun c25 => ?_) (fun c25 => ?_)
                    · rw [if_pos c25] at hE hp
                      refine lv_aload_n hx hb dX11_change_279 rfl (lv_at hl 0 rfl) ?_
                      refine va_get (D := G) (ci := 8) (v := .ref (g 20)) (C := RX11) (T := TX11) (N := 42) hx hb hts iX11 hown hK hP 0 rfl rfl 20 (by decide) (hw (.fieldLink RX11 40 "MotionFloorModel$Hall" "from" "[I") (List.mem_of_getElem? (i := 0) rfl)) (fun _ h9 => h9) rfl dX11_change_280 ?_
                      refine lv_iload hx hb dX11_change_283 (lv_at hl 9 rfl) ?_
                      obtain ⟨hy26, hp⟩ := hp
                      refine va_iald hx hb hK hP 10 0 rfl rfl hy26 dX11_change_285 ?_
                      refine lv_iload hx hb dX11_change_286 (lv_at hl 4 rfl) ?_
                      refine lv_icmp_lt (tgt := 318) hx hb dX11_change_288 (by decide) (fun c27 => ?_) (fun c27 => ?_)
                      · rw [if_pos c27] at hE hp
                        refine lv_aload_n hx hb dX11_change_318 rfl (lv_at hl 0 rfl) ?_
                        refine va_get (D := G) (ci := 8) (v := .ref (g 26)) (C := RX11) (T := TX11) (N := 42) hx hb hts iX11 hown hK hP 0 rfl rfl 26 (by decide) (hw (.fieldLink RX11 58 "MotionFloorModel$Hall" "outside" "[Z") (List.mem_of_getElem? (i := 5) rfl)) (fun _ h9 => h9) rfl dX11_change_319 ?_
                        refine lv_iload hx hb dX11_change_322 (lv_at hl 9 rfl) ?_
                        refine lv_iconst (v := 1) hx hb dX11_change_324 (by decide) ?_
                        obtain ⟨hy28, hp⟩ := hp
                        refine va_zast hx hb hK hP hD hS 16 1 rfl rfl hy28 dX11_change_325 (fun H locs hP hD hS => ?_)
                        rw [sA_26] at hP hD
                        exact B_326 (sA u21 26 x9.toNatClampNeg (vp_nar .boolean 1)) x1 x2 x3 x4 x5 x6 x7 x8 x9 _ _ _ hE hp hP hD hS (lv_sub hl [0, 1, 2, 3, 4, 5, 6, 7, 8, 9] rfl)
                      · rw [if_neg c27] at hE hp
                        refine lv_aload_n hx hb dX11_change_291 rfl (lv_at hl 0 rfl) ?_
                        refine va_get (D := G) (ci := 8) (v := .ref (g 20)) (C := RX11) (T := TX11) (N := 42) hx hb hts iX11 hown hK hP 0 rfl rfl 20 (by decide) (hw (.fieldLink RX11 40 "MotionFloorModel$Hall" "from" "[I") (List.mem_of_getElem? (i := 0) rfl)) (fun _ h9 => h9) rfl dX11_change_292 ?_
                        refine lv_iload hx hb dX11_change_295 (lv_at hl 9 rfl) ?_
                        refine lv_dup2_11 hx hb dX11_change_297 rfl rfl ?_
                        obtain ⟨hy29, hp⟩ := hp
                        refine va_iald hx hb hK hP 10 0 rfl rfl hy29 dX11_change_298 ?_
                        refine lv_iload hx hb dX11_change_299 (lv_at hl 6 rfl) ?_
                        refine lv_iadd hx hb dX11_change_301 ?_
                        obtain ⟨hy30, hp⟩ := hp
                        refine va_iast hx hb hK hP hD hS 10 0 rfl rfl hy30 dX11_change_302 (fun H locs hP hD hS => ?_)
                        rw [sA_20] at hP hD
                        refine lv_aload_n hx hb dX11_change_303 rfl (lv_at hl 0 rfl) ?_
                        refine va_get (D := G) (ci := 8) (v := .ref (g 21)) (C := RX11) (T := TX11) (N := 42) hx hb hts iX11 hown hK hP 0 rfl rfl 21 (by decide) (hw (.fieldLink RX11 43 "MotionFloorModel$Hall" "to" "[I") (List.mem_of_getElem? (i := 1) rfl)) (fun _ h9 => h9) rfl dX11_change_304 ?_
                        refine lv_iload hx hb dX11_change_307 (lv_at hl 9 rfl) ?_
                        refine lv_dup2_11 hx hb dX11_change_309 rfl rfl ?_
                        obtain ⟨hy31, hp⟩ := hp
                        refine va_iald hx hb hK hP 11 0 rfl rfl hy31 dX11_change_310 ?_
                        refine lv_iload hx hb dX11_change_311 (lv_at hl 6 rfl) ?_
                        refine lv_iadd hx hb dX11_change_313 ?_
                        obtain ⟨hy32, hp⟩ := hp
                        refine va_iast hx hb hK hP hD hS 11 0 rfl rfl hy32 dX11_change_314 (fun H locs hP hD hS => ?_)
                        rw [sA_21] at hP hD
                        refine lv_goto (tgt := 326) hx hb dX11_change_315 (by decide) ?_
                        exact B_326 (sA (sA u21 20 x9.toNatClampNeg ((u21.2 20 x9.toNatClampNeg) + x6)) 21 x9.toNatClampNeg (((sA u21 20 x9.toNatClampNeg ((u21.2 20 x9.toNatClampNeg) + x6)).2 21 x9.toNatClampNeg) + x6)) x1 x2 x3 x4 x5 x6 x7 x8 x9 _ _ _ hE hp hP hD hS (lv_sub hl [0, 1, 2, 3, 4, 5, 6, 7, 8, 9] rfl)
                    · rw [if_neg c25] at hE hp
                      refine lv_goto (tgt := 326) hx hb dX11_change_276 (by decide) ?_
                      exact B_326 u21 x1 x2 x3 x4 x5 x6 x7 x8 x9 _ _ _ hE hp hP hD hS (lv_sub hl [0, 1, 2, 3, 4, 5, 6, 7, 8, 9] rfl)
                  · rw [if_neg c23] at hE hp
                    refine lv_goto (tgt := 326) hx hb dX11_change_262 (by decide) ?_
                    exact B_326 u21 x1 x2 x3 x4 x5 x6 x7 x8 x9 _ _ _ hE hp hP hD hS (lv_sub hl [0, 1, 2, 3, 4, 5, 6, 7, 8, 9] rfl)
  have L_142 : ∀ (n : Nat) (S : HS) (x1 x2 x3 x4 x5 x6 x7 x8 x9 : Int32) (H : Heap) (locs : List Loc) (ls : Array Slot), lp_X11_change_142 n S x1 x2 x3 x4 x5 x6 x7 x8 x9 = X → lq_X11_change_142 n S x1 x2 x3 x4 x5 x6 x7 x8 x9 → va_P G vwCl (hW K h g S) H → va_D A (hW K h g S) → va_S A s.heap H locs → lv_has ls 10 [(0, .ref h), (1, .int x1), (2, .int x2), (3, .int x3), (4, .int x4), (5, .int x5), (6, .int x6), (7, .int x7), (8, .int x8), (9, .int x9)] → W p l e ({ frames := 1, cells := 0, slots := 0, locals := 22 } : Room) s m #[Value.ref h, Value.int a1, Value.int a2] below meth c H locs 0 0 Q (F0 m 142 ls []) := by
    intro n1
    induction n1 with
    | zero => intro S x1 x2 x3 x4 x5 x6 x7 x8 x9 H locs ls hE hp; exact False.elim hp
    | succ n1 ih1 =>
      intro S x1 x2 x3 x4 x5 x6 x7 x8 x9 H locs ls hO1 hp hP hD hS hl
      rw [lp_X11_change_142] at hO1
      rw [lq_X11_change_142] at hp
      obtain ⟨hp, hq1⟩ := hp
      generalize hE : st_X11_change_142 S x1 x2 x3 x4 x5 x6 x7 x8 x9 = Y1 at hO1 hq1
      unfold st_X11_change_142 at hE
      unfold ps_X11_change_142 at hp
      refine lv_iload hx hb dX11_change_142 (lv_at hl 9 rfl) ?_
      refine lv_iload hx hb dX11_change_144 (lv_at hl 5 rfl) ?_
      refine lv_icmp_ge (tgt := 180) hx hb dX11_change_146 (by decide) (fun c7 => ?_) (fun c7 => ?_)
      · rw [if_pos c7] at hE hp
        subst hE
        have hE := hO1
        dsimp only at hE
        refine lv_aload_n hx hb dX11_change_180 rfl (lv_at hl 0 rfl) ?_
        refine va_get (D := G) (ci := 8) (v := .ref (g 19)) (C := RX11) (T := TX11) (N := 42) hx hb hts iX11 hown hK hP 0 rfl rfl 19 (by decide) (hw (.fieldLink RX11 37 "MotionFloorModel$Hall" "words" "[I") (List.mem_of_getElem? (i := 2) rfl)) (fun _ h9 => h9) rfl dX11_change_181 ?_
        refine lv_iload_n hx hb dX11_change_184 rfl (lv_at hl 1 rfl) ?_
        refine lv_iload hx hb dX11_change_185 (lv_at hl 7 rfl) ?_
        refine lv_iload hx hb dX11_change_187 (lv_at hl 6 rfl) ?_
        refine lv_iadd hx hb dX11_change_189 ?_
        obtain ⟨hy8, hp⟩ := hp
        refine va_iast hx hb hK hP hD hS 9 0 rfl rfl hy8 dX11_change_190 (fun H locs hP hD hS => ?_)
        rw [sA_19] at hP hD
        refine lv_iconst (v := 0) hx hb dX11_change_191 (by decide) ?_
        refine lv_istore (lv' := [(9, .int 0), (0, .ref h), (1, .int x1), (2, .int x2), (3, .int x3), (4, .int x4), (5, .int x5), (6, .int x6), (7, .int x7), (8, .int x8)]) hx hb dX11_change_192 hl (by decide) rfl (fun ls hl => ?_)
        exact L_194 100000 (sA S 19 x1.toNatClampNeg (x7 + x6)) x1 x2 x3 x4 x5 x6 x7 x8 0 _ _ _ hE hp hP hD hS (lv_sub hl [1, 2, 3, 4, 5, 6, 7, 8, 9, 0] rfl)
      · rw [if_neg c7] at hE hp
        refine lv_aload_n hx hb dX11_change_149 rfl (lv_at hl 0 rfl) ?_
        refine va_get (D := G) (ci := 8) (v := .ref (g 28)) (C := RX11) (T := TX11) (N := 42) hx hb hts iX11 hown hK hP 0 rfl rfl 28 (by decide) (hw (.fieldLink RX11 65 "MotionFloorModel$Hall" "text" "[I") (List.mem_of_getElem? (i := 12) rfl)) (fun _ h9 => h9) rfl dX11_change_150 ?_
        refine lv_iload hx hb dX11_change_153 (lv_at hl 8 rfl) ?_
        refine lv_iload_n hx hb dX11_change_155 rfl (lv_at hl 3 rfl) ?_
        refine lv_iadd hx hb dX11_change_156 ?_
        refine lv_iload hx hb dX11_change_157 (lv_at hl 9 rfl) ?_
        refine lv_iadd hx hb dX11_change_159 ?_
        refine lv_aload_n hx hb dX11_change_160 rfl (lv_at hl 0 rfl) ?_
        refine va_get (D := G) (ci := 8) (v := .ref (g 28)) (C := RX11) (T := TX11) (N := 42) hx hb hts iX11 hown hK hP 0 rfl rfl 28 (by decide) (hw (.fieldLink RX11 65 "MotionFloorModel$Hall" "text" "[I") (List.mem_of_getElem? (i := 12) rfl)) (fun _ h9 => h9) rfl dX11_change_161 ?_
        refine lv_sipush (v := 400) hx hb dX11_change_164 (by decide) ?_
        refine lv_iload_n hx hb dX11_change_167 rfl (lv_at hl 2 rfl) ?_
        refine lv_imul hx hb dX11_change_168 ?_
        refine lv_iload hx hb dX11_change_169 (lv_at hl 9 rfl) ?_
        refine lv_iadd hx hb dX11_change_171 ?_
        obtain ⟨hy43, hp⟩ := hp
        refine va_iald hx hb hK hP 18 0 rfl rfl hy43 dX11_change_172 ?_
        obtain ⟨hy44, hp⟩ := hp
        refine va_iast hx hb hK hP hD hS 18 0 rfl rfl hy44 dX11_change_173 (fun H locs hP hD hS => ?_)
        rw [sA_28] at hP hD
        refine lv_iinc (v := (x9 + 1)) (lv' := [(9, .int (x9 + 1)), (0, .ref h), (1, .int x1), (2, .int x2), (3, .int x3), (4, .int x4), (5, .int x5), (6, .int x6), (7, .int x7), (8, .int x8)]) hx hb dX11_change_174 hl (k := 9) rfl rfl (by decide) rfl (fun ls hl => ?_)
        refine lv_goto (tgt := 142) hx hb dX11_change_177 (by decide) ?_
        subst hE
        dsimp only at hO1 hq1
        exact ih1 (sA S 28 ((x8 + x3) + x9).toNatClampNeg (S.2 28 ((400 * x2) + x9).toNatClampNeg)) x1 x2 x3 x4 x5 x6 x7 x8 (x9 + 1) _ _ _ hO1 hq1 hP hD hS (lv_sub hl [1, 2, 3, 4, 5, 6, 7, 8, 9, 0] rfl)
  have B_139 : ∀ (S : HS) (x1 x2 x3 x4 x5 x6 x7 x8 : Int32) (H : Heap) (locs : List Loc) (ls : Array Slot), b_X11_change_139 S x1 x2 x3 x4 x5 x6 x7 x8 = X → q_X11_change_139 S x1 x2 x3 x4 x5 x6 x7 x8 → va_P G vwCl (hW K h g S) H → va_D A (hW K h g S) → va_S A s.heap H locs → lv_has ls 10 [(0, .ref h), (1, .int x1), (2, .int x2), (3, .int x3), (4, .int x4), (5, .int x5), (6, .int x6), (7, .int x7), (8, .int x8)] → W p l e ({ frames := 1, cells := 0, slots := 0, locals := 22 } : Room) s m #[Value.ref h, Value.int a1, Value.int a2] below meth c H locs 0 0 Q (F0 m 139 ls []) := by
    intro S x1 x2 x3 x4 x5 x6 x7 x8 H locs ls hE hp hP hD hS hl
    unfold b_X11_change_139 at hE
    unfold q_X11_change_139 at hp
    refine lv_iconst (v := 0) hx hb dX11_change_139 (by decide) ?_
    refine lv_istore (lv' := [(9, .int 0), (0, .ref h), (1, .int x1), (2, .int x2), (3, .int x3), (4, .int x4), (5, .int x5), (6, .int x6), (7, .int x7), (8, .int x8)]) hx hb dX11_change_140 hl (by decide) rfl (fun ls hl => ?_)
    exact L_142 100000 S x1 x2 x3 x4 x5 x6 x7 x8 0 _ _ _ hE hp hP hD hS (lv_sub hl [1, 2, 3, 4, 5, 6, 7, 8, 9, 0] rfl)
  have L_103 : ∀ (n : Nat) (S : HS) (x1 x2 x3 x4 x5 x6 x7 x8 x9 : Int32) (H : Heap) (locs : List Loc) (ls : Array Slot), lp_X11_change_103 n S x1 x2 x3 x4 x5 x6 x7 x8 x9 = X → lq_X11_change_103 n S x1 x2 x3 x4 x5 x6 x7 x8 x9 → va_P G vwCl (hW K h g S) H → va_D A (hW K h g S) → va_S A s.heap H locs → lv_has ls 10 [(0, .ref h), (1, .int x1), (2, .int x2), (3, .int x3), (4, .int x4), (5, .int x5), (6, .int x6), (7, .int x7), (8, .int x8), (9, .int x9)] → W p l e ({ frames := 1, cells := 0, slots := 0, locals := 22 } : Room) s m #[Value.ref h, Value.int a1, Value.int a2] below meth c H locs 0 0 Q (F0 m 103 ls []) := by
    intro n1
    induction n1 with
    | zero => intro S x1 x2 x3 x4 x5 x6 x7 x8 x9 H locs ls hE hp; exact False.elim hp
    | succ n1 ih1 =>
      intro S x1 x2 x3 x4 x5 x6 x7 x8 x9 H locs ls hO1 hp hP hD hS hl
      rw [lp_X11_change_103] at hO1
      rw [lq_X11_change_103] at hp
      obtain ⟨hp, hq1⟩ := hp
      generalize hE : st_X11_change_103 S x1 x2 x3 x4 x5 x6 x7 x8 x9 = Y1 at hO1 hq1
      unfold st_X11_change_103 at hE
      unfold ps_X11_change_103 at hp
      refine lv_iload hx hb dX11_change_103 (lv_at hl 9 rfl) ?_
      refine lv_iload hx hb dX11_change_105 (lv_at hl 7 rfl) ?_
      refine lv_icmp_ge (tgt := 139) hx hb dX11_change_107 (by decide) (fun c45 => ?_) (fun c45 => ?_)
      · rw [if_pos c45] at hE hp
        subst hE
        have hE := hO1
        dsimp only at hE
        exact B_139 S x1 x2 x3 x4 x5 x6 x7 x8 _ _ _ hE hp hP hD hS (lv_sub hl [0, 1, 2, 3, 4, 5, 6, 7, 8] rfl)
      · rw [if_neg c45] at hE hp
        refine lv_aload_n hx hb dX11_change_110 rfl (lv_at hl 0 rfl) ?_
        refine va_get (D := G) (ci := 8) (v := .ref (g 28)) (C := RX11) (T := TX11) (N := 42) hx hb hts iX11 hown hK hP 0 rfl rfl 28 (by decide) (hw (.fieldLink RX11 65 "MotionFloorModel$Hall" "text" "[I") (List.mem_of_getElem? (i := 12) rfl)) (fun _ h9 => h9) rfl dX11_change_111 ?_
        refine lv_iload hx hb dX11_change_114 (lv_at hl 8 rfl) ?_
        refine lv_iload hx hb dX11_change_116 (lv_at hl 9 rfl) ?_
        refine lv_iadd hx hb dX11_change_118 ?_
        refine lv_iload hx hb dX11_change_119 (lv_at hl 6 rfl) ?_
        refine lv_iadd hx hb dX11_change_121 ?_
        refine lv_aload_n hx hb dX11_change_122 rfl (lv_at hl 0 rfl) ?_
        refine va_get (D := G) (ci := 8) (v := .ref (g 28)) (C := RX11) (T := TX11) (N := 42) hx hb hts iX11 hown hK hP 0 rfl rfl 28 (by decide) (hw (.fieldLink RX11 65 "MotionFloorModel$Hall" "text" "[I") (List.mem_of_getElem? (i := 12) rfl)) (fun _ h9 => h9) rfl dX11_change_123 ?_
        refine lv_iload hx hb dX11_change_126 (lv_at hl 8 rfl) ?_
        refine lv_iload hx hb dX11_change_128 (lv_at hl 9 rfl) ?_
        refine lv_iadd hx hb dX11_change_130 ?_
        obtain ⟨hy46, hp⟩ := hp
        refine va_iald hx hb hK hP 18 0 rfl rfl hy46 dX11_change_131 ?_
        obtain ⟨hy47, hp⟩ := hp
        refine va_iast hx hb hK hP hD hS 18 0 rfl rfl hy47 dX11_change_132 (fun H locs hP hD hS => ?_)
        rw [sA_28] at hP hD
        refine lv_iinc (v := (x9 + 1)) (lv' := [(9, .int (x9 + 1)), (0, .ref h), (1, .int x1), (2, .int x2), (3, .int x3), (4, .int x4), (5, .int x5), (6, .int x6), (7, .int x7), (8, .int x8)]) hx hb dX11_change_133 hl (k := 9) rfl rfl (by decide) rfl (fun ls hl => ?_)
        refine lv_goto (tgt := 103) hx hb dX11_change_136 (by decide) ?_
        subst hE
        dsimp only at hO1 hq1
        exact ih1 (sA S 28 ((x8 + x9) + x6).toNatClampNeg (S.2 28 (x8 + x9).toNatClampNeg)) x1 x2 x3 x4 x5 x6 x7 x8 (x9 + 1) _ _ _ hO1 hq1 hP hD hS (lv_sub hl [1, 2, 3, 4, 5, 6, 7, 8, 9, 0] rfl)
  have B_94 : ∀ (S : HS) (x1 x2 x3 x4 x5 x6 x7 x8 : Int32) (H : Heap) (locs : List Loc) (ls : Array Slot), b_X11_change_94 S x1 x2 x3 x4 x5 x6 x7 x8 = X → q_X11_change_94 S x1 x2 x3 x4 x5 x6 x7 x8 → va_P G vwCl (hW K h g S) H → va_D A (hW K h g S) → va_S A s.heap H locs → lv_has ls 10 [(0, .ref h), (1, .int x1), (2, .int x2), (3, .int x3), (4, .int x4), (5, .int x5), (6, .int x6), (7, .int x7), (8, .int x8)] → W p l e ({ frames := 1, cells := 0, slots := 0, locals := 22 } : Room) s m #[Value.ref h, Value.int a1, Value.int a2] below meth c H locs 0 0 Q (F0 m 94 ls []) := by
    intro S x1 x2 x3 x4 x5 x6 x7 x8 H locs ls hE hp hP hD hS hl
    unfold b_X11_change_94 at hE
    unfold q_X11_change_94 at hp
    refine lv_iload hx hb dX11_change_94 (lv_at hl 6 rfl) ?_
    refine lv_if_ge (tgt := 139) hx hb dX11_change_96 (by decide) (fun c6 => ?_) (fun c6 => ?_)
    · rw [if_pos c6] at hE hp
      exact B_139 S x1 x2 x3 x4 x5 x6 x7 x8 _ _ _ hE hp hP hD hS (lv_sub hl [0, 1, 2, 3, 4, 5, 6, 7, 8] rfl)
    · rw [if_neg c6] at hE hp
      refine lv_iload hx hb dX11_change_99 (lv_at hl 4 rfl) ?_
      refine lv_istore (lv' := [(9, .int x4), (0, .ref h), (1, .int x1), (2, .int x2), (3, .int x3), (4, .int x4), (5, .int x5), (6, .int x6), (7, .int x7), (8, .int x8)]) hx hb dX11_change_101 hl (by decide) rfl (fun ls hl => ?_)
      exact L_103 100000 S x1 x2 x3 x4 x5 x6 x7 x8 x4 _ _ _ hE hp hP hD hS (lv_sub hl [1, 2, 3, 4, 5, 6, 7, 8, 9, 0] rfl)
  have L_58 : ∀ (n : Nat) (S : HS) (x1 x2 x3 x4 x5 x6 x7 x8 x9 : Int32) (H : Heap) (locs : List Loc) (ls : Array Slot), lp_X11_change_58 n S x1 x2 x3 x4 x5 x6 x7 x8 x9 = X → lq_X11_change_58 n S x1 x2 x3 x4 x5 x6 x7 x8 x9 → va_P G vwCl (hW K h g S) H → va_D A (hW K h g S) → va_S A s.heap H locs → lv_has ls 10 [(0, .ref h), (1, .int x1), (2, .int x2), (3, .int x3), (4, .int x4), (5, .int x5), (6, .int x6), (7, .int x7), (8, .int x8), (9, .int x9)] → W p l e ({ frames := 1, cells := 0, slots := 0, locals := 22 } : Room) s m #[Value.ref h, Value.int a1, Value.int a2] below meth c H locs 0 0 Q (F0 m 58 ls []) := by
    intro n1
    induction n1 with
    | zero => intro S x1 x2 x3 x4 x5 x6 x7 x8 x9 H locs ls hE hp; exact False.elim hp
    | succ n1 ih1 =>
      intro S x1 x2 x3 x4 x5 x6 x7 x8 x9 H locs ls hO1 hp hP hD hS hl
      rw [lp_X11_change_58] at hO1
      rw [lq_X11_change_58] at hp
      obtain ⟨hp, hq1⟩ := hp
      generalize hE : st_X11_change_58 S x1 x2 x3 x4 x5 x6 x7 x8 x9 = Y1 at hO1 hq1
      unfold st_X11_change_58 at hE
      unfold ps_X11_change_58 at hp
      refine lv_iload hx hb dX11_change_58 (lv_at hl 9 rfl) ?_
      refine lv_iload hx hb dX11_change_60 (lv_at hl 4 rfl) ?_
      refine lv_icmp_lt (tgt := 94) hx hb dX11_change_62 (by decide) (fun c48 => ?_) (fun c48 => ?_)
      · rw [if_pos c48] at hE hp
        subst hE
        have hE := hO1
        dsimp only at hE
        exact B_94 S x1 x2 x3 x4 x5 x6 x7 x8 _ _ _ hE hp hP hD hS (lv_sub hl [0, 1, 2, 3, 4, 5, 6, 7, 8] rfl)
      · rw [if_neg c48] at hE hp
        refine lv_aload_n hx hb dX11_change_65 rfl (lv_at hl 0 rfl) ?_
        refine va_get (D := G) (ci := 8) (v := .ref (g 28)) (C := RX11) (T := TX11) (N := 42) hx hb hts iX11 hown hK hP 0 rfl rfl 28 (by decide) (hw (.fieldLink RX11 65 "MotionFloorModel$Hall" "text" "[I") (List.mem_of_getElem? (i := 12) rfl)) (fun _ h9 => h9) rfl dX11_change_66 ?_
        refine lv_iload hx hb dX11_change_69 (lv_at hl 8 rfl) ?_
        refine lv_iload hx hb dX11_change_71 (lv_at hl 9 rfl) ?_
        refine lv_iadd hx hb dX11_change_73 ?_
        refine lv_iload hx hb dX11_change_74 (lv_at hl 6 rfl) ?_
        refine lv_iadd hx hb dX11_change_76 ?_
        refine lv_aload_n hx hb dX11_change_77 rfl (lv_at hl 0 rfl) ?_
        refine va_get (D := G) (ci := 8) (v := .ref (g 28)) (C := RX11) (T := TX11) (N := 42) hx hb hts iX11 hown hK hP 0 rfl rfl 28 (by decide) (hw (.fieldLink RX11 65 "MotionFloorModel$Hall" "text" "[I") (List.mem_of_getElem? (i := 12) rfl)) (fun _ h9 => h9) rfl dX11_change_78 ?_
        refine lv_iload hx hb dX11_change_81 (lv_at hl 8 rfl) ?_
        refine lv_iload hx hb dX11_change_83 (lv_at hl 9 rfl) ?_
        refine lv_iadd hx hb dX11_change_85 ?_
        obtain ⟨hy49, hp⟩ := hp
        refine va_iald hx hb hK hP 18 0 rfl rfl hy49 dX11_change_86 ?_
        obtain ⟨hy50, hp⟩ := hp
        refine va_iast hx hb hK hP hD hS 18 0 rfl rfl hy50 dX11_change_87 (fun H locs hP hD hS => ?_)
        rw [sA_28] at hP hD
        refine lv_iinc (v := (x9 + (-1))) (lv' := [(9, .int (x9 + (-1))), (0, .ref h), (1, .int x1), (2, .int x2), (3, .int x3), (4, .int x4), (5, .int x5), (6, .int x6), (7, .int x7), (8, .int x8)]) hx hb dX11_change_88 hl (k := 9) rfl rfl (by decide) rfl (fun ls hl => ?_)
        refine lv_goto (tgt := 58) hx hb dX11_change_91 (by decide) ?_
        subst hE
        dsimp only at hO1 hq1
        exact ih1 (sA S 28 ((x8 + x9) + x6).toNatClampNeg (S.2 28 (x8 + x9).toNatClampNeg)) x1 x2 x3 x4 x5 x6 x7 x8 (x9 + (-1)) _ _ _ hO1 hq1 hP hD hS (lv_sub hl [1, 2, 3, 4, 5, 6, 7, 8, 9, 0] rfl)
  have B_M : ∀ (S : HS) (x1 x2 : Int32) (H : Heap) (locs : List Loc) (ls : Array Slot), f_X11_change S x1 x2 = X → p_X11_change S x1 x2 → va_P G vwCl (hW K h g S) H → va_D A (hW K h g S) → va_S A s.heap H locs → lv_has ls 10 [(0, .ref h), (1, .int x1), (2, .int x2)] → W p l e ({ frames := 1, cells := 0, slots := 0, locals := 22 } : Room) s m #[Value.ref h, Value.int a1, Value.int a2] below meth c H locs 0 0 Q (F0 m 0 ls []) := by
    intro S x1 x2 H locs ls hE hp hP hD hS hl
    unfold f_X11_change at hE
    unfold p_X11_change at hp
    refine lv_aload_n hx hb dX11_change_0 rfl (lv_at hl 0 rfl) ?_
    refine va_get (D := G) (ci := 8) (v := .ref (g 20)) (C := RX11) (T := TX11) (N := 42) hx hb hts iX11 hown hK hP 0 rfl rfl 20 (by decide) (hw (.fieldLink RX11 40 "MotionFloorModel$Hall" "from" "[I") (List.mem_of_getElem? (i := 0) rfl)) (fun _ h9 => h9) rfl dX11_change_1 ?_
    refine lv_iload_n hx hb dX11_change_4 rfl (lv_at hl 2 rfl) ?_
    obtain ⟨hy1, hp⟩ := hp
    refine va_iald hx hb hK hP 10 0 rfl rfl hy1 dX11_change_5 ?_
    refine lv_istore_n (lv' := [(3, .int (S.2 20 x2.toNatClampNeg)), (0, .ref h), (1, .int x1), (2, .int x2)]) hx hb dX11_change_6 rfl hl (by decide) rfl (fun ls hl => ?_)
    refine lv_aload_n hx hb dX11_change_7 rfl (lv_at hl 1 rfl) ?_
    refine va_get (D := G) (ci := 8) (v := .ref (g 21)) (C := RX11) (T := TX11) (N := 42) hx hb hts iX11 hown hK hP 0 rfl rfl 21 (by decide) (hw (.fieldLink RX11 43 "MotionFloorModel$Hall" "to" "[I") (List.mem_of_getElem? (i := 1) rfl)) (fun _ h9 => h9) rfl dX11_change_8 ?_
    refine lv_iload_n hx hb dX11_change_11 rfl (lv_at hl 3 rfl) ?_
    obtain ⟨hy2, hp⟩ := hp
    refine va_iald hx hb hK hP 11 0 rfl rfl hy2 dX11_change_12 ?_
    refine lv_istore (lv' := [(4, .int (S.2 21 x2.toNatClampNeg)), (3, .int (S.2 20 x2.toNatClampNeg)), (0, .ref h), (1, .int x1), (2, .int x2)]) hx hb dX11_change_13 hl (by decide) rfl (fun ls hl => ?_)
    refine lv_aload_n hx hb dX11_change_15 rfl (lv_at hl 2 rfl) ?_
    refine va_get (D := G) (ci := 8) (v := .ref (g 19)) (C := RX11) (T := TX11) (N := 42) hx hb hts iX11 hown hK hP 0 rfl rfl 19 (by decide) (hw (.fieldLink RX11 37 "MotionFloorModel$Hall" "words" "[I") (List.mem_of_getElem? (i := 2) rfl)) (fun _ h9 => h9) rfl dX11_change_16 ?_
    refine lv_iload_n hx hb dX11_change_19 rfl (lv_at hl 4 rfl) ?_
    obtain ⟨hy3, hp⟩ := hp
    refine va_iald hx hb hK hP 9 0 rfl rfl hy3 dX11_change_20 ?_
    refine lv_istore (lv' := [(5, .int (S.2 19 x2.toNatClampNeg)), (4, .int (S.2 21 x2.toNatClampNeg)), (3, .int (S.2 20 x2.toNatClampNeg)), (0, .ref h), (1, .int x1), (2, .int x2)]) hx hb dX11_change_21 hl (by decide) rfl (fun ls hl => ?_)
    refine lv_iload hx hb dX11_change_23 (lv_at hl 0 rfl) ?_
    refine lv_iload hx hb dX11_change_25 (lv_at hl 1 rfl) ?_
    refine lv_iload_n hx hb dX11_change_27 rfl (lv_at hl 2 rfl) ?_
    refine lv_isub hx hb dX11_change_28 ?_
    refine lv_isub hx hb dX11_change_29 ?_
    refine lv_istore (lv' := [(6, .int ((S.2 19 x2.toNatClampNeg) - ((S.2 21 x2.toNatClampNeg) - (S.2 20 x2.toNatClampNeg)))), (5, .int (S.2 19 x2.toNatClampNeg)), (4, .int (S.2 21 x2.toNatClampNeg)), (3, .int (S.2 20 x2.toNatClampNeg)), (0, .ref h), (1, .int x1), (2, .int x2)]) hx hb dX11_change_30 hl (by decide) rfl (fun ls hl => ?_)
    refine lv_aload_n hx hb dX11_change_32 rfl (lv_at hl 4 rfl) ?_
    refine va_get (D := G) (ci := 8) (v := .ref (g 19)) (C := RX11) (T := TX11) (N := 42) hx hb hts iX11 hown hK hP 0 rfl rfl 19 (by decide) (hw (.fieldLink RX11 37 "MotionFloorModel$Hall" "words" "[I") (List.mem_of_getElem? (i := 2) rfl)) (fun _ h9 => h9) rfl dX11_change_33 ?_
    refine lv_iload_n hx hb dX11_change_36 rfl (lv_at hl 5 rfl) ?_
    obtain ⟨hy4, hp⟩ := hp
    refine va_iald hx hb hK hP 9 0 rfl rfl hy4 dX11_change_37 ?_
    refine lv_istore (lv' := [(7, .int (S.2 19 x1.toNatClampNeg)), (6, .int ((S.2 19 x2.toNatClampNeg) - ((S.2 21 x2.toNatClampNeg) - (S.2 20 x2.toNatClampNeg)))), (5, .int (S.2 19 x2.toNatClampNeg)), (4, .int (S.2 21 x2.toNatClampNeg)), (3, .int (S.2 20 x2.toNatClampNeg)), (0, .ref h), (1, .int x1), (2, .int x2)]) hx hb dX11_change_38 hl (by decide) rfl (fun ls hl => ?_)
    refine lv_sipush (v := 400) hx hb dX11_change_40 (by decide) ?_
    refine lv_iload_n hx hb dX11_change_43 rfl (lv_at hl 6 rfl) ?_
    refine lv_imul hx hb dX11_change_44 ?_
    refine lv_istore (lv' := [(8, .int (400 * x1)), (7, .int (S.2 19 x1.toNatClampNeg)), (6, .int ((S.2 19 x2.toNatClampNeg) - ((S.2 21 x2.toNatClampNeg) - (S.2 20 x2.toNatClampNeg)))), (5, .int (S.2 19 x2.toNatClampNeg)), (4, .int (S.2 21 x2.toNatClampNeg)), (3, .int (S.2 20 x2.toNatClampNeg)), (0, .ref h), (1, .int x1), (2, .int x2)]) hx hb dX11_change_45 hl (by decide) rfl (fun ls hl => ?_)
    refine lv_iload hx hb dX11_change_47 (lv_at hl 2 rfl) ?_
    refine lv_if_le (tgt := 94) hx hb dX11_change_49 (by decide) (fun c5 => ?_) (fun c5 => ?_)
    · rw [if_pos c5] at hE hp
      exact B_94 S x1 x2 (S.2 20 x2.toNatClampNeg) (S.2 21 x2.toNatClampNeg) (S.2 19 x2.toNatClampNeg) ((S.2 19 x2.toNatClampNeg) - ((S.2 21 x2.toNatClampNeg) - (S.2 20 x2.toNatClampNeg))) (S.2 19 x1.toNatClampNeg) (400 * x1) _ _ _ hE hp hP hD hS (lv_sub hl [6, 7, 8, 5, 4, 3, 2, 1, 0] rfl)
    · rw [if_neg c5] at hE hp
      refine lv_iload hx hb dX11_change_52 (lv_at hl 1 rfl) ?_
      refine lv_iconst (v := 1) hx hb dX11_change_54 (by decide) ?_
      refine lv_isub hx hb dX11_change_55 ?_
      refine lv_istore (lv' := [(9, .int ((S.2 19 x1.toNatClampNeg) - 1)), (8, .int (400 * x1)), (7, .int (S.2 19 x1.toNatClampNeg)), (6, .int ((S.2 19 x2.toNatClampNeg) - ((S.2 21 x2.toNatClampNeg) - (S.2 20 x2.toNatClampNeg)))), (5, .int (S.2 19 x2.toNatClampNeg)), (4, .int (S.2 21 x2.toNatClampNeg)), (3, .int (S.2 20 x2.toNatClampNeg)), (0, .ref h), (1, .int x1), (2, .int x2)]) hx hb dX11_change_56 hl (by decide) rfl (fun ls hl => ?_)
      exact L_58 100000 S x1 x2 (S.2 20 x2.toNatClampNeg) (S.2 21 x2.toNatClampNeg) (S.2 19 x2.toNatClampNeg) ((S.2 19 x2.toNatClampNeg) - ((S.2 21 x2.toNatClampNeg) - (S.2 20 x2.toNatClampNeg))) (S.2 19 x1.toNatClampNeg) (400 * x1) ((S.2 19 x1.toNatClampNeg) - 1) _ _ _ hE hp hP hD hS (lv_sub hl [7, 8, 9, 6, 5, 4, 3, 2, 1, 0] rfl)
  exact B_M S0 a1 a2 _ _ _ hX hp hP hD hS hl
