def st_X11_begin_141 (S : HS) (x1 x2 : Int32) : (Int32 × HS) ⊕ (HS × Int32 × Int32) := if 8 ≤ x2 then Sum.inl ((0, S)) else Sum.inr ((sA S 34 x2.toNatClampNeg 0), x1, (x2 + 1))
def ps_X11_begin_141 (S : HS) (x1 x2 : Int32) : Prop := (if 8 ≤ x2 then True else (vp_in x2 8) ∧ True)
def lp_X11_begin_141 : Nat → HS → Int32 → Int32 → Int32 × HS
  | 0, S, _, _ => (0, S)
  | n + 1, S, x1, x2 => match st_X11_begin_141 S x1 x2 with
    | Sum.inl r => r
    | Sum.inr q => lp_X11_begin_141 n q.1 q.2.1 q.2.2
def lq_X11_begin_141 : Nat → HS → Int32 → Int32 → Prop
  | 0, _, _, _ => False
  | n + 1, S, x1, x2 => ps_X11_begin_141 S x1 x2 ∧ (match st_X11_begin_141 S x1 x2 with
    | Sum.inl _ => True
    | Sum.inr q => lq_X11_begin_141 n q.1 q.2.1 q.2.2)
def st_X11_begin_120 (S : HS) (x1 x2 : Int32) : (Int32 × HS) ⊕ (HS × Int32 × Int32) := if 90 ≤ x2 then Sum.inl ((lp_X11_begin_141 100000 S x1 0)) else Sum.inr ((sA S 13 x2.toNatClampNeg (vp_nar .boolean 0)), x1, (x2 + 1))
def ps_X11_begin_120 (S : HS) (x1 x2 : Int32) : Prop := (if 90 ≤ x2 then (lq_X11_begin_141 100000 S x1 0) else (vp_in x2 90) ∧ True)
def lp_X11_begin_120 : Nat → HS → Int32 → Int32 → Int32 × HS
  | 0, S, _, _ => (0, S)
  | n + 1, S, x1, x2 => match st_X11_begin_120 S x1 x2 with
    | Sum.inl r => r
    | Sum.inr q => lp_X11_begin_120 n q.1 q.2.1 q.2.2
def lq_X11_begin_120 : Nat → HS → Int32 → Int32 → Prop
  | 0, _, _, _ => False
  | n + 1, S, x1, x2 => ps_X11_begin_120 S x1 x2 ∧ (match st_X11_begin_120 S x1 x2 with
    | Sum.inl _ => True
    | Sum.inr q => lq_X11_begin_120 n q.1 q.2.1 q.2.2)
def b_X11_begin_111 (S : HS) (x1 x2 y0 y1 : Int32) : (Int32 × HS) ⊕ (HS × Int32 × Int32) := Sum.inr ((sA S 12 y1.toNatClampNeg y0), x1, (x2 + 1))
def q_X11_begin_111 (S : HS) (x1 x2 y0 y1 : Int32) : Prop := (vp_in y1 9) ∧ True
def st_X11_begin_89 (S : HS) (x1 x2 : Int32) : (Int32 × HS) ⊕ (HS × Int32 × Int32) := if 9 ≤ x2 then Sum.inl ((lp_X11_begin_120 100000 S x1 0)) else if x2 = 6 then (b_X11_begin_111 S x1 x2 2 x2) else (b_X11_begin_111 S x1 x2 1 x2)
def ps_X11_begin_89 (S : HS) (x1 x2 : Int32) : Prop := (if 9 ≤ x2 then (lq_X11_begin_120 100000 S x1 0) else (if x2 = 6 then (q_X11_begin_111 S x1 x2 2 x2) else (q_X11_begin_111 S x1 x2 1 x2)))
def lp_X11_begin_89 : Nat → HS → Int32 → Int32 → Int32 × HS
  | 0, S, _, _ => (0, S)
  | n + 1, S, x1, x2 => match st_X11_begin_89 S x1 x2 with
    | Sum.inl r => r
    | Sum.inr q => lp_X11_begin_89 n q.1 q.2.1 q.2.2
def lq_X11_begin_89 : Nat → HS → Int32 → Int32 → Prop
  | 0, _, _, _ => False
  | n + 1, S, x1, x2 => ps_X11_begin_89 S x1 x2 ∧ (match st_X11_begin_89 S x1 x2 with
    | Sum.inl _ => True
    | Sum.inr q => lq_X11_begin_89 n q.1 q.2.1 q.2.2)
def st_X11_begin_67 (S : HS) (x1 x2 : Int32) : (Int32 × HS) ⊕ (HS × Int32 × Int32) := if 200 ≤ x2 then Sum.inl ((lp_X11_begin_89 100000 S x1 0)) else Sum.inr ((sA S 11 x2.toNatClampNeg (vp_nar .boolean 0)), x1, (x2 + 1))
def ps_X11_begin_67 (S : HS) (x1 x2 : Int32) : Prop := (if 200 ≤ x2 then (lq_X11_begin_89 100000 S x1 0) else (vp_in x2 200) ∧ True)
def lp_X11_begin_67 : Nat → HS → Int32 → Int32 → Int32 × HS
  | 0, S, _, _ => (0, S)
  | n + 1, S, x1, x2 => match st_X11_begin_67 S x1 x2 with
    | Sum.inl r => r
    | Sum.inr q => lp_X11_begin_67 n q.1 q.2.1 q.2.2
def lq_X11_begin_67 : Nat → HS → Int32 → Int32 → Prop
  | 0, _, _, _ => False
  | n + 1, S, x1, x2 => ps_X11_begin_67 S x1 x2 ∧ (match st_X11_begin_67 S x1 x2 with
    | Sum.inl _ => True
    | Sum.inr q => lq_X11_begin_67 n q.1 q.2.1 q.2.2)
def f_X11_begin (S : HS) (x1 : Int32) : Int32 × HS := (lp_X11_begin_67 100000 (sI (sI (sI (sI (sI (sI (sI (sI (sI (sI (sI (sI (sI S 0 x1) 1 0) 2 (-1)) 3 0) 4 0) 5 (-1)) 6 0) 7 0) 8 0) 9 0) 10 0) 35 0) 39 (-1)) x1 0)
def p_X11_begin (S : HS) (x1 : Int32) : Prop := (lq_X11_begin_67 100000 (sI (sI (sI (sI (sI (sI (sI (sI (sI (sI (sI (sI (sI S 0 x1) 1 0) 2 (-1)) 3 0) 4 0) 5 (-1)) 6 0) 7 0) 8 0) 9 0) 10 0) 35 0) 39 (-1)) x1 0)
def e_X11_begin : List Cond := [.fieldLink RX11 96 "MotionFloorModel$Hall" "seats" "I", .fieldLink RX11 100 "MotionFloorModel$Hall" "there" "I", .fieldLink RX11 103 "MotionFloorModel$Hall" "chair" "I", .fieldLink RX11 106 "MotionFloorModel$Hall" "quorum" "I", .fieldLink RX11 109 "MotionFloorModel$Hall" "limit" "I", .fieldLink RX11 112 "MotionFloorModel$Hall" "floor" "I", .fieldLink RX11 115 "MotionFloorModel$Hall" "pending" "I", .fieldLink RX11 118 "MotionFloorModel$Hall" "entries" "I", .fieldLink RX11 121 "MotionFloorModel$Hall" "results" "I", .fieldLink RX11 124 "MotionFloorModel$Hall" "adopted" "I", .fieldLink RX11 127 "MotionFloorModel$Hall" "why" "I", .fieldLink RX11 130 "MotionFloorModel$Hall" "drafted" "I", .fieldLink RX11 133 "MotionFloorModel$Hall" "lastWords" "I", .fieldLink RX11 81 "MotionFloorModel$Hall" "lying" "[I", .fieldLink RX11 19 "MotionFloorModel$Hall" "used" "[Z", .fieldLink RX11 15 "MotionFloorModel$Hall" "majority" "[I", .fieldLink RX11 9 "MotionFloorModel$Hall" "isThere" "[Z"]
def v_X11_begin : List Cond := .code yX11_begin cX11_begin 3 none :: (e_X11_begin ++ (wsX110 ++ []))
theorem te_X11_begin : GoodIn lw_tbl e_X11_begin := wGc z48 (wGc z117 (wGc z133 (wGc z116 (wGc z132 (wGc z118 (wGc z56 (wGc z164 (wGc z166 (wGc z159 (wGc z202 (wGc z86 (wGc z158 (wGc z81 (wGc z79 (wGc z170 (wGc z50 (wG0)))))))))))))))))
theorem t_X11_begin : GoodIn lw_tbl v_X11_begin := wGc z208 (wGa te_X11_begin (wGa zcX11 (wG0)))
set_option maxHeartbeats 4000000 in
set_option maxRecDepth 100000 in
theorem c_X11_begin (l : Launch) (G : va_G) (K : Nat → ClassId) (h : Nat) (g : Nat → Nat) (S0 : HS) (a1 : Int32) (sz : Nat) : Met l yX11_begin v_X11_begin ({ frames := 0, cells := 0, slots := 0, locals := 0 }) (va_Pc [.ref h, .int a1] (hS G K h g sz S0 (p_X11_begin S0 a1))) (va_Qv (fun u : HS => (0, u) = f_X11_begin S0 a1) (hB G K h g (va_A (hW K h g S0) sz)) (va_A (hW K h g S0) sz)) 0 0 (va_A (hW K h g S0) sz) := by
  refine Met.ofW (cc := cX11_begin) (maxL := 3) (ret := none) (by decide) rfl ?_
  intro p e s m args below meth c s₁ B hml hv
  obtain ⟨rfl, ⟨hsz, hP, hK, hD0, hTE⟩, hp⟩ := hv
  have hx := B.exec
  have hb := B.bytes
  have hr := B.returns
  have hts := atoms_spec (ws := v_X11_begin) B.pre
  have t_ := t_X11_begin
  have mw : ∀ w ∈ e_X11_begin, w ∈ v_X11_begin := fun w h => List.mem_cons_of_mem _ (List.mem_append_left _ h)
  have hw := fun w (h : w ∈ e_X11_begin) => hts w (mw w h)
  have iX11 : ∀ w ∈ wsX110, w ∈ v_X11_begin := fun w h => List.mem_cons_of_mem _ (List.mem_append_right _ (List.mem_append_left _ h))
  have hown : s.vm.findClass RX11 = some m.cls := findClass_of_methodNamed B.named
  have hlocks := B.notSynchronized
  subst hsz
  have hD := hD0.self (sz := s.heap.size)
  generalize hAe : va_A (hW K h g S0) s.heap.size = A at hD ⊢
  have hA : ∀ q : Nat, s.heap.size ≤ q → A q := fun q h => by rw [← hAe]; exact Or.inr h
  have hS : va_S A s.heap s.heap [] := va_S.rf
  have hl := lv_entry ([.ref h, .int a1]) (n := 3) (Nat.le_of_ble_eq_true rfl)
  rw [lg_entry_eq]
  generalize (lg_sl ([.ref h, .int a1]) ++ List.replicate (3 - (lg_sl ([.ref h, .int a1])).length) Slot.unset).toArray = ls at hl ⊢
  have hl : lv_has ls 3 [(0, .ref h), (1, .int a1)] := hl
  refine wGen (fun Q hQ => ?_)
  obtain ⟨X, hX⟩ : ∃ X, f_X11_begin S0 a1 = X := ⟨_, rfl⟩
  have L_141 : ∀ (n : Nat) (S : HS) (x1 x2 : Int32) (H : Heap) (locs : List Loc) (ls : Array Slot), lp_X11_begin_141 n S x1 x2 = X → lq_X11_begin_141 n S x1 x2 → va_P G vwCl (hW K h g S) H → va_D A (hW K h g S) → va_S A s.heap H locs → lv_has ls 3 [(0, .ref h), (1, .int x1), (2, .int x2)] → W p l e ({ frames := 0, cells := 0, slots := 0, locals := 0 } : Room) s m #[Value.ref h, Value.int a1] below meth c H locs 0 0 Q (F0 m 141 ls []) := by
    intro n1
    induction n1 with
    | zero => intro S x1 x2 H locs ls hE hp; exact False.elim hp
    | succ n1 ih1 =>
      intro S x1 x2 H locs ls hO1 hp hP hD hS hl
      rw [lp_X11_begin_141] at hO1
      rw [lq_X11_begin_141] at hp
      obtain ⟨hp, hq1⟩ := hp
      generalize hE : st_X11_begin_141 S x1 x2 = Y1 at hO1 hq1
      unfold st_X11_begin_141 at hE
      unfold ps_X11_begin_141 at hp
      refine lv_iload_n hx hb dX11_begin_141 rfl (lv_at hl 2 rfl) ?_
      refine lv_bipush (v := 8) hx hb dX11_begin_142 (by decide) ?_
      refine lv_icmp_ge (tgt := 160) hx hb dX11_begin_144 (by decide) (fun c4 => ?_) (fun c4 => ?_)
      · rw [if_pos c4] at hE hp
        subst hE
        have hE := hO1
        dsimp only at hE
        subst hQ
        exact W.vret hx hb hr (fun t ht hW => ⟨⟨S, rfl, hE.trans hX.symm, by rw [ht]; exact hP, hD⟩, hS.F ht⟩) hS.2.2 dX11_begin_160
      · rw [if_neg c4] at hE hp
        refine lv_aload_n hx hb dX11_begin_147 rfl (lv_at hl 0 rfl) ?_
        refine va_get (D := G) (ci := 8) (v := .ref (g 34)) (C := RX11) (T := TX11) (N := 42) hx hb hts iX11 hown hK hP 0 rfl rfl 34 (by decide) (hw (.fieldLink RX11 81 "MotionFloorModel$Hall" "lying" "[I") (List.mem_of_getElem? (i := 13) rfl)) (fun _ h9 => h9) rfl dX11_begin_148 ?_
        refine lv_iload_n hx hb dX11_begin_151 rfl (lv_at hl 2 rfl) ?_
        refine lv_iconst (v := 0) hx hb dX11_begin_152 (by decide) ?_
        obtain ⟨h5, hp⟩ := hp
        refine va_iast hx hb hK hP hD hS 23 0 rfl rfl h5 dX11_begin_153 (fun H locs hP hD hS => ?_)
        rw [sA_34] at hP hD
        refine lv_iinc (v := (x2 + 1)) (lv' := [(2, .int (x2 + 1)), (0, .ref h), (1, .int x1)]) hx hb dX11_begin_154 hl (k := 2) rfl rfl (by decide) rfl (fun ls hl => ?_)
        refine lv_goto (tgt := 141) hx hb dX11_begin_157 (by decide) ?_
        subst hE
        dsimp only at hO1 hq1
        exact ih1 (sA S 34 x2.toNatClampNeg 0) x1 (x2 + 1) _ _ _ hO1 hq1 hP hD hS (lv_sub hl [1, 2, 0] rfl)
  have L_120 : ∀ (n : Nat) (S : HS) (x1 x2 : Int32) (H : Heap) (locs : List Loc) (ls : Array Slot), lp_X11_begin_120 n S x1 x2 = X → lq_X11_begin_120 n S x1 x2 → va_P G vwCl (hW K h g S) H → va_D A (hW K h g S) → va_S A s.heap H locs → lv_has ls 3 [(0, .ref h), (1, .int x1), (2, .int x2)] → W p l e ({ frames := 0, cells := 0, slots := 0, locals := 0 } : Room) s m #[Value.ref h, Value.int a1] below meth c H locs 0 0 Q (F0 m 120 ls []) := by
    intro n1
    induction n1 with
    | zero => intro S x1 x2 H locs ls hE hp; exact False.elim hp
    | succ n1 ih1 =>
      intro S x1 x2 H locs ls hO1 hp hP hD hS hl
      rw [lp_X11_begin_120] at hO1
      rw [lq_X11_begin_120] at hp
      obtain ⟨hp, hq1⟩ := hp
      generalize hE : st_X11_begin_120 S x1 x2 = Y1 at hO1 hq1
      unfold st_X11_begin_120 at hE
      unfold ps_X11_begin_120 at hp
      refine lv_iload_n hx hb dX11_begin_120 rfl (lv_at hl 2 rfl) ?_
      refine lv_bipush (v := 90) hx hb dX11_begin_121 (by decide) ?_
      refine lv_icmp_ge (tgt := 139) hx hb dX11_begin_123 (by decide) (fun c3 => ?_) (fun c3 => ?_)
      · rw [if_pos c3] at hE hp
        subst hE
        have hE := hO1
        dsimp only at hE
        refine lv_iconst (v := 0) hx hb dX11_begin_139 (by decide) ?_
        refine lv_istore_n (lv' := [(2, .int 0), (0, .ref h), (1, .int x1)]) hx hb dX11_begin_140 rfl hl (by decide) rfl (fun ls hl => ?_)
        exact L_141 100000 S x1 0 _ _ _ hE hp hP hD hS (lv_sub hl [1, 2, 0] rfl)
      · rw [if_neg c3] at hE hp
        refine lv_aload_n hx hb dX11_begin_126 rfl (lv_at hl 0 rfl) ?_
        refine va_get (D := G) (ci := 8) (v := .ref (g 13)) (C := RX11) (T := TX11) (N := 42) hx hb hts iX11 hown hK hP 0 rfl rfl 13 (by decide) (hw (.fieldLink RX11 19 "MotionFloorModel$Hall" "used" "[Z") (List.mem_of_getElem? (i := 14) rfl)) (fun _ h9 => h9) rfl dX11_begin_127 ?_
        refine lv_iload_n hx hb dX11_begin_130 rfl (lv_at hl 2 rfl) ?_
        refine lv_iconst (v := 0) hx hb dX11_begin_131 (by decide) ?_
        obtain ⟨h6, hp⟩ := hp
        refine va_zast hx hb hK hP hD hS 3 1 rfl rfl h6 dX11_begin_132 (fun H locs hP hD hS => ?_)
        rw [sA_13] at hP hD
        refine lv_iinc (v := (x2 + 1)) (lv' := [(2, .int (x2 + 1)), (0, .ref h), (1, .int x1)]) hx hb dX11_begin_133 hl (k := 2) rfl rfl (by decide) rfl (fun ls hl => ?_)
        refine lv_goto (tgt := 120) hx hb dX11_begin_136 (by decide) ?_
        subst hE
        dsimp only at hO1 hq1
        exact ih1 (sA S 13 x2.toNatClampNeg (vp_nar .boolean 0)) x1 (x2 + 1) _ _ _ hO1 hq1 hP hD hS (lv_sub hl [1, 2, 0] rfl)
  have L_89 : ∀ (n : Nat) (S : HS) (x1 x2 : Int32) (H : Heap) (locs : List Loc) (ls : Array Slot), lp_X11_begin_89 n S x1 x2 = X → lq_X11_begin_89 n S x1 x2 → va_P G vwCl (hW K h g S) H → va_D A (hW K h g S) → va_S A s.heap H locs → lv_has ls 3 [(0, .ref h), (1, .int x1), (2, .int x2)] → W p l e ({ frames := 0, cells := 0, slots := 0, locals := 0 } : Room) s m #[Value.ref h, Value.int a1] below meth c H locs 0 0 Q (F0 m 89 ls []) := by
    intro n1
    induction n1 with
    | zero => intro S x1 x2 H locs ls hE hp; exact False.elim hp
    | succ n1 ih1 =>
      intro S x1 x2 H locs ls hO1 hp hP hD hS hl
      rw [lp_X11_begin_89] at hO1
      rw [lq_X11_begin_89] at hp
      obtain ⟨hp, hq1⟩ := hp
      generalize hE : st_X11_begin_89 S x1 x2 = Y1 at hO1 hq1
      unfold st_X11_begin_89 at hE
      unfold ps_X11_begin_89 at hp
      have B_111 : ∀ (S : HS) (x1 x2 y0 y1 : Int32) (H : Heap) (locs : List Loc) (ls : Array Slot), b_X11_begin_111 S x1 x2 y0 y1 = Y1 → q_X11_begin_111 S x1 x2 y0 y1 → va_P G vwCl (hW K h g S) H → va_D A (hW K h g S) → va_S A s.heap H locs → lv_has ls 3 [(0, .ref h), (1, .int x1), (2, .int x2)] → W p l e ({ frames := 0, cells := 0, slots := 0, locals := 0 } : Room) s m #[Value.ref h, Value.int a1] below meth c H locs 0 0 Q (F0 m 111 ls [.int y0, .int y1, .ref (g 12)]) := by
        intro S x1 x2 y0 y1 H locs ls hE hp hP hD hS hl
        unfold b_X11_begin_111 at hE
        unfold q_X11_begin_111 at hp
        obtain ⟨h8, hp⟩ := hp
        refine va_iast hx hb hK hP hD hS 2 0 rfl rfl h8 dX11_begin_111 (fun H locs hP hD hS => ?_)
        rw [sA_12] at hP hD
        refine lv_iinc (v := (x2 + 1)) (lv' := [(2, .int (x2 + 1)), (0, .ref h), (1, .int x1)]) hx hb dX11_begin_112 hl (k := 2) rfl rfl (by decide) rfl (fun ls hl => ?_)
        refine lv_goto (tgt := 89) hx hb dX11_begin_115 (by decide) ?_
        subst hE
        dsimp only at hO1 hq1
        exact ih1 (sA S 12 y1.toNatClampNeg y0) x1 (x2 + 1) _ _ _ hO1 hq1 hP hD hS (lv_sub hl [1, 2, 0] rfl)
      refine lv_iload_n hx hb dX11_begin_89 rfl (lv_at hl 2 rfl) ?_
      refine lv_bipush (v := 9) hx hb dX11_begin_90 (by decide) ?_
      refine lv_icmp_ge (tgt := 118) hx hb dX11_begin_92 (by decide) (fun c2 => ?_) (fun c2 => ?_)
      · rw [if_pos c2] at hE hp
        subst hE
        have hE := hO1
        dsimp only at hE
        refine lv_iconst (v := 0) hx hb dX11_begin_118 (by decide) ?_
        refine lv_istore_n (lv' := [(2, .int 0), (0, .ref h), (1, .int x1)]) hx hb dX11_begin_119 rfl hl (by decide) rfl (fun ls hl => ?_)
        exact L_120 100000 S x1 0 _ _ _ hE hp hP hD hS (lv_sub hl [1, 2, 0] rfl)
      · rw [if_neg c2] at hE hp
        refine lv_aload_n hx hb dX11_begin_95 rfl (lv_at hl 0 rfl) ?_
        refine va_get (D := G) (ci := 8) (v := .ref (g 12)) (C := RX11) (T := TX11) (N := 42) hx hb hts iX11 hown hK hP 0 rfl rfl 12 (by decide) (hw (.fieldLink RX11 15 "MotionFloorModel$Hall" "majority" "[I") (List.mem_of_getElem? (i := 15) rfl)) (fun _ h9 => h9) rfl dX11_begin_96 ?_
        refine lv_iload_n hx hb dX11_begin_99 rfl (lv_at hl 2 rfl) ?_
        refine lv_iload_n hx hb dX11_begin_100 rfl (lv_at hl 2 rfl) ?_
        refine lv_bipush (v := 6) hx hb dX11_begin_101 (by decide) ?_
        refine lv_icmp_ne (tgt := 110) hx hb dX11_begin_103 (by decide) (fun c7 => ?_) (fun c7 => ?_)
        · rw [if_neg c7] at hE hp
          refine lv_iconst (v := 1) hx hb dX11_begin_110 (by decide) ?_
          exact B_111 S x1 x2 1 x2 _ _ _ hE hp hP hD hS (lv_sub hl [0, 1, 2] rfl)
        · rw [if_pos c7] at hE hp
          refine lv_iconst (v := 2) hx hb dX11_begin_106 (by decide) ?_
          refine lv_goto (tgt := 111) hx hb dX11_begin_107 (by decide) ?_
          exact B_111 S x1 x2 2 x2 _ _ _ hE hp hP hD hS (lv_sub hl [0, 1, 2] rfl)
  have L_67 : ∀ (n : Nat) (S : HS) (x1 x2 : Int32) (H : Heap) (locs : List Loc) (ls : Array Slot), lp_X11_begin_67 n S x1 x2 = X → lq_X11_begin_67 n S x1 x2 → va_P G vwCl (hW K h g S) H → va_D A (hW K h g S) → va_S A s.heap H locs → lv_has ls 3 [(0, .ref h), (1, .int x1), (2, .int x2)] → W p l e ({ frames := 0, cells := 0, slots := 0, locals := 0 } : Room) s m #[Value.ref h, Value.int a1] below meth c H locs 0 0 Q (F0 m 67 ls []) := by
    intro n1
    induction n1 with
    | zero => intro S x1 x2 H locs ls hE hp; exact False.elim hp
    | succ n1 ih1 =>
      intro S x1 x2 H locs ls hO1 hp hP hD hS hl
      rw [lp_X11_begin_67] at hO1
      rw [lq_X11_begin_67] at hp
      obtain ⟨hp, hq1⟩ := hp
      generalize hE : st_X11_begin_67 S x1 x2 = Y1 at hO1 hq1
      unfold st_X11_begin_67 at hE
      unfold ps_X11_begin_67 at hp
      refine lv_iload_n hx hb dX11_begin_67 rfl (lv_at hl 2 rfl) ?_
      refine lv_sipush (v := 200) hx hb dX11_begin_68 (by decide) ?_
      refine lv_icmp_ge (tgt := 87) hx hb dX11_begin_71 (by decide) (fun c1 => ?_) (fun c1 => ?_)
      · rw [if_pos c1] at hE hp
        subst hE
        have hE := hO1
        dsimp only at hE
        refine lv_iconst (v := 0) hx hb dX11_begin_87 (by decide) ?_
        refine lv_istore_n (lv' := [(2, .int 0), (0, .ref h), (1, .int x1)]) hx hb dX11_begin_88 rfl hl (by decide) rfl (fun ls hl => ?_)
        exact L_89 100000 S x1 0 _ _ _ hE hp hP hD hS (lv_sub hl [1, 2, 0] rfl)
      · rw [if_neg c1] at hE hp
        refine lv_aload_n hx hb dX11_begin_74 rfl (lv_at hl 0 rfl) ?_
        refine va_get (D := G) (ci := 8) (v := .ref (g 11)) (C := RX11) (T := TX11) (N := 42) hx hb hts iX11 hown hK hP 0 rfl rfl 11 (by decide) (hw (.fieldLink RX11 9 "MotionFloorModel$Hall" "isThere" "[Z") (List.mem_of_getElem? (i := 16) rfl)) (fun _ h9 => h9) rfl dX11_begin_75 ?_
        refine lv_iload_n hx hb dX11_begin_78 rfl (lv_at hl 2 rfl) ?_
        refine lv_iconst (v := 0) hx hb dX11_begin_79 (by decide) ?_
        obtain ⟨h9, hp⟩ := hp
        refine va_zast hx hb hK hP hD hS 1 1 rfl rfl h9 dX11_begin_80 (fun H locs hP hD hS => ?_)
        rw [sA_11] at hP hD
        refine lv_iinc (v := (x2 + 1)) (lv' := [(2, .int (x2 + 1)), (0, .ref h), (1, .int x1)]) hx hb dX11_begin_81 hl (k := 2) rfl rfl (by decide) rfl (fun ls hl => ?_)
        refine lv_goto (tgt := 67) hx hb dX11_begin_84 (by decide) ?_
        subst hE
        dsimp only at hO1 hq1
        exact ih1 (sA S 11 x2.toNatClampNeg (vp_nar .boolean 0)) x1 (x2 + 1) _ _ _ hO1 hq1 hP hD hS (lv_sub hl [1, 2, 0] rfl)
  have B_M : ∀ (S : HS) (x1 : Int32) (H : Heap) (locs : List Loc) (ls : Array Slot), f_X11_begin S x1 = X → p_X11_begin S x1 → va_P G vwCl (hW K h g S) H → va_D A (hW K h g S) → va_S A s.heap H locs → lv_has ls 3 [(0, .ref h), (1, .int x1)] → W p l e ({ frames := 0, cells := 0, slots := 0, locals := 0 } : Room) s m #[Value.ref h, Value.int a1] below meth c H locs 0 0 Q (F0 m 0 ls []) := by
    intro S x1 H locs ls hE hp hP hD hS hl
    unfold f_X11_begin at hE
    unfold p_X11_begin at hp
    refine lv_aload_n hx hb dX11_begin_0 rfl (lv_at hl 0 rfl) ?_
    refine lv_iload_n hx hb dX11_begin_1 rfl (lv_at hl 1 rfl) ?_
    refine va_put (D := G) (ci := 8) (v := .int x1) (ty := .int) (C := RX11) (T := TX11) (N := 42) hx hb hts iX11 tyX11 tyX11_ok nmX11 hown hK hP hD hS 0 rfl rfl 0 (by decide) (hw (.fieldLink RX11 96 "MotionFloorModel$Hall" "seats" "I") (List.mem_of_getElem? (i := 0) rfl)) (fun _ h9 => h9) rfl (by decide +kernel) rfl rfl (Nat.le_of_ble_eq_true rfl) dX11_begin_2 (fun H locs hP hD hS => ?_)
    rw [sI_0] at hP hD
    refine lv_aload_n hx hb dX11_begin_5 rfl (lv_at hl 0 rfl) ?_
    refine lv_iconst (v := 0) hx hb dX11_begin_6 (by decide) ?_
    refine va_put (D := G) (ci := 8) (v := .int 0) (ty := .int) (C := RX11) (T := TX11) (N := 42) hx hb hts iX11 tyX11 tyX11_ok nmX11 hown hK hP hD hS 0 rfl rfl 1 (by decide) (hw (.fieldLink RX11 100 "MotionFloorModel$Hall" "there" "I") (List.mem_of_getElem? (i := 1) rfl)) (fun _ h9 => h9) rfl (by decide +kernel) rfl rfl (Nat.le_of_ble_eq_true rfl) dX11_begin_7 (fun H locs hP hD hS => ?_)
    rw [sI_1] at hP hD
    refine lv_aload_n hx hb dX11_begin_10 rfl (lv_at hl 0 rfl) ?_
    refine lv_iconst (v := (-1)) hx hb dX11_begin_11 (by decide) ?_
    refine va_put (D := G) (ci := 8) (v := .int (-1)) (ty := .int) (C := RX11) (T := TX11) (N := 42) hx hb hts iX11 tyX11 tyX11_ok nmX11 hown hK hP hD hS 0 rfl rfl 2 (by decide) (hw (.fieldLink RX11 103 "MotionFloorModel$Hall" "chair" "I") (List.mem_of_getElem? (i := 2) rfl)) (fun _ h9 => h9) rfl (by decide +kernel) rfl rfl (Nat.le_of_ble_eq_true rfl) dX11_begin_12 (fun H locs hP hD hS => ?_)
    rw [sI_2] at hP hD
    refine lv_aload_n hx hb dX11_begin_15 rfl (lv_at hl 0 rfl) ?_
    refine lv_iconst (v := 0) hx hb dX11_begin_16 (by decide) ?_
    refine va_put (D := G) (ci := 8) (v := .int 0) (ty := .int) (C := RX11) (T := TX11) (N := 42) hx hb hts iX11 tyX11 tyX11_ok nmX11 hown hK hP hD hS 0 rfl rfl 3 (by decide) (hw (.fieldLink RX11 106 "MotionFloorModel$Hall" "quorum" "I") (List.mem_of_getElem? (i := 3) rfl)) (fun _ h9 => h9) rfl (by decide +kernel) rfl rfl (Nat.le_of_ble_eq_true rfl) dX11_begin_17 (fun H locs hP hD hS => ?_)
    rw [sI_3] at hP hD
    refine lv_aload_n hx hb dX11_begin_20 rfl (lv_at hl 0 rfl) ?_
    refine lv_iconst (v := 0) hx hb dX11_begin_21 (by decide) ?_
    refine va_put (D := G) (ci := 8) (v := .int 0) (ty := .int) (C := RX11) (T := TX11) (N := 42) hx hb hts iX11 tyX11 tyX11_ok nmX11 hown hK hP hD hS 0 rfl rfl 4 (by decide) (hw (.fieldLink RX11 109 "MotionFloorModel$Hall" "limit" "I") (List.mem_of_getElem? (i := 4) rfl)) (fun _ h9 => h9) rfl (by decide +kernel) rfl rfl (Nat.le_of_ble_eq_true rfl) dX11_begin_22 (fun H locs hP hD hS => ?_)
    rw [sI_4] at hP hD
    refine lv_aload_n hx hb dX11_begin_25 rfl (lv_at hl 0 rfl) ?_
    refine lv_iconst (v := (-1)) hx hb dX11_begin_26 (by decide) ?_
    refine va_put (D := G) (ci := 8) (v := .int (-1)) (ty := .int) (C := RX11) (T := TX11) (N := 42) hx hb hts iX11 tyX11 tyX11_ok nmX11 hown hK hP hD hS 0 rfl rfl 5 (by decide) (hw (.fieldLink RX11 112 "MotionFloorModel$Hall" "floor" "I") (List.mem_of_getElem? (i := 5) rfl)) (fun _ h9 => h9) rfl (by decide +kernel) rfl rfl (Nat.le_of_ble_eq_true rfl) dX11_begin_27 (fun H locs hP hD hS => ?_)
    rw [sI_5] at hP hD
    refine lv_aload_n hx hb dX11_begin_30 rfl (lv_at hl 0 rfl) ?_
    refine lv_iconst (v := 0) hx hb dX11_begin_31 (by decide) ?_
    refine va_put (D := G) (ci := 8) (v := .int 0) (ty := .int) (C := RX11) (T := TX11) (N := 42) hx hb hts iX11 tyX11 tyX11_ok nmX11 hown hK hP hD hS 0 rfl rfl 6 (by decide) (hw (.fieldLink RX11 115 "MotionFloorModel$Hall" "pending" "I") (List.mem_of_getElem? (i := 6) rfl)) (fun _ h9 => h9) rfl (by decide +kernel) rfl rfl (Nat.le_of_ble_eq_true rfl) dX11_begin_32 (fun H locs hP hD hS => ?_)
    rw [sI_6] at hP hD
    refine lv_aload_n hx hb dX11_begin_35 rfl (lv_at hl 0 rfl) ?_
    refine lv_iconst (v := 0) hx hb dX11_begin_36 (by decide) ?_
    refine va_put (D := G) (ci := 8) (v := .int 0) (ty := .int) (C := RX11) (T := TX11) (N := 42) hx hb hts iX11 tyX11 tyX11_ok nmX11 hown hK hP hD hS 0 rfl rfl 7 (by decide) (hw (.fieldLink RX11 118 "MotionFloorModel$Hall" "entries" "I") (List.mem_of_getElem? (i := 7) rfl)) (fun _ h9 => h9) rfl (by decide +kernel) rfl rfl (Nat.le_of_ble_eq_true rfl) dX11_begin_37 (fun H locs hP hD hS => ?_)
    rw [sI_7] at hP hD
    refine lv_aload_n hx hb dX11_begin_40 rfl (lv_at hl 0 rfl) ?_
    refine lv_iconst (v := 0) hx hb dX11_begin_41 (by decide) ?_
    refine va_put (D := G) (ci := 8) (v := .int 0) (ty := .int) (C := RX11) (T := TX11) (N := 42) hx hb hts iX11 tyX11 tyX11_ok nmX11 hown hK hP hD hS 0 rfl rfl 8 (by decide) (hw (.fieldLink RX11 121 "MotionFloorModel$Hall" "results" "I") (List.mem_of_getElem? (i := 8) rfl)) (fun _ h9 => h9) rfl (by decide +kernel) rfl rfl (Nat.le_of_ble_eq_true rfl) dX11_begin_42 (fun H locs hP hD hS => ?_)
    rw [sI_8] at hP hD
    refine lv_aload_n hx hb dX11_begin_45 rfl (lv_at hl 0 rfl) ?_
    refine lv_iconst (v := 0) hx hb dX11_begin_46 (by decide) ?_
    refine va_put (D := G) (ci := 8) (v := .int 0) (ty := .int) (C := RX11) (T := TX11) (N := 42) hx hb hts iX11 tyX11 tyX11_ok nmX11 hown hK hP hD hS 0 rfl rfl 9 (by decide) (hw (.fieldLink RX11 124 "MotionFloorModel$Hall" "adopted" "I") (List.mem_of_getElem? (i := 9) rfl)) (fun _ h9 => h9) rfl (by decide +kernel) rfl rfl (Nat.le_of_ble_eq_true rfl) dX11_begin_47 (fun H locs hP hD hS => ?_)
    rw [sI_9] at hP hD
    refine lv_aload_n hx hb dX11_begin_50 rfl (lv_at hl 0 rfl) ?_
    refine lv_iconst (v := 0) hx hb dX11_begin_51 (by decide) ?_
    refine va_put (D := G) (ci := 8) (v := .int 0) (ty := .int) (C := RX11) (T := TX11) (N := 42) hx hb hts iX11 tyX11 tyX11_ok nmX11 hown hK hP hD hS 0 rfl rfl 10 (by decide) (hw (.fieldLink RX11 127 "MotionFloorModel$Hall" "why" "I") (List.mem_of_getElem? (i := 10) rfl)) (fun _ h9 => h9) rfl (by decide +kernel) rfl rfl (Nat.le_of_ble_eq_true rfl) dX11_begin_52 (fun H locs hP hD hS => ?_)
    rw [sI_10] at hP hD
    refine lv_aload_n hx hb dX11_begin_55 rfl (lv_at hl 0 rfl) ?_
    refine lv_iconst (v := 0) hx hb dX11_begin_56 (by decide) ?_
    refine va_put (D := G) (ci := 8) (v := .int 0) (ty := .int) (C := RX11) (T := TX11) (N := 42) hx hb hts iX11 tyX11 tyX11_ok nmX11 hown hK hP hD hS 0 rfl rfl 35 (by decide) (hw (.fieldLink RX11 130 "MotionFloorModel$Hall" "drafted" "I") (List.mem_of_getElem? (i := 11) rfl)) (fun _ h9 => h9) rfl (by decide +kernel) rfl rfl (Nat.le_of_ble_eq_true rfl) dX11_begin_57 (fun H locs hP hD hS => ?_)
    rw [sI_35] at hP hD
    refine lv_aload_n hx hb dX11_begin_60 rfl (lv_at hl 0 rfl) ?_
    refine lv_iconst (v := (-1)) hx hb dX11_begin_61 (by decide) ?_
    refine va_put (D := G) (ci := 8) (v := .int (-1)) (ty := .int) (C := RX11) (T := TX11) (N := 42) hx hb hts iX11 tyX11 tyX11_ok nmX11 hown hK hP hD hS 0 rfl rfl 39 (by decide) (hw (.fieldLink RX11 133 "MotionFloorModel$Hall" "lastWords" "I") (List.mem_of_getElem? (i := 12) rfl)) (fun _ h9 => h9) rfl (by decide +kernel) rfl rfl (Nat.le_of_ble_eq_true rfl) dX11_begin_62 (fun H locs hP hD hS => ?_)
    rw [sI_39] at hP hD
    refine lv_iconst (v := 0) hx hb dX11_begin_65 (by decide) ?_
    refine lv_istore_n (lv' := [(2, .int 0), (0, .ref h), (1, .int x1)]) hx hb dX11_begin_66 rfl hl (by decide) rfl (fun ls hl => ?_)
    exact L_67 100000 (sI (sI (sI (sI (sI (sI (sI (sI (sI (sI (sI (sI (sI S 0 x1) 1 0) 2 (-1)) 3 0) 4 0) 5 (-1)) 6 0) 7 0) 8 0) 9 0) 10 0) 35 0) 39 (-1)) x1 0 _ _ _ hE hp hP hD hS (lv_sub hl [1, 2, 0] rfl)
  exact B_M S0 a1 _ _ _ hX hp hP hD hS hl
