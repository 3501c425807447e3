def st_X11_begin_141 (S : HS) (x1 x2 : Int32) : (Int32 × HS) ⊕ (HS × Int32 × Int32) := if 8 ≤ x2 then Sum.inl ((0, S)) else Sum.inr ((sA S 34 x2.toNatClampNeg 0), x1, (x2 + 1))
def ps_X11_begin_141 (S : HS) (x1 x2 : Int32) : Prop := (if 8 ≤ x2 then True else (vp_in x2 8) ∧ True)
def lp_X11_begin_141 : Nat → HS → Int32 → Int32 → Int32 × HS
  | 0, S, _, _ => (0, S)
  | n + 1, S, x1, x2 => match st_X11_begin_141 S x1 x2 with
    | Sum.inl r => r
    | Sum.inr q => lp_X11_begin_141 n q.1 q.2.1 q.2.2
def lq_X11_begin_141 : Nat → HS → Int32 → Int32 → Prop
  | 0, _, _, _ => False
  | n + 1, S, x1, x2 => ps_X11_begin_141 S x1 x2 ∧ (match st_X11_begin_141 S x1 x2 with
    | Sum.inl _ => True
    | Sum.inr q => lq_X11_begin_141 n q.1 q.2.1 q.2.2)
def st_X11_begin_120 (S : HS) (x1 x2 : Int32) : (Int32 × HS) ⊕ (HS × Int32 × Int32) := if 90 ≤ x2 then Sum.inl ((lp_X11_begin_141 100000 S x1 0)) else Sum.inr ((sA S 13 x2.toNatClampNeg (vp_nar .boolean 0)), x1, (x2 + 1))
def ps_X11_begin_120 (S : HS) (x1 x2 : Int32) : Prop := (if 90 ≤ x2 then (lq_X11_begin_141 100000 S x1 0) else (vp_in x2 90) ∧ True)
def lp_X11_begin_120 : Nat → HS → Int32 → Int32 → Int32 × HS
  | 0, S, _, _ => (0, S)
  | n + 1, S, x1, x2 => match st_X11_begin_120 S x1 x2 with
    | Sum.inl r => r
    | Sum.inr q => lp_X11_begin_120 n q.1 q.2.1 q.2.2
def lq_X11_begin_120 : Nat → HS → Int32 → Int32 → Prop
  | 0, _, _, _ => False
  | n + 1, S, x1, x2 => ps_X11_begin_120 S x1 x2 ∧ (match st_X11_begin_120 S x1 x2 with
    | Sum.inl _ => True
    | Sum.inr q => lq_X11_begin_120 n q.1 q.2.1 q.2.2)
def b_X11_begin_111 (S : HS) (x1 x2 y0 y1 : Int32) : (Int32 × HS) ⊕ (HS × Int32 × Int32) := Sum.inr ((sA S 12 y1.toNatClampNeg y0), x1, (x2 + 1))
def q_X11_begin_111 (S : HS) (x1 x2 y0 y1 : Int32) : Prop := (vp_in y1 9) ∧ True
def st_X11_begin_89 (S : HS) (x1 x2 : Int32) : (Int32 × HS) ⊕ (HS × Int32 × Int32) := if 9 ≤ x2 then Sum.inl ((lp_X11_begin_120 100000 S x1 0)) else if x2 = 6 then (b_X11_begin_111 S x1 x2 2 x2) else (b_X11_begin_111 S x1 x2 1 x2)
def ps_X11_begin_89 (S : HS) (x1 x2 : Int32) : Prop := (if 9 ≤ x2 then (lq_X11_begin_120 100000 S x1 0) else (if x2 = 6 then (q_X11_begin_111 S x1 x2 2 x2) else (q_X11_begin_111 S x1 x2 1 x2)))
def lp_X11_begin_89 : Nat → HS → Int32 → Int32 → Int32 × HS
  | 0, S, _, _ => (0, S)
  | n + 1, S, x1, x2 => match st_X11_begin_89 S x1 x2 with
    | Sum.inl r => r
    | Sum.inr q => lp_X11_begin_89 n q.1 q.2.1 q.2.2
def lq_X11_begin_89 : Nat → HS → Int32 → Int32 → Prop
  | 0, _, _, _ => False
  | n + 1, S, x1, x2 => ps_X11_begin_89 S x1 x2 ∧ (match st_X11_begin_89 S x1 x2 with
    | Sum.inl _ => True
    | Sum.inr q => lq_X11_begin_89 n q.1 q.2.1 q.2.2)
def st_X11_begin_67 (S : HS) (x1 x2 : Int32) : (Int32 × HS) ⊕ (HS × Int32 × Int32) := if 200 ≤ x2 then Sum.inl ((lp_X11_begin_89 100000 S x1 0)) else Sum.inr ((sA S 11 x2.toNatClampNeg (vp_nar .boolean 0)), x1, (x2 + 1))
def ps_X11_begin_67 (S : HS) (x1 x2 : Int32) : Prop := (if 200 ≤ x2 then (lq_X11_begin_89 100000 S x1 0) else (vp_in x2 200) ∧ True)
def lp_X11_begin_67 : Nat → HS → Int32 → Int32 → Int32 × HS
  | 0, S, _, _ => (0, S)
  | n + 1, S, x1, x2 => match st_X11_begin_67 S x1 x2 with
    | Sum.inl r => r
    | Sum.inr q => lp_X11_begin_67 n q.1 q.2.1 q.2.2
def lq_X11_begin_67 : Nat → HS → Int32 → Int32 → Prop
  | 0, _, _, _ => False
  | n + 1, S, x1, x2 => ps_X11_begin_67 S x1 x2 ∧ (match st_X11_begin_67 S x1 x2 with
    | Sum.inl _ => True
    | Sum.inr q => lq_X11_begin_67 n q.1 q.2.1 q.2.2)
def f_X11_begin (S : HS) (x1 : Int32) : Int32 × HS := (lp_X11_begin_67 100000 (sI (sI (sI (sI (sI (sI (sI (sI (sI (sI (sI (sI (sI S 0 x1) 1 0) 2 (-1)) 3 0) 4 0) 5 (-1)) 6 0) 7 0) 8 0) 9 0) 10 0) 35 0) 39 (-1)) x1 0)
def p_X11_begin (S : HS) (x1 : Int32) : Prop := (lq_X11_begin_67 100000 (sI (sI (sI (sI (sI (sI (sI (sI (sI (sI (sI (sI (sI S 0 x1) 1 0) 2 (-1)) 3 0) 4 0) 5 (-1)) 6 0) 7 0) 8 0) 9 0) 10 0) 35 0) 39 (-1)) x1 0)
def e_X11_begin : List Cond := [.fieldLink RX11 96 "MotionFloorModel$Hall" "seats" "I", .fieldLink RX11 100 "MotionFloorModel$Hall" "there" "I", .fieldLink RX11 103 "MotionFloorModel$Hall" "chair" "I", .fieldLink RX11 106 "MotionFloorModel$Hall" "quorum" "I", .fieldLink RX11 109 "MotionFloorModel$Hall" "limit" "I", .fieldLink RX11 112 "MotionFloorModel$Hall" "floor" "I", .fieldLink RX11 115 "MotionFloorModel$Hall" "pending" "I", .fieldLink RX11 118 "MotionFloorModel$Hall" "entries" "I", .fieldLink RX11 121 "MotionFloorModel$Hall" "results" "I", .fieldLink RX11 124 "MotionFloorModel$Hall" "adopted" "I", .fieldLink RX11 127 "MotionFloorModel$Hall" "why" "I", .fieldLink RX11 130 "MotionFloorModel$Hall" "drafted" "I", .fieldLink RX11 133 "MotionFloorModel$Hall" "lastWords" "I", .fieldLink RX11 81 "MotionFloorModel$Hall" "lying" "[I", .fieldLink RX11 19 "MotionFloorModel$Hall" "used" "[Z", .fieldLink RX11 15 "MotionFloorModel$Hall" "majority" "[I", .fieldLink RX11 9 "MotionFloorModel$Hall" "isThere" "[Z"]
def v_X11_begin : List Cond := .code yX11_begin cX11_begin 3 none :: (e_X11_begin ++ (wsX110 ++ []))
theorem te_X11_begin : GoodIn lw_tbl e_X11_begin := wGc z48 (wGc z117 (wGc z133 (wGc z116 (wGc z132 (wGc z118 (wGc z56 (wGc z164 (wGc z166 (wGc z159 (wGc z202 (wGc z86 (wGc z158 (wGc z81 (wGc z79 (wGc z170 (wGc z50 (wG0)))))))))))))))))
theorem t_X11_begin : GoodIn lw_tbl v_X11_begin := wGc z208 (wGa te_X11_begin (wGa zcX11 (wG0)))
set_option maxHeartbeats 4000000 in
set_option maxRecDepth 100000 in
theorem c_X11_begin (l : Launch) (G : va_G) (K : Nat → ClassId) (h : Nat) (g : Nat → Nat) (S0 : HS) (a1 : Int32) (sz : Nat) : Met l yX11_begin v_X11_begin ({ frames := 0, cells := 0, slots := 0, locals := 0 }) (va_Pc [.ref h, .int a1] (hS G K h g sz S0 (p_X11_begin S0 a1))) (va_Qv (fun u : HS => (0, u) = f_X11_begin S0 a1) (hB G K h g (va_A (hW K h g S0) sz)) (va_A (hW K h g S0) sz)) 0 0 (va_A (hW K h g S0) sz) := by
  refine Met.ofW (cc := cX11_begin) (maxL := 3) (ret := none) (by decide) rfl ?_
  intro p e s m args below meth c s₁ B hml hv
  obtain ⟨rfl, ⟨hsz, hP, hK, hD0, hTE⟩, hp⟩ := hv
  have hx := B.exec
  have hb := B.bytes
  have hr := B.returns
  have hts := atoms_spec (ws := v_X11_begin) B.pre
  have t_ := t_X11_begin
  have mw : ∀ w ∈ e_X11_begin, w ∈ v_X11_begin := fun w h => List.mem_cons_of_mem _ (List.mem_append_left _ h)
  have hw := fun w (h : w ∈ e_X11_begin) => hts w (mw w h)
  have iX11 : ∀ w ∈ wsX110, w ∈ v_X11_begin := fun w h => List.mem_cons_of_mem _ (List.mem_append_right _ (List.mem_append_left _ h))
  have hown : s.vm.findClass RX11 = some m.cls := findClass_of_methodNamed B.named
  have hlocks := B.notSynchronized
  subst hsz
  have hD := hD0.self (sz := s.heap.size)
  generalize hAe : va_A (hW K h g S0) s.heap.size = A at hD ⊢
  have hA : ∀ q : Nat, s.heap.size ≤ q → A q := fun q h => by rw [← hAe]; exact Or.inr h
  have hS : va_S A s.heap s.heap [] := va_S.rf
  have hl := lv_entry ([.ref h, .int a1]) (n := 3) (Nat.le_of_ble_eq_true rfl)
  rw [lg_entry_eq]
  generalize (lg_sl ([.ref h, .int a1]) ++ List.replicate (3 - (lg_sl ([.ref h, .int a1])).length) Slot.unset).toArray = ls at hl ⊢
  have hl : lv_has ls 3 [(0, .ref h), (1, .int a1)] := hl
  refine wGen (fun Q hQ => ?_)
  obtain ⟨X, hX⟩ : ∃ X, f_X11_begin S0 a1 = X := ⟨_, rfl⟩
  have L_141 : ∀ (n : Nat) (S : HS) (x1 x2 : Int32) (H : Heap) (locs : List Loc) (ls : Array Slot), lp_X11_begin_141 n S x1 x2 = X → lq_X11_begin_141 n S x1 x2 → va_P G vwCl (hW K h g S) H → va_D A (hW K h g S) → va_S A s.heap H locs → lv_has ls 3 [(0, .ref h), (1, .int x1), (2, .int x2)] → W p l e ({ frames := 0, cells := 0, slots := 0, locals := 0 } : Room) s m #[Value.ref h, Value.int a1] below meth c H locs 0 0 Q (F0 m 141 ls []) := by
    intro n1
    induction n1 with
    | zero => intro S x1 x2 H locs ls hE hp; exact False.elim hp
    | succ n1 ih1 =>
      intro S x1 x2 H locs ls hO1 hp hP hD hS hl
      rw [lp_X11_begin_141] at hO1
      rw [lq_X11_begin_141] at hp
      obtain ⟨hp, hq1⟩ := hp
      generalize hE : st_X11_begin_141 S x1 x2 = Y1 at hO1 hq1
      unfold st_X11_begin_141 at hE
      unfold ps_X11_begin_141 at hp
      refine lv_iload_n hx hb dX11_begin_141 rfl (lv_at hl 2 rfl) ?_
      refine lv_bipush (v := 8) hx hb dX11_begin_142 (by decide) ?_
      refine lv_icmp_ge (tgt := 160) hx hb dX11_begin_144 (by decide) (fun c4 => ?_) (fun c4 => ?_)
      · rw [if_pos c4] at hE hp
        subst hE
        have hE := hO1
        dsimp only at hE
        subst hQ
        exact W.vret hx hb hr (fun t ht hW => ⟨⟨S, rfl, hE.trans hX.symm, by rw [ht]; exact hP, hD⟩, hS.F ht⟩) hS.2.2 dX11_begin_160
      · rw [if_neg c4] at hE hp
        refine lv_aload_n hx hb dX11_begin_147 rfl (lv_at hl 0 rfl) ?_
        refine va_get (D := G) (ci := 8) (v := .ref (g 34)) (C := RX11) (T := TX11) (N := 42) hx hb hts iX11 hown hK hP 0 rfl rfl 34 (by decide) (hw (.fieldLink RX11 81 "MotionFloorModel$Hall" "lying" "[I") (List.mem_of_getElem? (i := 13) rfl)) (fun _ h9 => h9) rfl dX11_begin_148 ?_
        refine lv_iload_n hx hb dX11_begin_151 rfl (lv_at hl 2 rfl) ?_
        refine lv_iconst (v := 0) hx hb dX11_begin_152 (by decide) ?_
        obtain ⟨hy5, hp⟩ := hp
        refine va_iast hx hb hK hP hD hS 23 0 rfl rfl hy5 dX11_begin_153 (fun H locs hP hD hS => ?_)
        rw [sA_34] at hP hD
        refine lv_iinc (v := (x2 + 1)) (lv' := [(2, .int (x2 + 1)), (0, .ref h), (1, .int x1)]) hx hb dX11_begin_154 hl (k := 2) rfl rfl (by decide) rfl (fun ls hl => ?_)
        refine lv_goto (tgt := 141) hx hb dX11_begin_157 (by decide) ?_
        subst hE
        dsimp only at hO1 hq1
        exact ih1 (sA S 34 x2.toNatClampNeg 0) x1 (x2 + 1) _ _ _ hO1 hq1 hP hD hS (lv_sub hl [1, 2, 0] rfl)
  have L_120 : ∀ (n : Nat) (S : HS) (x1 x2 : Int32) (H : Heap) (locs : List Loc) (ls : Array Slot), lp_X11_begin_120 n S x1 x2 = X → lq_X11_begin_120 n S x1 x2 → va_P G vwCl (hW K h g S) H → va_D A (hW K h g S) → va_S A s.heap H locs → lv_has ls 3 [(0, .ref h), (1, .int x1), (2, .int x2)] → W p l e ({ frames := 0, cells := 0, slots := 0, locals := 0 } : Room) s m #[Value.ref h, Value.int a1] below meth c H locs 0 0 Q (F0 m 120 ls []) := by
    intro n1
    induction n1 with
    | zero => intro S x1 x2 H locs ls hE hp; exact False.elim hp
    | succ n1 ih1 =>
      intro S x1 x2 H locs ls hO1 hp hP hD hS hl
      rw [lp_X11_begin_120] at hO1
      rw [lq_X11_begin_120] at hp
      obtain ⟨hp, hq1⟩ := hp
      generalize hE : st_X11_begin_120 S x1 x2 = Y1 at hO1 hq1
      unfold st_X11_begin_120 at hE
      unfold ps_X11_begin_120 at hp
      refine lv_iload_n hx hb dX11_begin_120 rfl (lv_at hl 2 rfl) ?_
      refine lv_bipush (v := 90) hx hb dX11_begin_121 (by decide) ?_
      refine lv_icmp_ge (tgt := 139) hx hb dX11_begin_123 (by decide) (fun c3 => ?_) (fun c3 => ?_)
      · rw [if_pos c3] at hE hp
        subst hE
        have hE := hO1
        dsimp only at hE
        refine lv_iconst (v := 0) hx hb dX11_begin_139 (by decide) ?_
        refine lv_istore_n (lv' := [(2, .int 0), (0, .ref h), (1, .int x1)]) hx hb dX11_begin_140 rfl hl (by decide) rfl (fun ls hl => ?_)
        exact L_141 100000 S x1 0 _ _ _ hE hp hP hD hS (lv_sub hl [1, 2, 0] rfl)
      · rw [if_neg c3] at hE hp
        refine lv_aload_n hx hb dX11_begin_126 rfl (lv_at hl 0 rfl) ?_
        refine va_get (D := G) (ci := 8) (v := .ref (g 13)) (C := RX11) (T := TX11) (N := 42) hx hb hts iX11 hown hK hP 0 rfl rfl 13 (by decide) (hw (.fieldLink RX11 19 "MotionFloorModel$Hall" "used" "[Z") (List.mem_of_getElem? (i := 14) rfl)) (fun _ h9 => h9) rfl dX11_begin_127 ?_
        refine lv_iload_n hx hb dX11_begin_130 rfl (lv_at hl 2 rfl) ?_
        refine lv_iconst (v := 0) hx hb dX11_begin_131 (by decide) ?_
        obtain ⟨hy6, hp⟩ := hp
        refine va_zast hx hb hK hP hD hS 3 1 rfl rfl hy6 dX11_begin_132 (fun H locs hP hD hS => ?_)
        rw [sA_13] at hP hD
        refine lv_iinc (v := (x2 + 1)) (lv' := [(2, .int (x2 + 1)), (0, .ref h), (1, .int x1)]) hx hb dX11_begin_133 hl (k := 2) rfl rfl (by decide) rfl (fun ls hl => ?_)
        refine lv_goto (tgt := 120) hx hb dX11_begin_136 (by decide) ?_
        subst hE
        dsimp only at hO1 hq1
        exact ih1 (sA S 13 x2.toNatClampNeg (vp_nar .boolean 0)) x1 (x2 + 1) _ _ _ hO1 hq1 hP hD hS (lv_sub hl [1, 2, 0] rfl)
  have L_89 : ∀ (n : Nat) (S : HS) (x1 x2 : Int32) (H : Heap) (locs : List Loc) (ls : Array Slot), lp_X11_begin_89 n S x1 x2 = X → lq_X11_begin_89 n S x1 x2 → va_P G vwCl (hW K h g S) H → va_D A (hW K h g S) → va_S A s.heap H locs → lv_has ls 3 [(0, .ref h), (1, .int x1), (2, .int x2)] → W p l e ({ frames := 0, cells := 0, slots := 0, locals := 0 } : Room) s m #[Value.ref h, Value.int a1] below meth c H locs 0 0 Q (F0 m 89 ls []) := by
    intro n1
    induction n1 with
    | zero => intro S x1 x2 H locs ls hE hp; exact False.elim hp
    | succ n1 ih1 =>
      intro S x1 x2 H locs ls hO1 hp hP hD hS hl
      rw [lp_X11_begin_89] at hO1
      rw [lq_X11_begin_89] at hp
      obtain ⟨hp, hq1⟩ := hp
      generalize hE : st_X11_begin_89 S x1 x2 = Y1 at hO1 hq1
      unfold st_X11_begin_89 at hE
      unfold ps_X11_begin_89 at hp
      have B_111 : ∀ (S : HS) (x1 x2 y0 y1 : Int32) (H : Heap) (locs : List Loc) (ls : Array Slot), b_X11_begin_111 S x1 x2 y0 y1 = Y1 → q_X11_begin_111 S x1 x2 y0 y1 → va_P G vwCl (hW K h g S) H → va_D A (hW K h g S) → va_S A s.heap H locs → lv_has ls 3 [(0, .ref h), (1, .int x1), (2, .int x2)] → W p l e ({ frames := 0, cells := 0, slots := 0, locals := 0 } : Room) s m #[Value.ref h, Value.int a1] below meth c H locs 0 0 Q (F0 m 111 ls [.int y0, .int y1, .ref (g 12)]) := by
        intro S x1 x2 y0 y1 H locs ls hE hp hP hD hS hl
        unfold b_X11_begin_111 at hE
        unfold q_X11_begin_111 at hp
        obtain ⟨hy8, hp⟩ := hp
        refine va_iast hx hb hK hP hD hS 2 0 rfl rfl hy8 dX11_begin_111 (fun H locs hP hD hS => ?_)
        rw [sA_12] at hP hD
        refine lv_iinc (v := (x2 + 1)) (lv' := [(2, .int (x2 + 1)), (0, .ref h), (1, .int x1)]) hx hb dX11_begin_112 hl (k := 2) rfl rfl (by decide) rfl (fun ls hl => ?_)
        refine lv_goto (tgt := 89) hx hb dX11_begin_115 (by decide) ?_
        subst hE
        dsimp only at hO1 hq1
        exact ih1 (sA S 12 y1.toNatClampNeg y0) x1 (x2 + 1) _ _ _ hO1 hq1 hP hD hS (lv_sub hl [1, 2, 0] rfl)
      refine lv_iload_n hx hb dX11_begin_89 rfl (lv_at hl 2 rfl) ?_
      refine lv_bipush (v := 9) hx hb dX11_begin_90 (by decide) ?_
      refine lv_icmp_ge (tgt := 118) hx hb dX11_begin_92 (by decide) (fun c2 => ?_) (fun c2 => ?_)
      · rw [if_pos c2] at hE hp
        subst hE
        have hE := hO1
        dsimp only at hE
        refine lv_iconst (v := 0) hx hb dX11_begin_118 (by decide) ?_
        refine lv_istore_n (lv' := [(2, .int 0), (0, .ref h), (1, .int x1)]) hx hb dX11_begin_119 rfl hl (by decide) rfl (fun ls hl => ?_)
        exact L_120 100000 S x1 0 _ _ _ hE hp hP hD hS (lv_sub hl [1, 2, 0] rfl)
      · rw [if_neg c2] at hE hp
        refine lv_aload_n hx hb dX11_begin_95 rfl (lv_at hl 0 rfl) ?_
        refine va_get (D := G) (ci := 8) (v := .ref (g 12)) (C := RX11) (T := TX11) (N := 42) hx hb hts iX11 hown hK hP 0 rfl rfl 12 (by decide) (hw (.fieldLink RX11 15 "MotionFloorModel$Hall" "majority" "[I") (List.mem_of_getElem? (i := 15) rfl)) (fun _ h9 => h9) rfl dX11_begin_96 ?_
        refine lv_iload_n hx hb dX11_begin_99 rfl (lv_at hl 2 rfl) ?_
        refine lv_iload_n hx hb dX11_begin_100 rfl (lv_at hl 2 rfl) ?_
        refine lv_bipush (v := 6) hx hb dX11_begin_101 (by decide) ?_
        refine lv_icmp_ne (tgt := 110) hx hb dX11_begin_103 (by decide) (fun c7 => ?_) (fun c7 => ?_)
        · rw [if_neg c7] at hE hp
          refine lv_iconst (v := 1) hx hb dX11_begin_110 (by decide) ?_
          exact B_111 S x1 x2 1 x2 _ _ _ hE hp hP hD hS (lv_sub hl [0, 1, 2] rfl)
        · rw [if_pos c7] at hE hp
          refine lv_iconst (v := 2) hx hb dX11_begin_106 (by decide) ?_
          refine lv_goto (tgt := 111) hx hb dX11_begin_107 (by decide) ?_
          exact B_111 S x1 x2 2 x2 _ _ _ hE hp hP hD hS (lv_sub hl [0, 1, 2] rfl)
  have L_67 : ∀ (n : Nat) (S : HS) (x1 x2 : Int32) (H : Heap) (locs : List Loc) (ls : Array Slot), lp_X11_begin_67 n S x1 x2 = X → lq_X11_begin_67 n S x1 x2 → va_P G vwCl (hW K h g S) H → va_D A (hW K h g S) → va_S A s.heap H locs → lv_has ls 3 [(0, .ref h), (1, .int x1), (2, .int x2)] → W p l e ({ frames := 0, cells := 0, slots := 0, locals := 0 } : Room) s m #[Value.ref h, Value.int a1] below meth c H locs 0 0 Q (F0 m 67 ls []) := by
    intro n1
    induction n1 with
    | zero => intro S x1 x2 H locs ls hE hp; exact False.elim hp
    | succ n1 ih1 =>
      intro S x1 x2 H locs ls hO1 hp hP hD hS hl
      rw [lp_X11_begin_67] at hO1
      rw [lq_X11_begin_67] at hp
      obtain ⟨hp, hq1⟩ := hp
      generalize hE : st_X11_begin_67 S x1 x2 = Y1 at hO1 hq1
      unfold st_X11_begin_67 at hE
      unfold ps_X11_begin_67 at hp
      refine lv_iload_n hx hb dX11_begin_67 rfl (lv_at hl 2 rfl) ?_
      refine lv_sipush (v := 200) hx hb dX11_begin_68 (by decide) ?_
      refine lv_icmp_ge (tgt := 87) hx hb dX11_begin_71 (by decide) (fun c1 => ?_) (fun c1 => ?_)
      · rw [if_pos c1] at hE hp
        subst hE
        have hE := hO1
        dsimp only at hE
        refine lv_iconst (v := 0) hx hb dX11_begin_87 (by decide) ?_
        refine lv_istore_n (lv' := [(2, .int 0), (0, .ref h), (1, .int x1)]) hx hb dX11_begin_88 rfl hl (by decide) rfl (fun ls hl => ?_)
        exact L_89 100000 S x1 0 _ _ _ hE hp hP hD hS (lv_sub hl [1, 2, 0] rfl)
      · rw [if_neg c1] at hE hp
        refine lv_aload_n hx hb dX11_begin_74 rfl (lv_at hl 0 rfl) ?_
        refine va_get (D := G) (ci := 8) (v := .ref (g 11)) (C := RX11) (T := TX11) (N := 42) hx hb hts iX11 hown hK hP 0 rfl rfl 11 (by decide) (hw (.fieldLink RX11 9 "MotionFloorModel$Hall" "isThere" "[Z") (List.mem_of_getElem? (i := 16) rfl)) (fun _ h9 => h9) rfl dX11_begin_75 ?_
        refine lv_iload_n hx hb dX11_begin_78 rfl (lv_at hl 2 rfl) ?_
        refine lv_iconst (v := 0) hx hb dX11_begin_79 (by decide) ?_
        obtain ⟨hy9, hp⟩ := hp
        refine va_zast hx hb hK hP hD hS 1 1 rfl rfl hy9 dX11_begin_80 (fun H locs hP hD hS => ?_)
        rw [sA_11] at hP hD
        refine lv_iinc (v := (x2 + 1)) (lv' := [(2, .int (x2 + 1)), (0, .ref h), (1, .int x1)]) hx hb dX11_begin_81 hl (k := 2) rfl rfl (by decide) rfl (fun ls hl => ?_)
        refine lv_goto (tgt := 67) hx hb dX11_begin_84 (by decide) ?_
        subst hE
        dsimp only at hO1 hq1
        exact ih1 (sA S 11 x2.toNatClampNeg (vp_nar .boolean 0)) x1 (x2 + 1) _ _ _ hO1 hq1 hP hD hS (lv_sub hl [1, 2, 0] rfl)
  have B_M : ∀ (S : HS) (x1 : Int32) (H : Heap) (locs : List Loc) (ls : Array Slot), f_X11_begin S x1 = X → p_X11_begin S x1 → va_P G vwCl (hW K h g S) H → va_D A (hW K h g S) → va_S A s.heap H locs → lv_has ls 3 [(0, .ref h), (1, .int x1)] → W p l e ({ frames := 0, cells := 0, slots := 0, locals := 0 } : Room) s m #[Value.ref h, Value.int a1] below meth c H locs 0 0 Q (F0 m 0 ls []) := by
    intro S x1 H locs ls hE hp hP hD hS hl
    unfold f_X11_begin at hE
    unfold p_X11_begin at hp
    refine lv_aload_n hx hb dX11_begin_0 rfl (lv_at hl 0 rfl) ?_
    refine lv_iload_n hx hb dX11_begin_1 rfl (lv_at hl 1 rfl) ?_
    refine va_put (D := G) (ci := 8) (v := .int x1) (ty := .int) (C := RX11) (T := TX11) (N := 42) hx hb hts iX11 tyX11 tyX11_ok nmX11 hown hK hP hD hS 0 rfl rfl 0 (by decide) (hw (.fieldLink RX11 96 "MotionFloorModel$Hall" "seats" "I") (List.mem_of_getElem? (i := 0) rfl)) (fun _ h9 => h9) rfl (by decide +kernel) rfl rfl (Nat.le_of_ble_eq_true rfl) dX11_begin_2 (fun H locs hP hD hS => ?_)
    rw [sI_0] at hP hD
    refine lv_aload_n hx hb dX11_begin_5 rfl (lv_at hl 0 rfl) ?_
    refine lv_iconst (v := 0) hx hb dX11_begin_6 (by decide) ?_
    refine va_put (D := G) (ci := 8) (v := .int 0) (ty := .int) (C := RX11) (T := TX11) (N := 42) hx hb hts iX11 tyX11 tyX11_ok nmX11 hown hK hP hD hS 0 rfl rfl 1 (by decide) (hw (.fieldLink RX11 100 "MotionFloorModel$Hall" "there" "I") (List.mem_of_getElem? (i := 1) rfl)) (fun _ h9 => h9) rfl (by decide +kernel) rfl rfl (Nat.le_of_ble_eq_true rfl) dX11_begin_7 (fun H locs hP hD hS => ?_)
    rw [sI_1] at hP hD
    refine lv_aload_n hx hb dX11_begin_10 rfl (lv_at hl 0 rfl) ?_
    refine lv_iconst (v := (-1)) hx hb dX11_begin_11 (by decide) ?_
    refine va_put (D := G) (ci := 8) (v := .int (-1)) (ty := .int) (C := RX11) (T := TX11) (N := 42) hx hb hts iX11 tyX11 tyX11_ok nmX11 hown hK hP hD hS 0 rfl rfl 2 (by decide) (hw (.fieldLink RX11 103 "MotionFloorModel$Hall" "chair" "I") (List.mem_of_getElem? (i := 2) rfl)) (fun _ h9 => h9) rfl (by decide +kernel) rfl rfl (Nat.le_of_ble_eq_true rfl) dX11_begin_12 (fun H locs hP hD hS => ?_)
    rw [sI_2] at hP hD
    refine lv_aload_n hx hb dX11_begin_15 rfl (lv_at hl 0 rfl) ?_
    refine lv_iconst (v := 0) hx hb dX11_begin_16 (by decide) ?_
    refine va_put (D := G) (ci := 8) (v := .int 0) (ty := .int) (C := RX11) (T := TX11) (N := 42) hx hb hts iX11 tyX11 tyX11_ok nmX11 hown hK hP hD hS 0 rfl rfl 3 (by decide) (hw (.fieldLink RX11 106 "MotionFloorModel$Hall" "quorum" "I") (List.mem_of_getElem? (i := 3) rfl)) (fun _ h9 => h9) rfl (by decide +kernel) rfl rfl (Nat.le_of_ble_eq_true rfl) dX11_begin_17 (fun H locs hP hD hS => ?_)
    rw [sI_3] at hP hD
    refine lv_aload_n hx hb dX11_begin_20 rfl (lv_at hl 0 rfl) ?_
    refine lv_iconst (v := 0) hx hb dX11_begin_21 (by decide) ?_
    refine va_put (D := G) (ci := 8) (v := .int 0) (ty := .int) (C := RX11) (T := TX11) (N := 42) hx hb hts iX11 tyX11 tyX11_ok nmX11 hown hK hP hD hS 0 rfl rfl 4 (by decide) (hw (.fieldLink RX11 109 "MotionFloorModel$Hall" "limit" "I") (List.mem_of_getElem? (i := 4) rfl)) (fun _ h9 => h9) rfl (by decide +kernel) rfl rfl (Nat.le_of_ble_eq_true rfl) dX11_begin_22 (fun H locs hP hD hS => ?_)
    rw [sI_4] at hP hD
    refine lv_aload_n hx hb dX11_begin_25 rfl (lv_at hl 0 rfl) ?_
    refine lv_iconst (v := (-1)) hx hb dX11_begin_26 (by decide) ?_
    refine va_put (D := G) (ci := 8) (v := .int (-1)) (ty := .int) (C := RX11) (T := TX11) (N := 42) hx hb hts iX11 tyX11 tyX11_ok nmX11 hown hK hP hD hS 0 rfl rfl 5 (by decide) (hw (.fieldLink RX11 112 "MotionFloorModel$Hall" "floor" "I") (List.mem_of_getElem? (i := 5) rfl)) (fun _ h9 => h9) rfl (by decide +kernel) rfl rfl (Nat.le_of_ble_eq_true rfl) dX11_begin_27 (fun H locs hP hD hS => ?_)
    rw [sI_5] at hP hD
    refine lv_aload_n hx hb dX11_begin_30 rfl (lv_at hl 0 rfl) ?_
    refine lv_iconst (v := 0) hx hb dX11_begin_31 (by decide) ?_
    refine va_put (D := G) (ci := 8) (v := .int 0) (ty := .int) (C := RX11) (T := TX11) (N := 42) hx hb hts iX11 tyX11 tyX11_ok nmX11 hown hK hP hD hS 0 rfl rfl 6 (by decide) (hw (.fieldLink RX11 115 "MotionFloorModel$Hall" "pending" "I") (List.mem_of_getElem? (i := 6) rfl)) (fun _ h9 => h9) rfl (by decide +kernel) rfl rfl (Nat.le_of_ble_eq_true rfl) dX11_begin_32 (fun H locs hP hD hS => ?_)
    rw [sI_6] at hP hD
    refine lv_aload_n hx hb dX11_begin_35 rfl (lv_at hl 0 rfl) ?_
    refine lv_iconst (v := 0) hx hb dX11_begin_36 (by decide) ?_
    refine va_put (D := G) (ci := 8) (v := .int 0) (ty := .int) (C := RX11) (T := TX11) (N := 42) hx hb hts iX11 tyX11 tyX11_ok nmX11 hown hK hP hD hS 0 rfl rfl 7 (by decide) (hw (.fieldLink RX11 118 "MotionFloorModel$Hall" "entries" "I") (List.mem_of_getElem? (i := 7) rfl)) (fun _ h9 => h9) rfl (by decide +kernel) rfl rfl (Nat.le_of_ble_eq_true rfl) dX11_begin_37 (fun H locs hP hD hS => ?_)
    rw [sI_7] at hP hD
    refine lv_aload_n hx hb dX11_begin_40 rfl (lv_at hl 0 rfl) ?_
    refine lv_iconst (v := 0) hx hb dX11_begin_41 (by decide) ?_
    refine va_put (D := G) (ci := 8) (v := .int 0) (ty := .int) (C := RX11) (T := TX11) (N := 42) hx hb hts iX11 tyX11 tyX11_ok nmX11 hown hK hP hD hS 0 rfl rfl 8 (by decide) (hw (.fieldLink RX11 121 "MotionFloorModel$Hall" "results" "I") (List.mem_of_getElem? (i := 8) rfl)) (fun _ h9 => h9) rfl (by decide +kernel) rfl rfl (Nat.le_of_ble_eq_true rfl) dX11_begin_42 (fun H locs hP hD hS => ?_)
    rw [sI_8] at hP hD
    refine lv_aload_n hx hb dX11_begin_45 rfl (lv_at hl 0 rfl) ?_
    refine lv_iconst (v := 0) hx hb dX11_begin_46 (by decide) ?_
    refine va_put (D := G) (ci := 8) (v := .int 0) (ty := .int) (C := RX11) (T := TX11) (N := 42) hx hb hts iX11 tyX11 tyX11_ok nmX11 hown hK hP hD hS 0 rfl rfl 9 (by decide) (hw (.fieldLink RX11 124 "MotionFloorModel$Hall" "adopted" "I") (List.mem_of_getElem? (i := 9) rfl)) (fun _ h9 => h9) rfl (by decide +kernel) rfl rfl (Nat.le_of_ble_eq_true rfl) dX11_begin_47 (fun H locs hP hD hS => ?_)
    rw [sI_9] at hP hD
    refine lv_aload_n hx hb dX11_begin_50 rfl (lv_at hl 0 rfl) ?_
    refine lv_iconst (v := 0) hx hb dX11_begin_51 (by decide) ?_
    refine va_put (D := G) (ci := 8) (v := .int 0) (ty := .int) (C := RX11) (T := TX11) (N := 42) hx hb hts iX11 tyX11 tyX11_ok nmX11 hown hK hP hD hS 0 rfl rfl 10 (by decide) (hw (.fieldLink RX11 127 "MotionFloorModel$Hall" "why" "I") (List.mem_of_getElem? (i := 10) rfl)) (fun _ h9 => h9) rfl (by decide +kernel) rfl rfl (Nat.le_of_ble_eq_true rfl) dX11_begin_52 (fun H locs hP hD hS => ?_)
    rw [sI_10] at hP hD
    refine lv_aload_n hx hb dX11_begin_55 rfl (lv_at hl 0 rfl) ?_
    refine lv_iconst (v := 0) hx hb dX11_begin_56 (by decide) ?_
    refine va_put (D := G) (ci := 8) (v := .int 0) (ty := .int) (C := RX11) (T := TX11) (N := 42) hx hb hts iX11 tyX11 tyX11_ok nmX11 hown hK hP hD hS 0 rfl rfl 35 (by decide) (hw (.fieldLink RX11 130 "MotionFloorModel$Hall" "drafted" "I") (List.mem_of_getElem? (i := 11) rfl)) (fun _ h9 => h9) rfl (by decide +kernel) rfl rfl (Nat.le_of_ble_eq_true rfl) dX11_begin_57 (fun H locs hP hD hS => ?_)
    rw [sI_35] at hP hD
    refine lv_aload_n hx hb dX11_begin_60 rfl (lv_at hl 0 rfl) ?_
    refine lv_iconst (v := (-1)) hx hb dX11_begin_61 (by decide) ?_
    refine va_put (D := G) (ci := 8) (v := .int (-1)) (ty := .int) (C := RX11) (T := TX11) (N := 42) hx hb hts iX11 tyX11 tyX11_ok nmX11 hown hK hP hD hS 0 rfl rfl 39 (by decide) (hw (.fieldLink RX11 133 "MotionFloorModel$Hall" "lastWords" "I") (List.mem_of_getElem? (i := 12) rfl)) (fun _ h9 => h9) rfl (by decide +kernel) rfl rfl (Nat.le_of_ble_eq_true rfl) dX11_begin_62 (fun H locs hP hD hS => ?_)
    rw [sI_39] at hP hD
    refine lv_iconst (v := 0) hx hb dX11_begin_65 (by decide) ?_
    refine lv_istore_n (lv' := [(2, .int 0), (0, .ref h), (1, .int x1)]) hx hb dX11_begin_66 rfl hl (by decide) rfl (fun ls hl => ?_)
    exact L_67 100000 (sI (sI (sI (sI (sI (sI (sI (sI (sI (sI (sI (sI (sI S 0 x1) 1 0) 2 (-1)) 3 0) 4 0) 5 (-1)) 6 0) 7 0) 8 0) 9 0) 10 0) 35 0) 39 (-1)) x1 0 _ _ _ hE hp hP hD hS (lv_sub hl [1, 2, 0] rfl)
  exact B_M S0 a1 _ _ _ hX hp hP hD hS hl
def b_X12_seats_a22 (S : MS) (x1 : Int32) : Int32 × MS := (x1, S)
def q_X12_seats_a22 (S : MS) (x1 : Int32) : Prop := True
def f_X12_seats (S : MS) (x1 : Int32) : Int32 × MS := if (f_X12_in x1 1 200) = 0 then ((-9), S) else (b_X12_seats_a22 (mH S ((f_X11_begin S.2.1 x1).2)) x1)
def p_X12_seats (S : MS) (x1 : Int32) : Prop := (p_X12_in x1 1 200) ∧ (if (f_X12_in x1 1 200) = 0 then True else (p_X11_begin S.2.1 x1) ∧ (q_X12_seats_a22 (mH S ((f_X11_begin S.2.1 x1).2)) x1))
def e_X12_seats : List Cond := [.methodLink RX12 1 yX12_in, .static yX12_in, .initialized RX12, .fieldLink RX12 16 "MotionFloorModel" "hall" "LMotionFloorModel$Hall;", .methodLink RX12 36 yX11_begin, .instanceMethod yX11_begin, .selects RX11 yX11_begin yX11_begin, .initialized RX11]
def v_X12_seats : List Cond := .code yX12_seats cX12_seats 2 (some .int) :: (e_X12_seats ++ (wsX120 ++ (v_X12_in ++ (v_X11_begin ++ []))))
theorem te_X12_seats : GoodIn lw_tbl e_X12_seats := wGc z3 (wGc z2 (wGc z1 (wGc z219 (wGc z218 (wGc z217 (wGc z216 (wGc z51 (wG0))))))))
theorem t_X12_seats : GoodIn lw_tbl v_X12_seats := wGc z220 (wGa te_X12_seats (wGa zcX12 (wGa t_X12_in (wGa t_X11_begin (wG0)))))
set_option maxHeartbeats 4000000 in
set_option maxRecDepth 100000 in
theorem c_X12_seats (l : Launch) (G : va_G) (K : Nat → ClassId) (m0 : Nat) (gm : Nat → Nat) (h1 : Nat) (g1 : Nat → Nat) (h2 : Nat) (g2 : Nat → Nat) (S0 : MS) (a1 : Int32) (sz : Nat) : Met l yX12_seats v_X12_seats ({ frames := 1, cells := 0, slots := 0, locals := 22 }) (va_Pc [.ref m0, .int a1] (mSt G K m0 gm h1 g1 h2 g2 sz S0 (p_X12_seats S0 a1))) (va_Qi (fun (r : Int32) (u : MS) => (r, u) = f_X12_seats S0 a1) (mB G K m0 gm h1 g1 h2 g2 (va_A (mW K m0 gm h1 g1 h2 g2 S0) sz)) (va_A (mW K m0 gm h1 g1 h2 g2 S0) sz)) 0 0 (va_A (mW K m0 gm h1 g1 h2 g2 S0) sz) := by
  refine Met.ofW (cc := cX12_seats) (maxL := 2) (ret := (some .int)) (by decide) rfl ?_
  intro p e s m args below meth c s₁ B hml hv
  obtain ⟨rfl, ⟨hsz, hP, hK, hD0, hTE⟩, hp⟩ := hv
  have hx := B.exec
  have hb := B.bytes
  have hr := B.returns
  have hts := atoms_spec (ws := v_X12_seats) B.pre
  have t_ := t_X12_seats
  have mw : ∀ w ∈ e_X12_seats, w ∈ v_X12_seats := fun w h => List.mem_cons_of_mem _ (List.mem_append_left _ h)
  have hw := fun w (h : w ∈ e_X12_seats) => hts w (mw w h)
  have iX12 : ∀ w ∈ wsX120, w ∈ v_X12_seats := fun w h => List.mem_cons_of_mem _ (List.mem_append_right _ (List.mem_append_left _ h))
  have j_X12_in : ∀ w ∈ v_X12_in, w ∈ v_X12_seats := fun w h => List.mem_cons_of_mem _ (List.mem_append_right _ (List.mem_append_right _ (List.mem_append_left _ h)))
  have j_X11_begin : ∀ w ∈ v_X11_begin, w ∈ v_X12_seats := fun w h => List.mem_cons_of_mem _ (List.mem_append_right _ (List.mem_append_right _ (List.mem_append_right _ (List.mem_append_left _ h))))
  have hown : s.vm.findClass RX12 = some m.cls := findClass_of_methodNamed B.named
  have hlocks := B.notSynchronized
  subst hsz
  have hD := hD0.self (sz := s.heap.size)
  generalize hAe : va_A (mW K m0 gm h1 g1 h2 g2 S0) s.heap.size = A at hD ⊢
  have hA : ∀ q : Nat, s.heap.size ≤ q → A q := fun q h => by rw [← hAe]; exact Or.inr h
  have hS : va_S A s.heap s.heap [] := va_S.rf
  have hl := lv_entry ([.ref m0, .int a1]) (n := 2) (Nat.le_of_ble_eq_true rfl)
  rw [lg_entry_eq]
  generalize (lg_sl ([.ref m0, .int a1]) ++ List.replicate (2 - (lg_sl ([.ref m0, .int a1])).length) Slot.unset).toArray = ls at hl ⊢
  have hl : lv_has ls 2 [(0, .ref m0), (1, .int a1)] := hl
  refine wGen (fun Q hQ => ?_)
  obtain ⟨X, hX⟩ : ∃ X, f_X12_seats S0 a1 = X := ⟨_, rfl⟩
  have B_M : ∀ (S : MS) (x1 : Int32) (H : Heap) (locs : List Loc) (ls : Array Slot), f_X12_seats S x1 = X → p_X12_seats S x1 → va_P G vwCl (mW K m0 gm h1 g1 h2 g2 S) H → va_D A (mW K m0 gm h1 g1 h2 g2 S) → va_S A s.heap H locs → lv_has ls 2 [(0, .ref m0), (1, .int x1)] → W p l e ({ frames := 1, cells := 0, slots := 0, locals := 22 } : Room) s m #[Value.ref m0, Value.int a1] below meth c H locs 0 0 Q (F0 m 0 ls []) := by
    intro S x1 H locs ls hE hp hP hD hS hl
    unfold f_X12_seats at hE
    unfold p_X12_seats at hp
    refine lv_iload_n hx hb dX12_seats_0 rfl (lv_at hl 1 rfl) ?_
    refine lv_iconst (v := 1) hx hb dX12_seats_1 (by decide) ?_
    refine lv_sipush (v := 200) hx hb dX12_seats_2 (by decide) ?_
    obtain ⟨hy1, hp⟩ := hp
    refine nGoi (va_runS (As := [.int x1, .int 1, .int 200]) (rest := []) ⟨hx, hb, hml, hown, hts⟩ (c_X12_in l G K x1 1 200 _) (va_cwS 3 hts (wGS t_ (mw (.methodLink RX12 1 yX12_in) (List.mem_of_getElem? (i := 0) rfl)) (mw (.static yX12_in) (List.mem_of_getElem? (i := 1) rfl)) (mw (.initialized RX12) (List.mem_of_getElem? (i := 2) rfl)) j_X12_in) rfl rfl rfl (by decide +kernel) ⟨Nat.le_of_ble_eq_true rfl, Nat.le_of_ble_eq_true rfl⟩) (nPS hK hTE hy1) rfl rfl hl.1 rfl (lv_room (Nat.le_of_ble_eq_true rfl)) dX12_seats_5 ⟨Nat.le_of_ble_eq_true rfl, Nat.le_of_ble_eq_true rfl⟩) hP hS hA (fun r H locs hv hP hS => ?_)
    subst hv
    refine lv_if_ne (tgt := 14) hx hb dX12_seats_8 (by decide) (fun c2 => ?_) (fun c2 => ?_)
    · rw [if_neg c2] at hE hp
      refine lv_aload_n hx hb dX12_seats_14 rfl (lv_at hl 0 rfl) ?_
      refine va_get (D := G) (ci := 9) (v := .ref h1) (C := RX12) (T := TX12) (N := 7) hx hb hts iX12 hown hK hP 0 rfl rfl 0 (by decide) (hw (.fieldLink RX12 16 "MotionFloorModel" "hall" "LMotionFloorModel$Hall;") (List.mem_of_getElem? (i := 3) rfl)) (fun _ h9 => h9) rfl dX12_seats_15 ?_
      refine lv_iload_n hx hb dX12_seats_18 rfl (lv_at hl 1 rfl) ?_
      obtain ⟨hy3, hp⟩ := hp
      refine mGov_h (va_runV (As := [.int x1]) (rest := []) ⟨hx, hb, hml, hown, hts⟩ (c_X11_begin l G K h1 g1 S.2.1 x1 _) (cwV 1 hts (wGV t_ (mw (.methodLink RX12 36 yX11_begin) (List.mem_of_getElem? (i := 4) rfl)) (mw (.instanceMethod yX11_begin) (List.mem_of_getElem? (i := 5) rfl)) (mw (.selects RX11 yX11_begin yX11_begin) (List.mem_of_getElem? (i := 6) rfl)) (mw (.initialized RX11) (List.mem_of_getElem? (i := 7) rfl)) j_X11_begin) rfl rfl rfl (by decide +kernel) ⟨Nat.le_of_ble_eq_true rfl, Nat.le_of_ble_eq_true rfl⟩) (hPV hK hTE (mP_h hP) (mD_h hD) hy3) rfl rfl hl.1 rfl (lv_room (Nat.le_of_ble_eq_true rfl)) dX12_seats_19 ⟨Nat.le_of_ble_eq_true rfl, Nat.le_of_ble_eq_true rfl⟩) hP hD hS hA (fun u4 H locs hv hP hD hS => ?_)
      rw [← hv] at hE hp
      dsimp only at hE hp
      unfold b_X12_seats_a22 at hE
      unfold q_X12_seats_a22 at hp
      refine lv_iload_n hx hb dX12_seats_22 rfl (lv_at hl 1 rfl) ?_
      subst hQ
      exact W.iret (v := x1) hx hb hr (fun t ht hW => ⟨⟨x1, (mH S u4), rfl, hE.trans hX.symm, by rw [ht]; exact hP, hD⟩, hS.F ht⟩) hS.2.2 dX12_seats_23
    · rw [if_pos c2] at hE hp
      refine lv_bipush (v := (-9)) hx hb dX12_seats_11 (by decide) ?_
      subst hQ
      exact W.iret (v := (-9)) hx hb hr (fun t ht hW => ⟨⟨(-9), S, rfl, hE.trans hX.symm, by rw [ht]; exact hP, hD⟩, hS.F ht⟩) hS.2.2 dX12_seats_13
  exact B_M S0 a1 _ _ _ hX hp hP hD hS hl
def b_X12_there_a12 (S : MS) (x1 y0 : Int32) : Int32 × MS := (y0, S)
def q_X12_there_a12 (S : MS) (x1 y0 : Int32) : Prop := True
def f_X12_there (S : MS) (x1 : Int32) : Int32 × MS := (b_X12_there_a12 (mH S ((f_X11_act S.2.1 1 x1 0 0 0).2)) x1 (f_X11_act S.2.1 1 x1 0 0 0).1)
def p_X12_there (S : MS) (x1 : Int32) : Prop := (p_X11_act S.2.1 1 x1 0 0 0) ∧ (q_X12_there_a12 (mH S ((f_X11_act S.2.1 1 x1 0 0 0).2)) x1 (f_X11_act S.2.1 1 x1 0 0 0).1)
def e_X12_there : List Cond := [.fieldLink RX12 16 "MotionFloorModel" "hall" "LMotionFloorModel$Hall;", .methodLink RX12 40 yX11_act, .instanceMethod yX11_act, .selects RX11 yX11_act yX11_act, .initialized RX11]
def v_X12_there : List Cond := .code yX12_there cX12_there 2 (some .int) :: (e_X12_there ++ (wsX120 ++ (v_X11_act ++ [])))
theorem te_X12_there : GoodIn lw_tbl e_X12_there := wGc z219 (wGc z223 (wGc z222 (wGc z221 (wGc z51 (wG0)))))
theorem t_X12_there : GoodIn lw_tbl v_X12_there := wGc z224 (wGa te_X12_there (wGa zcX12 (wGa t_X11_act (wG0))))
set_option maxHeartbeats 4000000 in
set_option maxRecDepth 100000 in
theorem c_X12_there (l : Launch) (G : va_G) (K : Nat → ClassId) (m0 : Nat) (gm : Nat → Nat) (h1 : Nat) (g1 : Nat → Nat) (h2 : Nat) (g2 : Nat → Nat) (S0 : MS) (a1 : Int32) (sz : Nat) : Met l yX12_there v_X12_there ({ frames := 6, cells := 0, slots := 0, locals := 156 }) (va_Pc [.ref m0, .int a1] (mSt G K m0 gm h1 g1 h2 g2 sz S0 (p_X12_there S0 a1))) (va_Qi (fun (r : Int32) (u : MS) => (r, u) = f_X12_there S0 a1) (mB G K m0 gm h1 g1 h2 g2 (va_A (mW K m0 gm h1 g1 h2 g2 S0) sz)) (va_A (mW K m0 gm h1 g1 h2 g2 S0) sz)) 0 0 (va_A (mW K m0 gm h1 g1 h2 g2 S0) sz) := by
  refine Met.ofW (cc := cX12_there) (maxL := 2) (ret := (some .int)) (by decide) rfl ?_
  intro p e s m args below meth c s₁ B hml hv
  obtain ⟨rfl, ⟨hsz, hP, hK, hD0, hTE⟩, hp⟩ := hv
  have hx := B.exec
  have hb := B.bytes
  have hr := B.returns
  have hts := atoms_spec (ws := v_X12_there) B.pre
  have t_ := t_X12_there
  have mw : ∀ w ∈ e_X12_there, w ∈ v_X12_there := fun w h => List.mem_cons_of_mem _ (List.mem_append_left _ h)
  have hw := fun w (h : w ∈ e_X12_there) => hts w (mw w h)
  have iX12 : ∀ w ∈ wsX120, w ∈ v_X12_there := fun w h => List.mem_cons_of_mem _ (List.mem_append_right _ (List.mem_append_left _ h))
  have j_X11_act : ∀ w ∈ v_X11_act, w ∈ v_X12_there := fun w h => List.mem_cons_of_mem _ (List.mem_append_right _ (List.mem_append_right _ (List.mem_append_left _ h)))
  have hown : s.vm.findClass RX12 = some m.cls := findClass_of_methodNamed B.named
  have hlocks := B.notSynchronized
  subst hsz
  have hD := hD0.self (sz := s.heap.size)
  generalize hAe : va_A (mW K m0 gm h1 g1 h2 g2 S0) s.heap.size = A at hD ⊢
  have hA : ∀ q : Nat, s.heap.size ≤ q → A q := fun q h => by rw [← hAe]; exact Or.inr h
  have hS : va_S A s.heap s.heap [] := va_S.rf
  have hl := lv_entry ([.ref m0, .int a1]) (n := 2) (Nat.le_of_ble_eq_true rfl)
  rw [lg_entry_eq]
  generalize (lg_sl ([.ref m0, .int a1]) ++ List.replicate (2 - (lg_sl ([.ref m0, .int a1])).length) Slot.unset).toArray = ls at hl ⊢
  have hl : lv_has ls 2 [(0, .ref m0), (1, .int a1)] := hl
  refine wGen (fun Q hQ => ?_)
  obtain ⟨X, hX⟩ : ∃ X, f_X12_there S0 a1 = X := ⟨_, rfl⟩
  have B_M : ∀ (S : MS) (x1 : Int32) (H : Heap) (locs : List Loc) (ls : Array Slot), f_X12_there S x1 = X → p_X12_there S x1 → va_P G vwCl (mW K m0 gm h1 g1 h2 g2 S) H → va_D A (mW K m0 gm h1 g1 h2 g2 S) → va_S A s.heap H locs → lv_has ls 2 [(0, .ref m0), (1, .int x1)] → W p l e ({ frames := 6, cells := 0, slots := 0, locals := 156 } : Room) s m #[Value.ref m0, Value.int a1] below meth c H locs 0 0 Q (F0 m 0 ls []) := by
    intro S x1 H locs ls hE hp hP hD hS hl
    unfold f_X12_there at hE
    unfold p_X12_there at hp
    refine lv_aload_n hx hb dX12_there_0 rfl (lv_at hl 0 rfl) ?_
    refine va_get (D := G) (ci := 9) (v := .ref h1) (C := RX12) (T := TX12) (N := 7) hx hb hts iX12 hown hK hP 0 rfl rfl 0 (by decide) (hw (.fieldLink RX12 16 "MotionFloorModel" "hall" "LMotionFloorModel$Hall;") (List.mem_of_getElem? (i := 0) rfl)) (fun _ h9 => h9) rfl dX12_there_1 ?_
    refine lv_iconst (v := 1) hx hb dX12_there_4 (by decide) ?_
    refine lv_iload_n hx hb dX12_there_5 rfl (lv_at hl 1 rfl) ?_
    refine lv_iconst (v := 0) hx hb dX12_there_6 (by decide) ?_
    refine lv_iconst (v := 0) hx hb dX12_there_7 (by decide) ?_
    refine lv_iconst (v := 0) hx hb dX12_there_8 (by decide) ?_
    obtain ⟨hy1, hp⟩ := hp
    refine mGoi_h (va_runV (As := [.int 1, .int x1, .int 0, .int 0, .int 0]) (rest := []) ⟨hx, hb, hml, hown, hts⟩ (c_X11_act l G K h1 g1 S.2.1 1 x1 0 0 0 _) (cwV 5 hts (wGV t_ (mw (.methodLink RX12 40 yX11_act) (List.mem_of_getElem? (i := 1) rfl)) (mw (.instanceMethod yX11_act) (List.mem_of_getElem? (i := 2) rfl)) (mw (.selects RX11 yX11_act yX11_act) (List.mem_of_getElem? (i := 3) rfl)) (mw (.initialized RX11) (List.mem_of_getElem? (i := 4) rfl)) j_X11_act) rfl rfl rfl (by decide +kernel) ⟨Nat.le_of_ble_eq_true rfl, Nat.le_of_ble_eq_true rfl⟩) (hPV hK hTE (mP_h hP) (mD_h hD) hy1) rfl rfl hl.1 rfl (lv_room (Nat.le_of_ble_eq_true rfl)) dX12_there_9 ⟨Nat.le_of_ble_eq_true rfl, Nat.le_of_ble_eq_true rfl⟩) hP hD hS hA (fun r3 u2 H locs hv hP hD hS => ?_)
    rw [← hv] at hE hp
    dsimp only at hE hp
    unfold b_X12_there_a12 at hE
    unfold q_X12_there_a12 at hp
    subst hQ
    exact W.iret (v := r3) hx hb hr (fun t ht hW => ⟨⟨r3, (mH S u2), rfl, hE.trans hX.symm, by rw [ht]; exact hP, hD⟩, hS.F ht⟩) hS.2.2 dX12_there_12
  exact B_M S0 a1 _ _ _ hX hp hP hD hS hl
def b_X12_gone_a12 (S : MS) (x1 y0 : Int32) : Int32 × MS := (y0, S)
def q_X12_gone_a12 (S : MS) (x1 y0 : Int32) : Prop := True
def f_X12_gone (S : MS) (x1 : Int32) : Int32 × MS := (b_X12_gone_a12 (mH S ((f_X11_act S.2.1 2 x1 0 0 0).2)) x1 (f_X11_act S.2.1 2 x1 0 0 0).1)
def p_X12_gone (S : MS) (x1 : Int32) : Prop := (p_X11_act S.2.1 2 x1 0 0 0) ∧ (q_X12_gone_a12 (mH S ((f_X11_act S.2.1 2 x1 0 0 0).2)) x1 (f_X11_act S.2.1 2 x1 0 0 0).1)
def e_X12_gone : List Cond := [.fieldLink RX12 16 "MotionFloorModel" "hall" "LMotionFloorModel$Hall;", .methodLink RX12 40 yX11_act, .instanceMethod yX11_act, .selects RX11 yX11_act yX11_act, .initialized RX11]
def v_X12_gone : List Cond := .code yX12_gone cX12_gone 2 (some .int) :: (e_X12_gone ++ (wsX120 ++ (v_X11_act ++ [])))
theorem te_X12_gone : GoodIn lw_tbl e_X12_gone := wGc z219 (wGc z223 (wGc z222 (wGc z221 (wGc z51 (wG0)))))
theorem t_X12_gone : GoodIn lw_tbl v_X12_gone := wGc z225 (wGa te_X12_gone (wGa zcX12 (wGa t_X11_act (wG0))))
set_option maxHeartbeats 4000000 in
set_option maxRecDepth 100000 in
theorem c_X12_gone (l : Launch) (G : va_G) (K : Nat → ClassId) (m0 : Nat) (gm : Nat → Nat) (h1 : Nat) (g1 : Nat → Nat) (h2 : Nat) (g2 : Nat → Nat) (S0 : MS) (a1 : Int32) (sz : Nat) : Met l yX12_gone v_X12_gone ({ frames := 6, cells := 0, slots := 0, locals := 156 }) (va_Pc [.ref m0, .int a1] (mSt G K m0 gm h1 g1 h2 g2 sz S0 (p_X12_gone S0 a1))) (va_Qi (fun (r : Int32) (u : MS) => (r, u) = f_X12_gone S0 a1) (mB G K m0 gm h1 g1 h2 g2 (va_A (mW K m0 gm h1 g1 h2 g2 S0) sz)) (va_A (mW K m0 gm h1 g1 h2 g2 S0) sz)) 0 0 (va_A (mW K m0 gm h1 g1 h2 g2 S0) sz) := by
  refine Met.ofW (cc := cX12_gone) (maxL := 2) (ret := (some .int)) (by decide) rfl ?_
  intro p e s m args below meth c s₁ B hml hv
  obtain ⟨rfl, ⟨hsz, hP, hK, hD0, hTE⟩, hp⟩ := hv
  have hx := B.exec
  have hb := B.bytes
  have hr := B.returns
  have hts := atoms_spec (ws := v_X12_gone) B.pre
  have t_ := t_X12_gone
  have mw : ∀ w ∈ e_X12_gone, w ∈ v_X12_gone := fun w h => List.mem_cons_of_mem _ (List.mem_append_left _ h)
  have hw := fun w (h : w ∈ e_X12_gone) => hts w (mw w h)
  have iX12 : ∀ w ∈ wsX120, w ∈ v_X12_gone := fun w h => List.mem_cons_of_mem _ (List.mem_append_right _ (List.mem_append_left _ h))
  have j_X11_act : ∀ w ∈ v_X11_act, w ∈ v_X12_gone := fun w h => List.mem_cons_of_mem _ (List.mem_append_right _ (List.mem_append_right _ (List.mem_append_left _ h)))
  have hown : s.vm.findClass RX12 = some m.cls := findClass_of_methodNamed B.named
  have hlocks := B.notSynchronized
  subst hsz
  have hD := hD0.self (sz := s.heap.size)
  generalize hAe : va_A (mW K m0 gm h1 g1 h2 g2 S0) s.heap.size = A at hD ⊢
  have hA : ∀ q : Nat, s.heap.size ≤ q → A q := fun q h => by rw [← hAe]; exact Or.inr h
  have hS : va_S A s.heap s.heap [] := va_S.rf
  have hl := lv_entry ([.ref m0, .int a1]) (n := 2) (Nat.le_of_ble_eq_true rfl)
  rw [lg_entry_eq]
  generalize (lg_sl ([.ref m0, .int a1]) ++ List.replicate (2 - (lg_sl ([.ref m0, .int a1])).length) Slot.unset).toArray = ls at hl ⊢
  have hl : lv_has ls 2 [(0, .ref m0), (1, .int a1)] := hl
  refine wGen (fun Q hQ => ?_)
  obtain ⟨X, hX⟩ : ∃ X, f_X12_gone S0 a1 = X := ⟨_, rfl⟩
  have B_M : ∀ (S : MS) (x1 : Int32) (H : Heap) (locs : List Loc) (ls : Array Slot), f_X12_gone S x1 = X → p_X12_gone S x1 → va_P G vwCl (mW K m0 gm h1 g1 h2 g2 S) H → va_D A (mW K m0 gm h1 g1 h2 g2 S) → va_S A s.heap H locs → lv_has ls 2 [(0, .ref m0), (1, .int x1)] → W p l e ({ frames := 6, cells := 0, slots := 0, locals := 156 } : Room) s m #[Value.ref m0, Value.int a1] below meth c H locs 0 0 Q (F0 m 0 ls []) := by
    intro S x1 H locs ls hE hp hP hD hS hl
    unfold f_X12_gone at hE
    unfold p_X12_gone at hp
    refine lv_aload_n hx hb dX12_gone_0 rfl (lv_at hl 0 rfl) ?_
    refine va_get (D := G) (ci := 9) (v := .ref h1) (C := RX12) (T := TX12) (N := 7) hx hb hts iX12 hown hK hP 0 rfl rfl 0 (by decide) (hw (.fieldLink RX12 16 "MotionFloorModel" "hall" "LMotionFloorModel$Hall;") (List.mem_of_getElem? (i := 0) rfl)) (fun _ h9 => h9) rfl dX12_gone_1 ?_
    refine lv_iconst (v := 2) hx hb dX12_gone_4 (by decide) ?_
    refine lv_iload_n hx hb dX12_gone_5 rfl (lv_at hl 1 rfl) ?_
    refine lv_iconst (v := 0) hx hb dX12_gone_6 (by decide) ?_
    refine lv_iconst (v := 0) hx hb dX12_gone_7 (by decide) ?_
    refine lv_iconst (v := 0) hx hb dX12_gone_8 (by decide) ?_
    obtain ⟨hy1, hp⟩ := hp
    refine mGoi_h (va_runV (As := [.int 2, .int x1, .int 0, .int 0, .int 0]) (rest := []) ⟨hx, hb, hml, hown, hts⟩ (c_X11_act l G K h1 g1 S.2.1 2 x1 0 0 0 _) (cwV 5 hts (wGV t_ (mw (.methodLink RX12 40 yX11_act) (List.mem_of_getElem? (i := 1) rfl)) (mw (.instanceMethod yX11_act) (List.mem_of_getElem? (i := 2) rfl)) (mw (.selects RX11 yX11_act yX11_act) (List.mem_of_getElem? (i := 3) rfl)) (mw (.initialized RX11) (List.mem_of_getElem? (i := 4) rfl)) j_X11_act) rfl rfl rfl (by decide +kernel) ⟨Nat.le_of_ble_eq_true rfl, Nat.le_of_ble_eq_true rfl⟩) (hPV hK hTE (mP_h hP) (mD_h hD) hy1) rfl rfl hl.1 rfl (lv_room (Nat.le_of_ble_eq_true rfl)) dX12_gone_9 ⟨Nat.le_of_ble_eq_true rfl, Nat.le_of_ble_eq_true rfl⟩) hP hD hS hA (fun r3 u2 H locs hv hP hD hS => ?_)
    rw [← hv] at hE hp
    dsimp only at hE hp
    unfold b_X12_gone_a12 at hE
    unfold q_X12_gone_a12 at hp
    subst hQ
    exact W.iret (v := r3) hx hb hr (fun t ht hW => ⟨⟨r3, (mH S u2), rfl, hE.trans hX.symm, by rw [ht]; exact hP, hD⟩, hS.F ht⟩) hS.2.2 dX12_gone_12
  exact B_M S0 a1 _ _ _ hX hp hP hD hS hl
def b_X12_quorum_a12 (S : MS) (x1 y0 : Int32) : Int32 × MS := (y0, S)
def q_X12_quorum_a12 (S : MS) (x1 y0 : Int32) : Prop := True
def f_X12_quorum (S : MS) (x1 : Int32) : Int32 × MS := (b_X12_quorum_a12 (mH S ((f_X11_act S.2.1 3 x1 0 0 0).2)) x1 (f_X11_act S.2.1 3 x1 0 0 0).1)
def p_X12_quorum (S : MS) (x1 : Int32) : Prop := (p_X11_act S.2.1 3 x1 0 0 0) ∧ (q_X12_quorum_a12 (mH S ((f_X11_act S.2.1 3 x1 0 0 0).2)) x1 (f_X11_act S.2.1 3 x1 0 0 0).1)
def e_X12_quorum : List Cond := [.fieldLink RX12 16 "MotionFloorModel" "hall" "LMotionFloorModel$Hall;", .methodLink RX12 40 yX11_act, .instanceMethod yX11_act, .selects RX11 yX11_act yX11_act, .initialized RX11]
def v_X12_quorum : List Cond := .code yX12_quorum cX12_quorum 2 (some .int) :: (e_X12_quorum ++ (wsX120 ++ (v_X11_act ++ [])))
theorem te_X12_quorum : GoodIn lw_tbl e_X12_quorum := wGc z219 (wGc z223 (wGc z222 (wGc z221 (wGc z51 (wG0)))))
theorem t_X12_quorum : GoodIn lw_tbl v_X12_quorum := wGc z226 (wGa te_X12_quorum (wGa zcX12 (wGa t_X11_act (wG0))))
set_option maxHeartbeats 4000000 in
set_option maxRecDepth 100000 in
theorem c_X12_quorum (l : Launch) (G : va_G) (K : Nat → ClassId) (m0 : Nat) (gm : Nat → Nat) (h1 : Nat) (g1 : Nat → Nat) (h2 : Nat) (g2 : Nat → Nat) (S0 : MS) (a1 : Int32) (sz : Nat) : Met l yX12_quorum v_X12_quorum ({ frames := 6, cells := 0, slots := 0, locals := 156 }) (va_Pc [.ref m0, .int a1] (mSt G K m0 gm h1 g1 h2 g2 sz S0 (p_X12_quorum S0 a1))) (va_Qi (fun (r : Int32) (u : MS) => (r, u) = f_X12_quorum S0 a1) (mB G K m0 gm h1 g1 h2 g2 (va_A (mW K m0 gm h1 g1 h2 g2 S0) sz)) (va_A (mW K m0 gm h1 g1 h2 g2 S0) sz)) 0 0 (va_A (mW K m0 gm h1 g1 h2 g2 S0) sz) := by
  refine Met.ofW (cc := cX12_quorum) (maxL := 2) (ret := (some .int)) (by decide) rfl ?_
  intro p e s m args below meth c s₁ B hml hv
  obtain ⟨rfl, ⟨hsz, hP, hK, hD0, hTE⟩, hp⟩ := hv
  have hx := B.exec
  have hb := B.bytes
  have hr := B.returns
  have hts := atoms_spec (ws := v_X12_quorum) B.pre
  have t_ := t_X12_quorum
  have mw : ∀ w ∈ e_X12_quorum, w ∈ v_X12_quorum := fun w h => List.mem_cons_of_mem _ (List.mem_append_left _ h)
  have hw := fun w (h : w ∈ e_X12_quorum) => hts w (mw w h)
  have iX12 : ∀ w ∈ wsX120, w ∈ v_X12_quorum := fun w h => List.mem_cons_of_mem _ (List.mem_append_right _ (List.mem_append_left _ h))
  have j_X11_act : ∀ w ∈ v_X11_act, w ∈ v_X12_quorum := fun w h => List.mem_cons_of_mem _ (List.mem_append_right _ (List.mem_append_right _ (List.mem_append_left _ h)))
  have hown : s.vm.findClass RX12 = some m.cls := findClass_of_methodNamed B.named
  have hlocks := B.notSynchronized
  subst hsz
  have hD := hD0.self (sz := s.heap.size)
  generalize hAe : va_A (mW K m0 gm h1 g1 h2 g2 S0) s.heap.size = A at hD ⊢
  have hA : ∀ q : Nat, s.heap.size ≤ q → A q := fun q h => by rw [← hAe]; exact Or.inr h
  have hS : va_S A s.heap s.heap [] := va_S.rf
  have hl := lv_entry ([.ref m0, .int a1]) (n := 2) (Nat.le_of_ble_eq_true rfl)
  rw [lg_entry_eq]
  generalize (lg_sl ([.ref m0, .int a1]) ++ List.replicate (2 - (lg_sl ([.ref m0, .int a1])).length) Slot.unset).toArray = ls at hl ⊢
  have hl : lv_has ls 2 [(0, .ref m0), (1, .int a1)] := hl
  refine wGen (fun Q hQ => ?_)
  obtain ⟨X, hX⟩ : ∃ X, f_X12_quorum S0 a1 = X := ⟨_, rfl⟩
  have B_M : ∀ (S : MS) (x1 : Int32) (H : Heap) (locs : List Loc) (ls : Array Slot), f_X12_quorum S x1 = X → p_X12_quorum S x1 → va_P G vwCl (mW K m0 gm h1 g1 h2 g2 S) H → va_D A (mW K m0 gm h1 g1 h2 g2 S) → va_S A s.heap H locs → lv_has ls 2 [(0, .ref m0), (1, .int x1)] → W p l e ({ frames := 6, cells := 0, slots := 0, locals := 156 } : Room) s m #[Value.ref m0, Value.int a1] below meth c H locs 0 0 Q (F0 m 0 ls []) := by
    intro S x1 H locs ls hE hp hP hD hS hl
    unfold f_X12_quorum at hE
    unfold p_X12_quorum at hp
    refine lv_aload_n hx hb dX12_quorum_0 rfl (lv_at hl 0 rfl) ?_
    refine va_get (D := G) (ci := 9) (v := .ref h1) (C := RX12) (T := TX12) (N := 7) hx hb hts iX12 hown hK hP 0 rfl rfl 0 (by decide) (hw (.fieldLink RX12 16 "MotionFloorModel" "hall" "LMotionFloorModel$Hall;") (List.mem_of_getElem? (i := 0) rfl)) (fun _ h9 => h9) rfl dX12_quorum_1 ?_
    refine lv_iconst (v := 3) hx hb dX12_quorum_4 (by decide) ?_
    refine lv_iload_n hx hb dX12_quorum_5 rfl (lv_at hl 1 rfl) ?_
    refine lv_iconst (v := 0) hx hb dX12_quorum_6 (by decide) ?_
    refine lv_iconst (v := 0) hx hb dX12_quorum_7 (by decide) ?_
    refine lv_iconst (v := 0) hx hb dX12_quorum_8 (by decide) ?_
    obtain ⟨hy1, hp⟩ := hp
    refine mGoi_h (va_runV (As := [.int 3, .int x1, .int 0, .int 0, .int 0]) (rest := []) ⟨hx, hb, hml, hown, hts⟩ (c_X11_act l G K h1 g1 S.2.1 3 x1 0 0 0 _) (cwV 5 hts (wGV t_ (mw (.methodLink RX12 40 yX11_act) (List.mem_of_getElem? (i := 1) rfl)) (mw (.instanceMethod yX11_act) (List.mem_of_getElem? (i := 2) rfl)) (mw (.selects RX11 yX11_act yX11_act) (List.mem_of_getElem? (i := 3) rfl)) (mw (.initialized RX11) (List.mem_of_getElem? (i := 4) rfl)) j_X11_act) rfl rfl rfl (by decide +kernel) ⟨Nat.le_of_ble_eq_true rfl, Nat.le_of_ble_eq_true rfl⟩) (hPV hK hTE (mP_h hP) (mD_h hD) hy1) rfl rfl hl.1 rfl (lv_room (Nat.le_of_ble_eq_true rfl)) dX12_quorum_9 ⟨Nat.le_of_ble_eq_true rfl, Nat.le_of_ble_eq_true rfl⟩) hP hD hS hA (fun r3 u2 H locs hv hP hD hS => ?_)
    rw [← hv] at hE hp
    dsimp only at hE hp
    unfold b_X12_quorum_a12 at hE
    unfold q_X12_quorum_a12 at hp
    subst hQ
    exact W.iret (v := r3) hx hb hr (fun t ht hW => ⟨⟨r3, (mH S u2), rfl, hE.trans hX.symm, by rw [ht]; exact hP, hD⟩, hS.F ht⟩) hS.2.2 dX12_quorum_12
  exact B_M S0 a1 _ _ _ hX hp hP hD hS hl
def b_X12_chair_a12 (S : MS) (x1 y0 : Int32) : Int32 × MS := (y0, S)
def q_X12_chair_a12 (S : MS) (x1 y0 : Int32) : Prop := True
def f_X12_chair (S : MS) (x1 : Int32) : Int32 × MS := (b_X12_chair_a12 (mH S ((f_X11_act S.2.1 4 x1 0 0 0).2)) x1 (f_X11_act S.2.1 4 x1 0 0 0).1)
def p_X12_chair (S : MS) (x1 : Int32) : Prop := (p_X11_act S.2.1 4 x1 0 0 0) ∧ (q_X12_chair_a12 (mH S ((f_X11_act S.2.1 4 x1 0 0 0).2)) x1 (f_X11_act S.2.1 4 x1 0 0 0).1)
def e_X12_chair : List Cond := [.fieldLink RX12 16 "MotionFloorModel" "hall" "LMotionFloorModel$Hall;", .methodLink RX12 40 yX11_act, .instanceMethod yX11_act, .selects RX11 yX11_act yX11_act, .initialized RX11]
def v_X12_chair : List Cond := .code yX12_chair cX12_chair 2 (some .int) :: (e_X12_chair ++ (wsX120 ++ (v_X11_act ++ [])))
theorem te_X12_chair : GoodIn lw_tbl e_X12_chair := wGc z219 (wGc z223 (wGc z222 (wGc z221 (wGc z51 (wG0)))))
theorem t_X12_chair : GoodIn lw_tbl v_X12_chair := wGc z227 (wGa te_X12_chair (wGa zcX12 (wGa t_X11_act (wG0))))
set_option maxHeartbeats 4000000 in
set_option maxRecDepth 100000 in
theorem c_X12_chair (l : Launch) (G : va_G) (K : Nat → ClassId) (m0 : Nat) (gm : Nat → Nat) (h1 : Nat) (g1 : Nat → Nat) (h2 : Nat) (g2 : Nat → Nat) (S0 : MS) (a1 : Int32) (sz : Nat) : Met l yX12_chair v_X12_chair ({ frames := 6, cells := 0, slots := 0, locals := 156 }) (va_Pc [.ref m0, .int a1] (mSt G K m0 gm h1 g1 h2 g2 sz S0 (p_X12_chair S0 a1))) (va_Qi (fun (r : Int32) (u : MS) => (r, u) = f_X12_chair S0 a1) (mB G K m0 gm h1 g1 h2 g2 (va_A (mW K m0 gm h1 g1 h2 g2 S0) sz)) (va_A (mW K m0 gm h1 g1 h2 g2 S0) sz)) 0 0 (va_A (mW K m0 gm h1 g1 h2 g2 S0) sz) := by
  refine Met.ofW (cc := cX12_chair) (maxL := 2) (ret := (some .int)) (by decide) rfl ?_
  intro p e s m args below meth c s₁ B hml hv
  obtain ⟨rfl, ⟨hsz, hP, hK, hD0, hTE⟩, hp⟩ := hv
  have hx := B.exec
  have hb := B.bytes
  have hr := B.returns
  have hts := atoms_spec (ws := v_X12_chair) B.pre
  have t_ := t_X12_chair
  have mw : ∀ w ∈ e_X12_chair, w ∈ v_X12_chair := fun w h => List.mem_cons_of_mem _ (List.mem_append_left _ h)
  have hw := fun w (h : w ∈ e_X12_chair) => hts w (mw w h)
  have iX12 : ∀ w ∈ wsX120, w ∈ v_X12_chair := fun w h => List.mem_cons_of_mem _ (List.mem_append_right _ (List.mem_append_left _ h))
  have j_X11_act : ∀ w ∈ v_X11_act, w ∈ v_X12_chair := fun w h => List.mem_cons_of_mem _ (List.mem_append_right _ (List.mem_append_right _ (List.mem_append_left _ h)))
  have hown : s.vm.findClass RX12 = some m.cls := findClass_of_methodNamed B.named
  have hlocks := B.notSynchronized
  subst hsz
  have hD := hD0.self (sz := s.heap.size)
  generalize hAe : va_A (mW K m0 gm h1 g1 h2 g2 S0) s.heap.size = A at hD ⊢
  have hA : ∀ q : Nat, s.heap.size ≤ q → A q := fun q h => by rw [← hAe]; exact Or.inr h
  have hS : va_S A s.heap s.heap [] := va_S.rf
  have hl := lv_entry ([.ref m0, .int a1]) (n := 2) (Nat.le_of_ble_eq_true rfl)
  rw [lg_entry_eq]
  generalize (lg_sl ([.ref m0, .int a1]) ++ List.replicate (2 - (lg_sl ([.ref m0, .int a1])).length) Slot.unset).toArray = ls at hl ⊢
  have hl : lv_has ls 2 [(0, .ref m0), (1, .int a1)] := hl
  refine wGen (fun Q hQ => ?_)
  obtain ⟨X, hX⟩ : ∃ X, f_X12_chair S0 a1 = X := ⟨_, rfl⟩
  have B_M : ∀ (S : MS) (x1 : Int32) (H : Heap) (locs : List Loc) (ls : Array Slot), f_X12_chair S x1 = X → p_X12_chair S x1 → va_P G vwCl (mW K m0 gm h1 g1 h2 g2 S) H → va_D A (mW K m0 gm h1 g1 h2 g2 S) → va_S A s.heap H locs → lv_has ls 2 [(0, .ref m0), (1, .int x1)] → W p l e ({ frames := 6, cells := 0, slots := 0, locals := 156 } : Room) s m #[Value.ref m0, Value.int a1] below meth c H locs 0 0 Q (F0 m 0 ls []) := by
    intro S x1 H locs ls hE hp hP hD hS hl
    unfold f_X12_chair at hE
    unfold p_X12_chair at hp
    refine lv_aload_n hx hb dX12_chair_0 rfl (lv_at hl 0 rfl) ?_
    refine va_get (D := G) (ci := 9) (v := .ref h1) (C := RX12) (T := TX12) (N := 7) hx hb hts iX12 hown hK hP 0 rfl rfl 0 (by decide) (hw (.fieldLink RX12 16 "MotionFloorModel" "hall" "LMotionFloorModel$Hall;") (List.mem_of_getElem? (i := 0) rfl)) (fun _ h9 => h9) rfl dX12_chair_1 ?_
    refine lv_iconst (v := 4) hx hb dX12_chair_4 (by decide) ?_
    refine lv_iload_n hx hb dX12_chair_5 rfl (lv_at hl 1 rfl) ?_
    refine lv_iconst (v := 0) hx hb dX12_chair_6 (by decide) ?_
    refine lv_iconst (v := 0) hx hb dX12_chair_7 (by decide) ?_
    refine lv_iconst (v := 0) hx hb dX12_chair_8 (by decide) ?_
    obtain ⟨hy1, hp⟩ := hp
    refine mGoi_h (va_runV (As := [.int 4, .int x1, .int 0, .int 0, .int 0]) (rest := []) ⟨hx, hb, hml, hown, hts⟩ (c_X11_act l G K h1 g1 S.2.1 4 x1 0 0 0 _) (cwV 5 hts (wGV t_ (mw (.methodLink RX12 40 yX11_act) (List.mem_of_getElem? (i := 1) rfl)) (mw (.instanceMethod yX11_act) (List.mem_of_getElem? (i := 2) rfl)) (mw (.selects RX11 yX11_act yX11_act) (List.mem_of_getElem? (i := 3) rfl)) (mw (.initialized RX11) (List.mem_of_getElem? (i := 4) rfl)) j_X11_act) rfl rfl rfl (by decide +kernel) ⟨Nat.le_of_ble_eq_true rfl, Nat.le_of_ble_eq_true rfl⟩) (hPV hK hTE (mP_h hP) (mD_h hD) hy1) rfl rfl hl.1 rfl (lv_room (Nat.le_of_ble_eq_true rfl)) dX12_chair_9 ⟨Nat.le_of_ble_eq_true rfl, Nat.le_of_ble_eq_true rfl⟩) hP hD hS hA (fun r3 u2 H locs hv hP hD hS => ?_)
    rw [← hv] at hE hp
    dsimp only at hE hp
    unfold b_X12_chair_a12 at hE
    unfold q_X12_chair_a12 at hp
    subst hQ
    exact W.iret (v := r3) hx hb hr (fun t ht hW => ⟨⟨r3, (mH S u2), rfl, hE.trans hX.symm, by rw [ht]; exact hP, hD⟩, hS.F ht⟩) hS.2.2 dX12_chair_12
  exact B_M S0 a1 _ _ _ hX hp hP hD hS hl
def b_X12_majority_a12 (S : MS) (x1 x2 y0 : Int32) : Int32 × MS := (y0, S)
def q_X12_majority_a12 (S : MS) (x1 x2 y0 : Int32) : Prop := True
def f_X12_majority (S : MS) (x1 x2 : Int32) : Int32 × MS := (b_X12_majority_a12 (mH S ((f_X11_act S.2.1 5 x1 x2 0 0).2)) x1 x2 (f_X11_act S.2.1 5 x1 x2 0 0).1)
def p_X12_majority (S : MS) (x1 x2 : Int32) : Prop := (p_X11_act S.2.1 5 x1 x2 0 0) ∧ (q_X12_majority_a12 (mH S ((f_X11_act S.2.1 5 x1 x2 0 0).2)) x1 x2 (f_X11_act S.2.1 5 x1 x2 0 0).1)
def e_X12_majority : List Cond := [.fieldLink RX12 16 "MotionFloorModel" "hall" "LMotionFloorModel$Hall;", .methodLink RX12 40 yX11_act, .instanceMethod yX11_act, .selects RX11 yX11_act yX11_act, .initialized RX11]
def v_X12_majority : List Cond := .code yX12_majority cX12_majority 3 (some .int) :: (e_X12_majority ++ (wsX120 ++ (v_X11_act ++ [])))
theorem te_X12_majority : GoodIn lw_tbl e_X12_majority := wGc z219 (wGc z223 (wGc z222 (wGc z221 (wGc z51 (wG0)))))
theorem t_X12_majority : GoodIn lw_tbl v_X12_majority := wGc z228 (wGa te_X12_majority (wGa zcX12 (wGa t_X11_act (wG0))))
set_option maxHeartbeats 4000000 in
set_option maxRecDepth 100000 in
theorem c_X12_majority (l : Launch) (G : va_G) (K : Nat → ClassId) (m0 : Nat) (gm : Nat → Nat) (h1 : Nat) (g1 : Nat → Nat) (h2 : Nat) (g2 : Nat → Nat) (S0 : MS) (a1 a2 : Int32) (sz : Nat) : Met l yX12_majority v_X12_majority ({ frames := 6, cells := 0, slots := 0, locals := 156 }) (va_Pc [.ref m0, .int a1, .int a2] (mSt G K m0 gm h1 g1 h2 g2 sz S0 (p_X12_majority S0 a1 a2))) (va_Qi (fun (r : Int32) (u : MS) => (r, u) = f_X12_majority S0 a1 a2) (mB G K m0 gm h1 g1 h2 g2 (va_A (mW K m0 gm h1 g1 h2 g2 S0) sz)) (va_A (mW K m0 gm h1 g1 h2 g2 S0) sz)) 0 0 (va_A (mW K m0 gm h1 g1 h2 g2 S0) sz) := by
  refine Met.ofW (cc := cX12_majority) (maxL := 3) (ret := (some .int)) (by decide) rfl ?_
  intro p e s m args below meth c s₁ B hml hv
  obtain ⟨rfl, ⟨hsz, hP, hK, hD0, hTE⟩, hp⟩ := hv
  have hx := B.exec
  have hb := B.bytes
  have hr := B.returns
  have hts := atoms_spec (ws := v_X12_majority) B.pre
  have t_ := t_X12_majority
  have mw : ∀ w ∈ e_X12_majority, w ∈ v_X12_majority := fun w h => List.mem_cons_of_mem _ (List.mem_append_left _ h)
  have hw := fun w (h : w ∈ e_X12_majority) => hts w (mw w h)
  have iX12 : ∀ w ∈ wsX120, w ∈ v_X12_majority := fun w h => List.mem_cons_of_mem _ (List.mem_append_right _ (List.mem_append_left _ h))
  have j_X11_act : ∀ w ∈ v_X11_act, w ∈ v_X12_majority := fun w h => List.mem_cons_of_mem _ (List.mem_append_right _ (List.mem_append_right _ (List.mem_append_left _ h)))
  have hown : s.vm.findClass RX12 = some m.cls := findClass_of_methodNamed B.named
  have hlocks := B.notSynchronized
  subst hsz
  have hD := hD0.self (sz := s.heap.size)
  generalize hAe : va_A (mW K m0 gm h1 g1 h2 g2 S0) s.heap.size = A at hD ⊢
  have hA : ∀ q : Nat, s.heap.size ≤ q → A q := fun q h => by rw [← hAe]; exact Or.inr h
  have hS : va_S A s.heap s.heap [] := va_S.rf
  have hl := lv_entry ([.ref m0, .int a1, .int a2]) (n := 3) (Nat.le_of_ble_eq_true rfl)
  rw [lg_entry_eq]
  generalize (lg_sl ([.ref m0, .int a1, .int a2]) ++ List.replicate (3 - (lg_sl ([.ref m0, .int a1, .int a2])).length) Slot.unset).toArray = ls at hl ⊢
  have hl : lv_has ls 3 [(0, .ref m0), (1, .int a1), (2, .int a2)] := hl
  refine wGen (fun Q hQ => ?_)
  obtain ⟨X, hX⟩ : ∃ X, f_X12_majority S0 a1 a2 = X := ⟨_, rfl⟩
  have B_M : ∀ (S : MS) (x1 x2 : Int32) (H : Heap) (locs : List Loc) (ls : Array Slot), f_X12_majority S x1 x2 = X → p_X12_majority S x1 x2 → va_P G vwCl (mW K m0 gm h1 g1 h2 g2 S) H → va_D A (mW K m0 gm h1 g1 h2 g2 S) → va_S A s.heap H locs → lv_has ls 3 [(0, .ref m0), (1, .int x1), (2, .int x2)] → W p l e ({ frames := 6, cells := 0, slots := 0, locals := 156 } : Room) s m #[Value.ref m0, Value.int a1, Value.int a2] below meth c H locs 0 0 Q (F0 m 0 ls []) := by
    intro S x1 x2 H locs ls hE hp hP hD hS hl
    unfold f_X12_majority at hE
    unfold p_X12_majority at hp
    refine lv_aload_n hx hb dX12_majority_0 rfl (lv_at hl 0 rfl) ?_
    refine va_get (D := G) (ci := 9) (v := .ref h1) (C := RX12) (T := TX12) (N := 7) hx hb hts iX12 hown hK hP 0 rfl rfl 0 (by decide) (hw (.fieldLink RX12 16 "MotionFloorModel" "hall" "LMotionFloorModel$Hall;") (List.mem_of_getElem? (i := 0) rfl)) (fun _ h9 => h9) rfl dX12_majority_1 ?_
    refine lv_iconst (v := 5) hx hb dX12_majority_4 (by decide) ?_
    refine lv_iload_n hx hb dX12_majority_5 rfl (lv_at hl 1 rfl) ?_
    refine lv_iload_n hx hb dX12_majority_6 rfl (lv_at hl 2 rfl) ?_
    refine lv_iconst (v := 0) hx hb dX12_majority_7 (by decide) ?_
    refine lv_iconst (v := 0) hx hb dX12_majority_8 (by decide) ?_
    obtain ⟨hy1, hp⟩ := hp
    refine mGoi_h (va_runV (As := [.int 5, .int x1, .int x2, .int 0, .int 0]) (rest := []) ⟨hx, hb, hml, hown, hts⟩ (c_X11_act l G K h1 g1 S.2.1 5 x1 x2 0 0 _) (cwV 5 hts (wGV t_ (mw (.methodLink RX12 40 yX11_act) (List.mem_of_getElem? (i := 1) rfl)) (mw (.instanceMethod yX11_act) (List.mem_of_getElem? (i := 2) rfl)) (mw (.selects RX11 yX11_act yX11_act) (List.mem_of_getElem? (i := 3) rfl)) (mw (.initialized RX11) (List.mem_of_getElem? (i := 4) rfl)) j_X11_act) rfl rfl rfl (by decide +kernel) ⟨Nat.le_of_ble_eq_true rfl, Nat.le_of_ble_eq_true rfl⟩) (hPV hK hTE (mP_h hP) (mD_h hD) hy1) rfl rfl hl.1 rfl (lv_room (Nat.le_of_ble_eq_true rfl)) dX12_majority_9 ⟨Nat.le_of_ble_eq_true rfl, Nat.le_of_ble_eq_true rfl⟩) hP hD hS hA (fun r3 u2 H locs hv hP hD hS => ?_)
    rw [← hv] at hE hp
    dsimp only at hE hp
    unfold b_X12_majority_a12 at hE
    unfold q_X12_majority_a12 at hp
    subst hQ
    exact W.iret (v := r3) hx hb hr (fun t ht hW => ⟨⟨r3, (mH S u2), rfl, hE.trans hX.symm, by rw [ht]; exact hP, hD⟩, hS.F ht⟩) hS.2.2 dX12_majority_12
  exact B_M S0 a1 a2 _ _ _ hX hp hP hD hS hl
def b_X12_limit_a13 (S : MS) (x1 y0 : Int32) : Int32 × MS := (y0, S)
def q_X12_limit_a13 (S : MS) (x1 y0 : Int32) : Prop := True
def f_X12_limit (S : MS) (x1 : Int32) : Int32 × MS := (b_X12_limit_a13 (mH S ((f_X11_act S.2.1 6 x1 0 0 0).2)) x1 (f_X11_act S.2.1 6 x1 0 0 0).1)
def p_X12_limit (S : MS) (x1 : Int32) : Prop := (p_X11_act S.2.1 6 x1 0 0 0) ∧ (q_X12_limit_a13 (mH S ((f_X11_act S.2.1 6 x1 0 0 0).2)) x1 (f_X11_act S.2.1 6 x1 0 0 0).1)
def e_X12_limit : List Cond := [.fieldLink RX12 16 "MotionFloorModel" "hall" "LMotionFloorModel$Hall;", .methodLink RX12 40 yX11_act, .instanceMethod yX11_act, .selects RX11 yX11_act yX11_act, .initialized RX11]
def v_X12_limit : List Cond := .code yX12_limit cX12_limit 2 (some .int) :: (e_X12_limit ++ (wsX120 ++ (v_X11_act ++ [])))
theorem te_X12_limit : GoodIn lw_tbl e_X12_limit := wGc z219 (wGc z223 (wGc z222 (wGc z221 (wGc z51 (wG0)))))
theorem t_X12_limit : GoodIn lw_tbl v_X12_limit := wGc z229 (wGa te_X12_limit (wGa zcX12 (wGa t_X11_act (wG0))))
set_option maxHeartbeats 4000000 in
set_option maxRecDepth 100000 in
theorem c_X12_limit (l : Launch) (G : va_G) (K : Nat → ClassId) (m0 : Nat) (gm : Nat → Nat) (h1 : Nat) (g1 : Nat → Nat) (h2 : Nat) (g2 : Nat → Nat) (S0 : MS) (a1 : Int32) (sz : Nat) : Met l yX12_limit v_X12_limit ({ frames := 6, cells := 0, slots := 0, locals := 156 }) (va_Pc [.ref m0, .int a1] (mSt G K m0 gm h1 g1 h2 g2 sz S0 (p_X12_limit S0 a1))) (va_Qi (fun (r : Int32) (u : MS) => (r, u) = f_X12_limit S0 a1) (mB G K m0 gm h1 g1 h2 g2 (va_A (mW K m0 gm h1 g1 h2 g2 S0) sz)) (va_A (mW K m0 gm h1 g1 h2 g2 S0) sz)) 0 0 (va_A (mW K m0 gm h1 g1 h2 g2 S0) sz) := by
  refine Met.ofW (cc := cX12_limit) (maxL := 2) (ret := (some .int)) (by decide) rfl ?_
  intro p e s m args below meth c s₁ B hml hv
  obtain ⟨rfl, ⟨hsz, hP, hK, hD0, hTE⟩, hp⟩ := hv
  have hx := B.exec
  have hb := B.bytes
  have hr := B.returns
  have hts := atoms_spec (ws := v_X12_limit) B.pre
  have t_ := t_X12_limit
  have mw : ∀ w ∈ e_X12_limit, w ∈ v_X12_limit := fun w h => List.mem_cons_of_mem _ (List.mem_append_left _ h)
  have hw := fun w (h : w ∈ e_X12_limit) => hts w (mw w h)
  have iX12 : ∀ w ∈ wsX120, w ∈ v_X12_limit := fun w h => List.mem_cons_of_mem _ (List.mem_append_right _ (List.mem_append_left _ h))
  have j_X11_act : ∀ w ∈ v_X11_act, w ∈ v_X12_limit := fun w h => List.mem_cons_of_mem _ (List.mem_append_right _ (List.mem_append_right _ (List.mem_append_left _ h)))
  have hown : s.vm.findClass RX12 = some m.cls := findClass_of_methodNamed B.named
  have hlocks := B.notSynchronized
  subst hsz
  have hD := hD0.self (sz := s.heap.size)
  generalize hAe : va_A (mW K m0 gm h1 g1 h2 g2 S0) s.heap.size = A at hD ⊢
  have hA : ∀ q : Nat, s.heap.size ≤ q → A q := fun q h => by rw [← hAe]; exact Or.inr h
  have hS : va_S A s.heap s.heap [] := va_S.rf
  have hl := lv_entry ([.ref m0, .int a1]) (n := 2) (Nat.le_of_ble_eq_true rfl)
  rw [lg_entry_eq]
  generalize (lg_sl ([.ref m0, .int a1]) ++ List.replicate (2 - (lg_sl ([.ref m0, .int a1])).length) Slot.unset).toArray = ls at hl ⊢
  have hl : lv_has ls 2 [(0, .ref m0), (1, .int a1)] := hl
  refine wGen (fun Q hQ => ?_)
  obtain ⟨X, hX⟩ : ∃ X, f_X12_limit S0 a1 = X := ⟨_, rfl⟩
  have B_M : ∀ (S : MS) (x1 : Int32) (H : Heap) (locs : List Loc) (ls : Array Slot), f_X12_limit S x1 = X → p_X12_limit S x1 → va_P G vwCl (mW K m0 gm h1 g1 h2 g2 S) H → va_D A (mW K m0 gm h1 g1 h2 g2 S) → va_S A s.heap H locs → lv_has ls 2 [(0, .ref m0), (1, .int x1)] → W p l e ({ frames := 6, cells := 0, slots := 0, locals := 156 } : Room) s m #[Value.ref m0, Value.int a1] below meth c H locs 0 0 Q (F0 m 0 ls []) := by
    intro S x1 H locs ls hE hp hP hD hS hl
    unfold f_X12_limit at hE
    unfold p_X12_limit at hp
    refine lv_aload_n hx hb dX12_limit_0 rfl (lv_at hl 0 rfl) ?_
    refine va_get (D := G) (ci := 9) (v := .ref h1) (C := RX12) (T := TX12) (N := 7) hx hb hts iX12 hown hK hP 0 rfl rfl 0 (by decide) (hw (.fieldLink RX12 16 "MotionFloorModel" "hall" "LMotionFloorModel$Hall;") (List.mem_of_getElem? (i := 0) rfl)) (fun _ h9 => h9) rfl dX12_limit_1 ?_
    refine lv_bipush (v := 6) hx hb dX12_limit_4 (by decide) ?_
    refine lv_iload_n hx hb dX12_limit_6 rfl (lv_at hl 1 rfl) ?_
    refine lv_iconst (v := 0) hx hb dX12_limit_7 (by decide) ?_
    refine lv_iconst (v := 0) hx hb dX12_limit_8 (by decide) ?_
    refine lv_iconst (v := 0) hx hb dX12_limit_9 (by decide) ?_
    obtain ⟨hy1, hp⟩ := hp
    refine mGoi_h (va_runV (As := [.int 6, .int x1, .int 0, .int 0, .int 0]) (rest := []) ⟨hx, hb, hml, hown, hts⟩ (c_X11_act l G K h1 g1 S.2.1 6 x1 0 0 0 _) (cwV 5 hts (wGV t_ (mw (.methodLink RX12 40 yX11_act) (List.mem_of_getElem? (i := 1) rfl)) (mw (.instanceMethod yX11_act) (List.mem_of_getElem? (i := 2) rfl)) (mw (.selects RX11 yX11_act yX11_act) (List.mem_of_getElem? (i := 3) rfl)) (mw (.initialized RX11) (List.mem_of_getElem? (i := 4) rfl)) j_X11_act) rfl rfl rfl (by decide +kernel) ⟨Nat.le_of_ble_eq_true rfl, Nat.le_of_ble_eq_true rfl⟩) (hPV hK hTE (mP_h hP) (mD_h hD) hy1) rfl rfl hl.1 rfl (lv_room (Nat.le_of_ble_eq_true rfl)) dX12_limit_10 ⟨Nat.le_of_ble_eq_true rfl, Nat.le_of_ble_eq_true rfl⟩) hP hD hS hA (fun r3 u2 H locs hv hP hD hS => ?_)
    rw [← hv] at hE hp
    dsimp only at hE hp
    unfold b_X12_limit_a13 at hE
    unfold q_X12_limit_a13 at hp
    subst hQ
    exact W.iret (v := r3) hx hb hr (fun t ht hW => ⟨⟨r3, (mH S u2), rfl, hE.trans hX.symm, by rw [ht]; exact hP, hD⟩, hS.F ht⟩) hS.2.2 dX12_limit_13
  exact B_M S0 a1 _ _ _ hX hp hP hD hS hl
def b_X12_floor_a13 (S : MS) (x1 y0 : Int32) : Int32 × MS := (y0, S)
def q_X12_floor_a13 (S : MS) (x1 y0 : Int32) : Prop := True
def f_X12_floor (S : MS) (x1 : Int32) : Int32 × MS := (b_X12_floor_a13 (mH S ((f_X11_act S.2.1 7 x1 0 0 0).2)) x1 (f_X11_act S.2.1 7 x1 0 0 0).1)
def p_X12_floor (S : MS) (x1 : Int32) : Prop := (p_X11_act S.2.1 7 x1 0 0 0) ∧ (q_X12_floor_a13 (mH S ((f_X11_act S.2.1 7 x1 0 0 0).2)) x1 (f_X11_act S.2.1 7 x1 0 0 0).1)
def e_X12_floor : List Cond := [.fieldLink RX12 16 "MotionFloorModel" "hall" "LMotionFloorModel$Hall;", .methodLink RX12 40 yX11_act, .instanceMethod yX11_act, .selects RX11 yX11_act yX11_act, .initialized RX11]
def v_X12_floor : List Cond := .code yX12_floor cX12_floor 2 (some .int) :: (e_X12_floor ++ (wsX120 ++ (v_X11_act ++ [])))
theorem te_X12_floor : GoodIn lw_tbl e_X12_floor := wGc z219 (wGc z223 (wGc z222 (wGc z221 (wGc z51 (wG0)))))
theorem t_X12_floor : GoodIn lw_tbl v_X12_floor := wGc z230 (wGa te_X12_floor (wGa zcX12 (wGa t_X11_act (wG0))))
set_option maxHeartbeats 4000000 in
set_option maxRecDepth 100000 in
theorem c_X12_floor (l : Launch) (G : va_G) (K : Nat → ClassId) (m0 : Nat) (gm : Nat → Nat) (h1 : Nat) (g1 : Nat → Nat) (h2 : Nat) (g2 : Nat → Nat) (S0 : MS) (a1 : Int32) (sz : Nat) : Met l yX12_floor v_X12_floor ({ frames := 6, cells := 0, slots := 0, locals := 156 }) (va_Pc [.ref m0, .int a1] (mSt G K m0 gm h1 g1 h2 g2 sz S0 (p_X12_floor S0 a1))) (va_Qi (fun (r : Int32) (u : MS) => (r, u) = f_X12_floor S0 a1) (mB G K m0 gm h1 g1 h2 g2 (va_A (mW K m0 gm h1 g1 h2 g2 S0) sz)) (va_A (mW K m0 gm h1 g1 h2 g2 S0) sz)) 0 0 (va_A (mW K m0 gm h1 g1 h2 g2 S0) sz) := by
  refine Met.ofW (cc := cX12_floor) (maxL := 2) (ret := (some .int)) (by decide) rfl ?_
  intro p e s m args below meth c s₁ B hml hv
  obtain ⟨rfl, ⟨hsz, hP, hK, hD0, hTE⟩, hp⟩ := hv
  have hx := B.exec
  have hb := B.bytes
  have hr := B.returns
  have hts := atoms_spec (ws := v_X12_floor) B.pre
  have t_ := t_X12_floor
  have mw : ∀ w ∈ e_X12_floor, w ∈ v_X12_floor := fun w h => List.mem_cons_of_mem _ (List.mem_append_left _ h)
  have hw := fun w (h : w ∈ e_X12_floor) => hts w (mw w h)
  have iX12 : ∀ w ∈ wsX120, w ∈ v_X12_floor := fun w h => List.mem_cons_of_mem _ (List.mem_append_right _ (List.mem_append_left _ h))
  have j_X11_act : ∀ w ∈ v_X11_act, w ∈ v_X12_floor := fun w h => List.mem_cons_of_mem _ (List.mem_append_right _ (List.mem_append_right _ (List.mem_append_left _ h)))
  have hown : s.vm.findClass RX12 = some m.cls := findClass_of_methodNamed B.named
  have hlocks := B.notSynchronized
  subst hsz
  have hD := hD0.self (sz := s.heap.size)
  generalize hAe : va_A (mW K m0 gm h1 g1 h2 g2 S0) s.heap.size = A at hD ⊢
  have hA : ∀ q : Nat, s.heap.size ≤ q → A q := fun q h => by rw [← hAe]; exact Or.inr h
  have hS : va_S A s.heap s.heap [] := va_S.rf
  have hl := lv_entry ([.ref m0, .int a1]) (n := 2) (Nat.le_of_ble_eq_true rfl)
  rw [lg_entry_eq]
  generalize (lg_sl ([.ref m0, .int a1]) ++ List.replicate (2 - (lg_sl ([.ref m0, .int a1])).length) Slot.unset).toArray = ls at hl ⊢
  have hl : lv_has ls 2 [(0, .ref m0), (1, .int a1)] := hl
  refine wGen (fun Q hQ => ?_)
  obtain ⟨X, hX⟩ : ∃ X, f_X12_floor S0 a1 = X := ⟨_, rfl⟩
  have B_M : ∀ (S : MS) (x1 : Int32) (H : Heap) (locs : List Loc) (ls : Array Slot), f_X12_floor S x1 = X → p_X12_floor S x1 → va_P G vwCl (mW K m0 gm h1 g1 h2 g2 S) H → va_D A (mW K m0 gm h1 g1 h2 g2 S) → va_S A s.heap H locs → lv_has ls 2 [(0, .ref m0), (1, .int x1)] → W p l e ({ frames := 6, cells := 0, slots := 0, locals := 156 } : Room) s m #[Value.ref m0, Value.int a1] below meth c H locs 0 0 Q (F0 m 0 ls []) := by
    intro S x1 H locs ls hE hp hP hD hS hl
    unfold f_X12_floor at hE
    unfold p_X12_floor at hp
    refine lv_aload_n hx hb dX12_floor_0 rfl (lv_at hl 0 rfl) ?_
    refine va_get (D := G) (ci := 9) (v := .ref h1) (C := RX12) (T := TX12) (N := 7) hx hb hts iX12 hown hK hP 0 rfl rfl 0 (by decide) (hw (.fieldLink RX12 16 "MotionFloorModel" "hall" "LMotionFloorModel$Hall;") (List.mem_of_getElem? (i := 0) rfl)) (fun _ h9 => h9) rfl dX12_floor_1 ?_
    refine lv_bipush (v := 7) hx hb dX12_floor_4 (by decide) ?_
    refine lv_iload_n hx hb dX12_floor_6 rfl (lv_at hl 1 rfl) ?_
    refine lv_iconst (v := 0) hx hb dX12_floor_7 (by decide) ?_
    refine lv_iconst (v := 0) hx hb dX12_floor_8 (by decide) ?_
    refine lv_iconst (v := 0) hx hb dX12_floor_9 (by decide) ?_
    obtain ⟨hy1, hp⟩ := hp
    refine mGoi_h (va_runV (As := [.int 7, .int x1, .int 0, .int 0, .int 0]) (rest := []) ⟨hx, hb, hml, hown, hts⟩ (c_X11_act l G K h1 g1 S.2.1 7 x1 0 0 0 _) (cwV 5 hts (wGV t_ (mw (.methodLink RX12 40 yX11_act) (List.mem_of_getElem? (i := 1) rfl)) (mw (.instanceMethod yX11_act) (List.mem_of_getElem? (i := 2) rfl)) (mw (.selects RX11 yX11_act yX11_act) (List.mem_of_getElem? (i := 3) rfl)) (mw (.initialized RX11) (List.mem_of_getElem? (i := 4) rfl)) j_X11_act) rfl rfl rfl (by decide +kernel) ⟨Nat.le_of_ble_eq_true rfl, Nat.le_of_ble_eq_true rfl⟩) (hPV hK hTE (mP_h hP) (mD_h hD) hy1) rfl rfl hl.1 rfl (lv_room (Nat.le_of_ble_eq_true rfl)) dX12_floor_10 ⟨Nat.le_of_ble_eq_true rfl, Nat.le_of_ble_eq_true rfl⟩) hP hD hS hA (fun r3 u2 H locs hv hP hD hS => ?_)
    rw [← hv] at hE hp
    dsimp only at hE hp
    unfold b_X12_floor_a13 at hE
    unfold q_X12_floor_a13 at hp
    subst hQ
    exact W.iret (v := r3) hx hb hr (fun t ht hW => ⟨⟨r3, (mH S u2), rfl, hE.trans hX.symm, by rw [ht]; exact hP, hD⟩, hS.F ht⟩) hS.2.2 dX12_floor_13
  exact B_M S0 a1 _ _ _ hX hp hP hD hS hl
def b_X12_cede_a13 (S : MS) (y0 : Int32) : Int32 × MS := (y0, S)
def q_X12_cede_a13 (S : MS) (y0 : Int32) : Prop := True
def f_X12_cede (S : MS)  : Int32 × MS := (b_X12_cede_a13 (mH S ((f_X11_act S.2.1 8 0 0 0 0).2)) (f_X11_act S.2.1 8 0 0 0 0).1)
def p_X12_cede (S : MS)  : Prop := (p_X11_act S.2.1 8 0 0 0 0) ∧ (q_X12_cede_a13 (mH S ((f_X11_act S.2.1 8 0 0 0 0).2)) (f_X11_act S.2.1 8 0 0 0 0).1)
def e_X12_cede : List Cond := [.fieldLink RX12 16 "MotionFloorModel" "hall" "LMotionFloorModel$Hall;", .methodLink RX12 40 yX11_act, .instanceMethod yX11_act, .selects RX11 yX11_act yX11_act, .initialized RX11]
def v_X12_cede : List Cond := .code yX12_cede cX12_cede 1 (some .int) :: (e_X12_cede ++ (wsX120 ++ (v_X11_act ++ [])))
theorem te_X12_cede : GoodIn lw_tbl e_X12_cede := wGc z219 (wGc z223 (wGc z222 (wGc z221 (wGc z51 (wG0)))))
theorem t_X12_cede : GoodIn lw_tbl v_X12_cede := wGc z231 (wGa te_X12_cede (wGa zcX12 (wGa t_X11_act (wG0))))
set_option maxHeartbeats 4000000 in
set_option maxRecDepth 100000 in
theorem c_X12_cede (l : Launch) (G : va_G) (K : Nat → ClassId) (m0 : Nat) (gm : Nat → Nat) (h1 : Nat) (g1 : Nat → Nat) (h2 : Nat) (g2 : Nat → Nat) (S0 : MS)  (sz : Nat) : Met l yX12_cede v_X12_cede ({ frames := 6, cells := 0, slots := 0, locals := 156 }) (va_Pc [.ref m0] (mSt G K m0 gm h1 g1 h2 g2 sz S0 (p_X12_cede S0))) (va_Qi (fun (r : Int32) (u : MS) => (r, u) = f_X12_cede S0) (mB G K m0 gm h1 g1 h2 g2 (va_A (mW K m0 gm h1 g1 h2 g2 S0) sz)) (va_A (mW K m0 gm h1 g1 h2 g2 S0) sz)) 0 0 (va_A (mW K m0 gm h1 g1 h2 g2 S0) sz) := by
  refine Met.ofW (cc := cX12_cede) (maxL := 1) (ret := (some .int)) (by decide) rfl ?_
  intro p e s m args below meth c s₁ B hml hv
  obtain ⟨rfl, ⟨hsz, hP, hK, hD0, hTE⟩, hp⟩ := hv
  have hx := B.exec
  have hb := B.bytes
  have hr := B.returns
  have hts := atoms_spec (ws := v_X12_cede) B.pre
  have t_ := t_X12_cede
  have mw : ∀ w ∈ e_X12_cede, w ∈ v_X12_cede := fun w h => List.mem_cons_of_mem _ (List.mem_append_left _ h)
  have hw := fun w (h : w ∈ e_X12_cede) => hts w (mw w h)
  have iX12 : ∀ w ∈ wsX120, w ∈ v_X12_cede := fun w h => List.mem_cons_of_mem _ (List.mem_append_right _ (List.mem_append_left _ h))
  have j_X11_act : ∀ w ∈ v_X11_act, w ∈ v_X12_cede := fun w h => List.mem_cons_of_mem _ (List.mem_append_right _ (List.mem_append_right _ (List.mem_append_left _ h)))
  have hown : s.vm.findClass RX12 = some m.cls := findClass_of_methodNamed B.named
  have hlocks := B.notSynchronized
  subst hsz
  have hD := hD0.self (sz := s.heap.size)
  generalize hAe : va_A (mW K m0 gm h1 g1 h2 g2 S0) s.heap.size = A at hD ⊢
  have hA : ∀ q : Nat, s.heap.size ≤ q → A q := fun q h => by rw [← hAe]; exact Or.inr h
  have hS : va_S A s.heap s.heap [] := va_S.rf
  have hl := lv_entry ([.ref m0]) (n := 1) (Nat.le_of_ble_eq_true rfl)
  rw [lg_entry_eq]
  generalize (lg_sl ([.ref m0]) ++ List.replicate (1 - (lg_sl ([.ref m0])).length) Slot.unset).toArray = ls at hl ⊢
  have hl : lv_has ls 1 [(0, .ref m0)] := hl
  refine wGen (fun Q hQ => ?_)
  obtain ⟨X, hX⟩ : ∃ X, f_X12_cede S0 = X := ⟨_, rfl⟩
  have B_M : ∀ (S : MS) (H : Heap) (locs : List Loc) (ls : Array Slot), f_X12_cede S = X → p_X12_cede S → va_P G vwCl (mW K m0 gm h1 g1 h2 g2 S) H → va_D A (mW K m0 gm h1 g1 h2 g2 S) → va_S A s.heap H locs → lv_has ls 1 [(0, .ref m0)] → W p l e ({ frames := 6, cells := 0, slots := 0, locals := 156 } : Room) s m #[Value.ref m0] below meth c H locs 0 0 Q (F0 m 0 ls []) := by
    intro S H locs ls hE hp hP hD hS hl
    unfold f_X12_cede at hE
    unfold p_X12_cede at hp
    refine lv_aload_n hx hb dX12_cede_0 rfl (lv_at hl 0 rfl) ?_
    refine va_get (D := G) (ci := 9) (v := .ref h1) (C := RX12) (T := TX12) (N := 7) hx hb hts iX12 hown hK hP 0 rfl rfl 0 (by decide) (hw (.fieldLink RX12 16 "MotionFloorModel" "hall" "LMotionFloorModel$Hall;") (List.mem_of_getElem? (i := 0) rfl)) (fun _ h9 => h9) rfl dX12_cede_1 ?_
    refine lv_bipush (v := 8) hx hb dX12_cede_4 (by decide) ?_
    refine lv_iconst (v := 0) hx hb dX12_cede_6 (by decide) ?_
    refine lv_iconst (v := 0) hx hb dX12_cede_7 (by decide) ?_
    refine lv_iconst (v := 0) hx hb dX12_cede_8 (by decide) ?_
    refine lv_iconst (v := 0) hx hb dX12_cede_9 (by decide) ?_
    obtain ⟨hy1, hp⟩ := hp
    refine mGoi_h (va_runV (As := [.int 8, .int 0, .int 0, .int 0, .int 0]) (rest := []) ⟨hx, hb, hml, hown, hts⟩ (c_X11_act l G K h1 g1 S.2.1 8 0 0 0 0 _) (cwV 5 hts (wGV t_ (mw (.methodLink RX12 40 yX11_act) (List.mem_of_getElem? (i := 1) rfl)) (mw (.instanceMethod yX11_act) (List.mem_of_getElem? (i := 2) rfl)) (mw (.selects RX11 yX11_act yX11_act) (List.mem_of_getElem? (i := 3) rfl)) (mw (.initialized RX11) (List.mem_of_getElem? (i := 4) rfl)) j_X11_act) rfl rfl rfl (by decide +kernel) ⟨Nat.le_of_ble_eq_true rfl, Nat.le_of_ble_eq_true rfl⟩) (hPV hK hTE (mP_h hP) (mD_h hD) hy1) rfl rfl hl.1 rfl (lv_room (Nat.le_of_ble_eq_true rfl)) dX12_cede_10 ⟨Nat.le_of_ble_eq_true rfl, Nat.le_of_ble_eq_true rfl⟩) hP hD hS hA (fun r3 u2 H locs hv hP hD hS => ?_)
    rw [← hv] at hE hp
    dsimp only at hE hp
    unfold b_X12_cede_a13 at hE
    unfold q_X12_cede_a13 at hp
    subst hQ
    exact W.iret (v := r3) hx hb hr (fun t ht hW => ⟨⟨r3, (mH S u2), rfl, hE.trans hX.symm, by rw [ht]; exact hP, hD⟩, hS.F ht⟩) hS.2.2 dX12_cede_13
  exact B_M S0 _ _ _ hX hp hP hD hS hl
def b_X12_debate_a13 (S : MS) (x1 y0 : Int32) : Int32 × MS := (y0, S)
def q_X12_debate_a13 (S : MS) (x1 y0 : Int32) : Prop := True
def f_X12_debate (S : MS) (x1 : Int32) : Int32 × MS := (b_X12_debate_a13 (mH S ((f_X11_act S.2.1 9 x1 0 0 0).2)) x1 (f_X11_act S.2.1 9 x1 0 0 0).1)
def p_X12_debate (S : MS) (x1 : Int32) : Prop := (p_X11_act S.2.1 9 x1 0 0 0) ∧ (q_X12_debate_a13 (mH S ((f_X11_act S.2.1 9 x1 0 0 0).2)) x1 (f_X11_act S.2.1 9 x1 0 0 0).1)
def e_X12_debate : List Cond := [.fieldLink RX12 16 "MotionFloorModel" "hall" "LMotionFloorModel$Hall;", .methodLink RX12 40 yX11_act, .instanceMethod yX11_act, .selects RX11 yX11_act yX11_act, .initialized RX11]
def v_X12_debate : List Cond := .code yX12_debate cX12_debate 2 (some .int) :: (e_X12_debate ++ (wsX120 ++ (v_X11_act ++ [])))
theorem te_X12_debate : GoodIn lw_tbl e_X12_debate := wGc z219 (wGc z223 (wGc z222 (wGc z221 (wGc z51 (wG0)))))
theorem t_X12_debate : GoodIn lw_tbl v_X12_debate := wGc z232 (wGa te_X12_debate (wGa zcX12 (wGa t_X11_act (wG0))))
set_option maxHeartbeats 4000000 in
set_option maxRecDepth 100000 in
theorem c_X12_debate (l : Launch) (G : va_G) (K : Nat → ClassId) (m0 : Nat) (gm : Nat → Nat) (h1 : Nat) (g1 : Nat → Nat) (h2 : Nat) (g2 : Nat → Nat) (S0 : MS) (a1 : Int32) (sz : Nat) : Met l yX12_debate v_X12_debate ({ frames := 6, cells := 0, slots := 0, locals := 156 }) (va_Pc [.ref m0, .int a1] (mSt G K m0 gm h1 g1 h2 g2 sz S0 (p_X12_debate S0 a1))) (va_Qi (fun (r : Int32) (u : MS) => (r, u) = f_X12_debate S0 a1) (mB G K m0 gm h1 g1 h2 g2 (va_A (mW K m0 gm h1 g1 h2 g2 S0) sz)) (va_A (mW K m0 gm h1 g1 h2 g2 S0) sz)) 0 0 (va_A (mW K m0 gm h1 g1 h2 g2 S0) sz) := by
  refine Met.ofW (cc := cX12_debate) (maxL := 2) (ret := (some .int)) (by decide) rfl ?_
  intro p e s m args below meth c s₁ B hml hv
  obtain ⟨rfl, ⟨hsz, hP, hK, hD0, hTE⟩, hp⟩ := hv
  have hx := B.exec
  have hb := B.bytes
  have hr := B.returns
  have hts := atoms_spec (ws := v_X12_debate) B.pre
  have t_ := t_X12_debate
  have mw : ∀ w ∈ e_X12_debate, w ∈ v_X12_debate := fun w h => List.mem_cons_of_mem _ (List.mem_append_left _ h)
  have hw := fun w (h : w ∈ e_X12_debate) => hts w (mw w h)
  have iX12 : ∀ w ∈ wsX120, w ∈ v_X12_debate := fun w h => List.mem_cons_of_mem _ (List.mem_append_right _ (List.mem_append_left _ h))
  have j_X11_act : ∀ w ∈ v_X11_act, w ∈ v_X12_debate := fun w h => List.mem_cons_of_mem _ (List.mem_append_right _ (List.mem_append_right _ (List.mem_append_left _ h)))
  have hown : s.vm.findClass RX12 = some m.cls := findClass_of_methodNamed B.named
  have hlocks := B.notSynchronized
  subst hsz
  have hD := hD0.self (sz := s.heap.size)
  generalize hAe : va_A (mW K m0 gm h1 g1 h2 g2 S0) s.heap.size = A at hD ⊢
  have hA : ∀ q : Nat, s.heap.size ≤ q → A q := fun q h => by rw [← hAe]; exact Or.inr h
  have hS : va_S A s.heap s.heap [] := va_S.rf
  have hl := lv_entry ([.ref m0, .int a1]) (n := 2) (Nat.le_of_ble_eq_true rfl)
  rw [lg_entry_eq]
  generalize (lg_sl ([.ref m0, .int a1]) ++ List.replicate (2 - (lg_sl ([.ref m0, .int a1])).length) Slot.unset).toArray = ls at hl ⊢
  have hl : lv_has ls 2 [(0, .ref m0), (1, .int a1)] := hl
  refine wGen (fun Q hQ => ?_)
  obtain ⟨X, hX⟩ : ∃ X, f_X12_debate S0 a1 = X := ⟨_, rfl⟩
  have B_M : ∀ (S : MS) (x1 : Int32) (H : Heap) (locs : List Loc) (ls : Array Slot), f_X12_debate S x1 = X → p_X12_debate S x1 → va_P G vwCl (mW K m0 gm h1 g1 h2 g2 S) H → va_D A (mW K m0 gm h1 g1 h2 g2 S) → va_S A s.heap H locs → lv_has ls 2 [(0, .ref m0), (1, .int x1)] → W p l e ({ frames := 6, cells := 0, slots := 0, locals := 156 } : Room) s m #[Value.ref m0, Value.int a1] below meth c H locs 0 0 Q (F0 m 0 ls []) := by
    intro S x1 H locs ls hE hp hP hD hS hl
    unfold f_X12_debate at hE
    unfold p_X12_debate at hp
    refine lv_aload_n hx hb dX12_debate_0 rfl (lv_at hl 0 rfl) ?_
    refine va_get (D := G) (ci := 9) (v := .ref h1) (C := RX12) (T := TX12) (N := 7) hx hb hts iX12 hown hK hP 0 rfl rfl 0 (by decide) (hw (.fieldLink RX12 16 "MotionFloorModel" "hall" "LMotionFloorModel$Hall;") (List.mem_of_getElem? (i := 0) rfl)) (fun _ h9 => h9) rfl dX12_debate_1 ?_
    refine lv_bipush (v := 9) hx hb dX12_debate_4 (by decide) ?_
    refine lv_iload_n hx hb dX12_debate_6 rfl (lv_at hl 1 rfl) ?_
    refine lv_iconst (v := 0) hx hb dX12_debate_7 (by decide) ?_
    refine lv_iconst (v := 0) hx hb dX12_debate_8 (by decide) ?_
    refine lv_iconst (v := 0) hx hb dX12_debate_9 (by decide) ?_
    obtain ⟨hy1, hp⟩ := hp
    refine mGoi_h (va_runV (As := [.int 9, .int x1, .int 0, .int 0, .int 0]) (rest := []) ⟨hx, hb, hml, hown, hts⟩ (c_X11_act l G K h1 g1 S.2.1 9 x1 0 0 0 _) (cwV 5 hts (wGV t_ (mw (.methodLink RX12 40 yX11_act) (List.mem_of_getElem? (i := 1) rfl)) (mw (.instanceMethod yX11_act) (List.mem_of_getElem? (i := 2) rfl)) (mw (.selects RX11 yX11_act yX11_act) (List.mem_of_getElem? (i := 3) rfl)) (mw (.initialized RX11) (List.mem_of_getElem? (i := 4) rfl)) j_X11_act) rfl rfl rfl (by decide +kernel) ⟨Nat.le_of_ble_eq_true rfl, Nat.le_of_ble_eq_true rfl⟩) (hPV hK hTE (mP_h hP) (mD_h hD) hy1) rfl rfl hl.1 rfl (lv_room (Nat.le_of_ble_eq_true rfl)) dX12_debate_10 ⟨Nat.le_of_ble_eq_true rfl, Nat.le_of_ble_eq_true rfl⟩) hP hD hS hA (fun r3 u2 H locs hv hP hD hS => ?_)
    rw [← hv] at hE hp
    dsimp only at hE hp
    unfold b_X12_debate_a13 at hE
    unfold q_X12_debate_a13 at hp
    subst hQ
    exact W.iret (v := r3) hx hb hr (fun t ht hW => ⟨⟨r3, (mH S u2), rfl, hE.trans hX.symm, by rw [ht]; exact hP, hD⟩, hS.F ht⟩) hS.2.2 dX12_debate_13
  exact B_M S0 a1 _ _ _ hX hp hP hD hS hl
def b_X12_draft_a13 (S : MS) (x1 y0 : Int32) : Int32 × MS := (y0, S)
def q_X12_draft_a13 (S : MS) (x1 y0 : Int32) : Prop := True
def f_X12_draft (S : MS) (x1 : Int32) : Int32 × MS := (b_X12_draft_a13 (mH S ((f_X11_act S.2.1 10 x1 0 0 0).2)) x1 (f_X11_act S.2.1 10 x1 0 0 0).1)
def p_X12_draft (S : MS) (x1 : Int32) : Prop := (p_X11_act S.2.1 10 x1 0 0 0) ∧ (q_X12_draft_a13 (mH S ((f_X11_act S.2.1 10 x1 0 0 0).2)) x1 (f_X11_act S.2.1 10 x1 0 0 0).1)
def e_X12_draft : List Cond := [.fieldLink RX12 16 "MotionFloorModel" "hall" "LMotionFloorModel$Hall;", .methodLink RX12 40 yX11_act, .instanceMethod yX11_act, .selects RX11 yX11_act yX11_act, .initialized RX11]
def v_X12_draft : List Cond := .code yX12_draft cX12_draft 2 (some .int) :: (e_X12_draft ++ (wsX120 ++ (v_X11_act ++ [])))
theorem te_X12_draft : GoodIn lw_tbl e_X12_draft := wGc z219 (wGc z223 (wGc z222 (wGc z221 (wGc z51 (wG0)))))
theorem t_X12_draft : GoodIn lw_tbl v_X12_draft := wGc z233 (wGa te_X12_draft (wGa zcX12 (wGa t_X11_act (wG0))))
set_option maxHeartbeats 4000000 in
set_option maxRecDepth 100000 in
theorem c_X12_draft (l : Launch) (G : va_G) (K : Nat → ClassId) (m0 : Nat) (gm : Nat → Nat) (h1 : Nat) (g1 : Nat → Nat) (h2 : Nat) (g2 : Nat → Nat) (S0 : MS) (a1 : Int32) (sz : Nat) : Met l yX12_draft v_X12_draft ({ frames := 6, cells := 0, slots := 0, locals := 156 }) (va_Pc [.ref m0, .int a1] (mSt G K m0 gm h1 g1 h2 g2 sz S0 (p_X12_draft S0 a1))) (va_Qi (fun (r : Int32) (u : MS) => (r, u) = f_X12_draft S0 a1) (mB G K m0 gm h1 g1 h2 g2 (va_A (mW K m0 gm h1 g1 h2 g2 S0) sz)) (va_A (mW K m0 gm h1 g1 h2 g2 S0) sz)) 0 0 (va_A (mW K m0 gm h1 g1 h2 g2 S0) sz) := by
  refine Met.ofW (cc := cX12_draft) (maxL := 2) (ret := (some .int)) (by decide) rfl ?_
  intro p e s m args below meth c s₁ B hml hv
  obtain ⟨rfl, ⟨hsz, hP, hK, hD0, hTE⟩, hp⟩ := hv
  have hx := B.exec
  have hb := B.bytes
  have hr := B.returns
  have hts := atoms_spec (ws := v_X12_draft) B.pre
  have t_ := t_X12_draft
  have mw : ∀ w ∈ e_X12_draft, w ∈ v_X12_draft := fun w h => List.mem_cons_of_mem _ (List.mem_append_left _ h)
  have hw := fun w (h : w ∈ e_X12_draft) => hts w (mw w h)
  have iX12 : ∀ w ∈ wsX120, w ∈ v_X12_draft := fun w h => List.mem_cons_of_mem _ (List.mem_append_right _ (List.mem_append_left _ h))
  have j_X11_act : ∀ w ∈ v_X11_act, w ∈ v_X12_draft := fun w h => List.mem_cons_of_mem _ (List.mem_append_right _ (List.mem_append_right _ (List.mem_append_left _ h)))
  have hown : s.vm.findClass RX12 = some m.cls := findClass_of_methodNamed B.named
  have hlocks := B.notSynchronized
  subst hsz
  have hD := hD0.self (sz := s.heap.size)
  generalize hAe : va_A (mW K m0 gm h1 g1 h2 g2 S0) s.heap.size = A at hD ⊢
  have hA : ∀ q : Nat, s.heap.size ≤ q → A q := fun q h => by rw [← hAe]; exact Or.inr h
  have hS : va_S A s.heap s.heap [] := va_S.rf
  have hl := lv_entry ([.ref m0, .int a1]) (n := 2) (Nat.le_of_ble_eq_true rfl)
  rw [lg_entry_eq]
  generalize (lg_sl ([.ref m0, .int a1]) ++ List.replicate (2 - (lg_sl ([.ref m0, .int a1])).length) Slot.unset).toArray = ls at hl ⊢
  have hl : lv_has ls 2 [(0, .ref m0), (1, .int a1)] := hl
  refine wGen (fun Q hQ => ?_)
  obtain ⟨X, hX⟩ : ∃ X, f_X12_draft S0 a1 = X := ⟨_, rfl⟩
  have B_M : ∀ (S : MS) (x1 : Int32) (H : Heap) (locs : List Loc) (ls : Array Slot), f_X12_draft S x1 = X → p_X12_draft S x1 → va_P G vwCl (mW K m0 gm h1 g1 h2 g2 S) H → va_D A (mW K m0 gm h1 g1 h2 g2 S) → va_S A s.heap H locs → lv_has ls 2 [(0, .ref m0), (1, .int x1)] → W p l e ({ frames := 6, cells := 0, slots := 0, locals := 156 } : Room) s m #[Value.ref m0, Value.int a1] below meth c H locs 0 0 Q (F0 m 0 ls []) := by
    intro S x1 H locs ls hE hp hP hD hS hl
    unfold f_X12_draft at hE
    unfold p_X12_draft at hp
    refine lv_aload_n hx hb dX12_draft_0 rfl (lv_at hl 0 rfl) ?_
    refine va_get (D := G) (ci := 9) (v := .ref h1) (C := RX12) (T := TX12) (N := 7) hx hb hts iX12 hown hK hP 0 rfl rfl 0 (by decide) (hw (.fieldLink RX12 16 "MotionFloorModel" "hall" "LMotionFloorModel$Hall;") (List.mem_of_getElem? (i := 0) rfl)) (fun _ h9 => h9) rfl dX12_draft_1 ?_
    refine lv_bipush (v := 10) hx hb dX12_draft_4 (by decide) ?_
    refine lv_iload_n hx hb dX12_draft_6 rfl (lv_at hl 1 rfl) ?_
    refine lv_iconst (v := 0) hx hb dX12_draft_7 (by decide) ?_
    refine lv_iconst (v := 0) hx hb dX12_draft_8 (by decide) ?_
    refine lv_iconst (v := 0) hx hb dX12_draft_9 (by decide) ?_
    obtain ⟨hy1, hp⟩ := hp
    refine mGoi_h (va_runV (As := [.int 10, .int x1, .int 0, .int 0, .int 0]) (rest := []) ⟨hx, hb, hml, hown, hts⟩ (c_X11_act l G K h1 g1 S.2.1 10 x1 0 0 0 _) (cwV 5 hts (wGV t_ (mw (.methodLink RX12 40 yX11_act) (List.mem_of_getElem? (i := 1) rfl)) (mw (.instanceMethod yX11_act) (List.mem_of_getElem? (i := 2) rfl)) (mw (.selects RX11 yX11_act yX11_act) (List.mem_of_getElem? (i := 3) rfl)) (mw (.initialized RX11) (List.mem_of_getElem? (i := 4) rfl)) j_X11_act) rfl rfl rfl (by decide +kernel) ⟨Nat.le_of_ble_eq_true rfl, Nat.le_of_ble_eq_true rfl⟩) (hPV hK hTE (mP_h hP) (mD_h hD) hy1) rfl rfl hl.1 rfl (lv_room (Nat.le_of_ble_eq_true rfl)) dX12_draft_10 ⟨Nat.le_of_ble_eq_true rfl, Nat.le_of_ble_eq_true rfl⟩) hP hD hS hA (fun r3 u2 H locs hv hP hD hS => ?_)
    rw [← hv] at hE hp
    dsimp only at hE hp
    unfold b_X12_draft_a13 at hE
    unfold q_X12_draft_a13 at hp
    subst hQ
    exact W.iret (v := r3) hx hb hr (fun t ht hW => ⟨⟨r3, (mH S u2), rfl, hE.trans hX.symm, by rw [ht]; exact hP, hD⟩, hS.F ht⟩) hS.2.2 dX12_draft_13
  exact B_M S0 a1 _ _ _ hX hp hP hD hS hl
def b_X12_span_a13 (S : MS) (x1 x2 y0 : Int32) : Int32 × MS := (y0, S)
def q_X12_span_a13 (S : MS) (x1 x2 y0 : Int32) : Prop := True
def f_X12_span (S : MS) (x1 x2 : Int32) : Int32 × MS := (b_X12_span_a13 (mH S ((f_X11_act S.2.1 11 x1 x2 0 0).2)) x1 x2 (f_X11_act S.2.1 11 x1 x2 0 0).1)
def p_X12_span (S : MS) (x1 x2 : Int32) : Prop := (p_X11_act S.2.1 11 x1 x2 0 0) ∧ (q_X12_span_a13 (mH S ((f_X11_act S.2.1 11 x1 x2 0 0).2)) x1 x2 (f_X11_act S.2.1 11 x1 x2 0 0).1)
def e_X12_span : List Cond := [.fieldLink RX12 16 "MotionFloorModel" "hall" "LMotionFloorModel$Hall;", .methodLink RX12 40 yX11_act, .instanceMethod yX11_act, .selects RX11 yX11_act yX11_act, .initialized RX11]
def v_X12_span : List Cond := .code yX12_span cX12_span 3 (some .int) :: (e_X12_span ++ (wsX120 ++ (v_X11_act ++ [])))
theorem te_X12_span : GoodIn lw_tbl e_X12_span := wGc z219 (wGc z223 (wGc z222 (wGc z221 (wGc z51 (wG0)))))
theorem t_X12_span : GoodIn lw_tbl v_X12_span := wGc z234 (wGa te_X12_span (wGa zcX12 (wGa t_X11_act (wG0))))
set_option maxHeartbeats 4000000 in
set_option maxRecDepth 100000 in
theorem c_X12_span (l : Launch) (G : va_G) (K : Nat → ClassId) (m0 : Nat) (gm : Nat → Nat) (h1 : Nat) (g1 : Nat → Nat) (h2 : Nat) (g2 : Nat → Nat) (S0 : MS) (a1 a2 : Int32) (sz : Nat) : Met l yX12_span v_X12_span ({ frames := 6, cells := 0, slots := 0, locals := 156 }) (va_Pc [.ref m0, .int a1, .int a2] (mSt G K m0 gm h1 g1 h2 g2 sz S0 (p_X12_span S0 a1 a2))) (va_Qi (fun (r : Int32) (u : MS) => (r, u) = f_X12_span S0 a1 a2) (mB G K m0 gm h1 g1 h2 g2 (va_A (mW K m0 gm h1 g1 h2 g2 S0) sz)) (va_A (mW K m0 gm h1 g1 h2 g2 S0) sz)) 0 0 (va_A (mW K m0 gm h1 g1 h2 g2 S0) sz) := by
  refine Met.ofW (cc := cX12_span) (maxL := 3) (ret := (some .int)) (by decide) rfl ?_
  intro p e s m args below meth c s₁ B hml hv
  obtain ⟨rfl, ⟨hsz, hP, hK, hD0, hTE⟩, hp⟩ := hv
  have hx := B.exec
  have hb := B.bytes
  have hr := B.returns
  have hts := atoms_spec (ws := v_X12_span) B.pre
  have t_ := t_X12_span
  have mw : ∀ w ∈ e_X12_span, w ∈ v_X12_span := fun w h => List.mem_cons_of_mem _ (List.mem_append_left _ h)
  have hw := fun w (h : w ∈ e_X12_span) => hts w (mw w h)
  have iX12 : ∀ w ∈ wsX120, w ∈ v_X12_span := fun w h => List.mem_cons_of_mem _ (List.mem_append_right _ (List.mem_append_left _ h))
  have j_X11_act : ∀ w ∈ v_X11_act, w ∈ v_X12_span := fun w h => List.mem_cons_of_mem _ (List.mem_append_right _ (List.mem_append_right _ (List.mem_append_left _ h)))
  have hown : s.vm.findClass RX12 = some m.cls := findClass_of_methodNamed B.named
  have hlocks := B.notSynchronized
  subst hsz
  have hD := hD0.self (sz := s.heap.size)
  generalize hAe : va_A (mW K m0 gm h1 g1 h2 g2 S0) s.heap.size = A at hD ⊢
  have hA : ∀ q : Nat, s.heap.size ≤ q → A q := fun q h => by rw [← hAe]; exact Or.inr h
  have hS : va_S A s.heap s.heap [] := va_S.rf
  have hl := lv_entry ([.ref m0, .int a1, .int a2]) (n := 3) (Nat.le_of_ble_eq_true rfl)
  rw [lg_entry_eq]
  generalize (lg_sl ([.ref m0, .int a1, .int a2]) ++ List.replicate (3 - (lg_sl ([.ref m0, .int a1, .int a2])).length) Slot.unset).toArray = ls at hl ⊢
  have hl : lv_has ls 3 [(0, .ref m0), (1, .int a1), (2, .int a2)] := hl
  refine wGen (fun Q hQ => ?_)
  obtain ⟨X, hX⟩ : ∃ X, f_X12_span S0 a1 a2 = X := ⟨_, rfl⟩
  have B_M : ∀ (S : MS) (x1 x2 : Int32) (H : Heap) (locs : List Loc) (ls : Array Slot), f_X12_span S x1 x2 = X → p_X12_span S x1 x2 → va_P G vwCl (mW K m0 gm h1 g1 h2 g2 S) H → va_D A (mW K m0 gm h1 g1 h2 g2 S) → va_S A s.heap H locs → lv_has ls 3 [(0, .ref m0), (1, .int x1), (2, .int x2)] → W p l e ({ frames := 6, cells := 0, slots := 0, locals := 156 } : Room) s m #[Value.ref m0, Value.int a1, Value.int a2] below meth c H locs 0 0 Q (F0 m 0 ls []) := by
    intro S x1 x2 H locs ls hE hp hP hD hS hl
    unfold f_X12_span at hE
    unfold p_X12_span at hp
    refine lv_aload_n hx hb dX12_span_0 rfl (lv_at hl 0 rfl) ?_
    refine va_get (D := G) (ci := 9) (v := .ref h1) (C := RX12) (T := TX12) (N := 7) hx hb hts iX12 hown hK hP 0 rfl rfl 0 (by decide) (hw (.fieldLink RX12 16 "MotionFloorModel" "hall" "LMotionFloorModel$Hall;") (List.mem_of_getElem? (i := 0) rfl)) (fun _ h9 => h9) rfl dX12_span_1 ?_
    refine lv_bipush (v := 11) hx hb dX12_span_4 (by decide) ?_
    refine lv_iload_n hx hb dX12_span_6 rfl (lv_at hl 1 rfl) ?_
    refine lv_iload_n hx hb dX12_span_7 rfl (lv_at hl 2 rfl) ?_
    refine lv_iconst (v := 0) hx hb dX12_span_8 (by decide) ?_
    refine lv_iconst (v := 0) hx hb dX12_span_9 (by decide) ?_
    obtain ⟨hy1, hp⟩ := hp
    refine mGoi_h (va_runV (As := [.int 11, .int x1, .int x2, .int 0, .int 0]) (rest := []) ⟨hx, hb, hml, hown, hts⟩ (c_X11_act l G K h1 g1 S.2.1 11 x1 x2 0 0 _) (cwV 5 hts (wGV t_ (mw (.methodLink RX12 40 yX11_act) (List.mem_of_getElem? (i := 1) rfl)) (mw (.instanceMethod yX11_act) (List.mem_of_getElem? (i := 2) rfl)) (mw (.selects RX11 yX11_act yX11_act) (List.mem_of_getElem? (i := 3) rfl)) (mw (.initialized RX11) (List.mem_of_getElem? (i := 4) rfl)) j_X11_act) rfl rfl rfl (by decide +kernel) ⟨Nat.le_of_ble_eq_true rfl, Nat.le_of_ble_eq_true rfl⟩) (hPV hK hTE (mP_h hP) (mD_h hD) hy1) rfl rfl hl.1 rfl (lv_room (Nat.le_of_ble_eq_true rfl)) dX12_span_10 ⟨Nat.le_of_ble_eq_true rfl, Nat.le_of_ble_eq_true rfl⟩) hP hD hS hA (fun r3 u2 H locs hv hP hD hS => ?_)
    rw [← hv] at hE hp
    dsimp only at hE hp
    unfold b_X12_span_a13 at hE
    unfold q_X12_span_a13 at hp
    subst hQ
    exact W.iret (v := r3) hx hb hr (fun t ht hW => ⟨⟨r3, (mH S u2), rfl, hE.trans hX.symm, by rw [ht]; exact hP, hD⟩, hS.F ht⟩) hS.2.2 dX12_span_13
  exact B_M S0 a1 a2 _ _ _ hX hp hP hD hS hl
def b_X12_word_a14 (S : MS) (x1 x2 x3 x4 y0 : Int32) : Int32 × MS := (y0, S)
def q_X12_word_a14 (S : MS) (x1 x2 x3 x4 y0 : Int32) : Prop := True
def f_X12_word (S : MS) (x1 x2 x3 x4 : Int32) : Int32 × MS := (b_X12_word_a14 (mH S ((f_X11_act S.2.1 12 x1 x2 x3 x4).2)) x1 x2 x3 x4 (f_X11_act S.2.1 12 x1 x2 x3 x4).1)
def p_X12_word (S : MS) (x1 x2 x3 x4 : Int32) : Prop := (p_X11_act S.2.1 12 x1 x2 x3 x4) ∧ (q_X12_word_a14 (mH S ((f_X11_act S.2.1 12 x1 x2 x3 x4).2)) x1 x2 x3 x4 (f_X11_act S.2.1 12 x1 x2 x3 x4).1)
def e_X12_word : List Cond := [.fieldLink RX12 16 "MotionFloorModel" "hall" "LMotionFloorModel$Hall;", .methodLink RX12 40 yX11_act, .instanceMethod yX11_act, .selects RX11 yX11_act yX11_act, .initialized RX11]
def v_X12_word : List Cond := .code yX12_word cX12_word 5 (some .int) :: (e_X12_word ++ (wsX120 ++ (v_X11_act ++ [])))
theorem te_X12_word : GoodIn lw_tbl e_X12_word := wGc z219 (wGc z223 (wGc z222 (wGc z221 (wGc z51 (wG0)))))
theorem t_X12_word : GoodIn lw_tbl v_X12_word := wGc z235 (wGa te_X12_word (wGa zcX12 (wGa t_X11_act (wG0))))
set_option maxHeartbeats 4000000 in
set_option maxRecDepth 100000 in
theorem c_X12_word (l : Launch) (G : va_G) (K : Nat → ClassId) (m0 : Nat) (gm : Nat → Nat) (h1 : Nat) (g1 : Nat → Nat) (h2 : Nat) (g2 : Nat → Nat) (S0 : MS) (a1 a2 a3 a4 : Int32) (sz : Nat) : Met l yX12_word v_X12_word ({ frames := 6, cells := 0, slots := 0, locals := 156 }) (va_Pc [.ref m0, .int a1, .int a2, .int a3, .int a4] (mSt G K m0 gm h1 g1 h2 g2 sz S0 (p_X12_word S0 a1 a2 a3 a4))) (va_Qi (fun (r : Int32) (u : MS) => (r, u) = f_X12_word S0 a1 a2 a3 a4) (mB G K m0 gm h1 g1 h2 g2 (va_A (mW K m0 gm h1 g1 h2 g2 S0) sz)) (va_A (mW K m0 gm h1 g1 h2 g2 S0) sz)) 0 0 (va_A (mW K m0 gm h1 g1 h2 g2 S0) sz) := by
  refine Met.ofW (cc := cX12_word) (maxL := 5) (ret := (some .int)) (by decide) rfl ?_
  intro p e s m args below meth c s₁ B hml hv
  obtain ⟨rfl, ⟨hsz, hP, hK, hD0, hTE⟩, hp⟩ := hv
  have hx := B.exec
  have hb := B.bytes
  have hr := B.returns
  have hts := atoms_spec (ws := v_X12_word) B.pre
  have t_ := t_X12_word
  have mw : ∀ w ∈ e_X12_word, w ∈ v_X12_word := fun w h => List.mem_cons_of_mem _ (List.mem_append_left _ h)
  have hw := fun w (h : w ∈ e_X12_word) => hts w (mw w h)
  have iX12 : ∀ w ∈ wsX120, w ∈ v_X12_word := fun w h => List.mem_cons_of_mem _ (List.mem_append_right _ (List.mem_append_left _ h))
  have j_X11_act : ∀ w ∈ v_X11_act, w ∈ v_X12_word := fun w h => List.mem_cons_of_mem _ (List.mem_append_right _ (List.mem_append_right _ (List.mem_append_left _ h)))
  have hown : s.vm.findClass RX12 = some m.cls := findClass_of_methodNamed B.named
  have hlocks := B.notSynchronized
  subst hsz
  have hD := hD0.self (sz := s.heap.size)
  generalize hAe : va_A (mW K m0 gm h1 g1 h2 g2 S0) s.heap.size = A at hD ⊢
  have hA : ∀ q : Nat, s.heap.size ≤ q → A q := fun q h => by rw [← hAe]; exact Or.inr h
  have hS : va_S A s.heap s.heap [] := va_S.rf
  have hl := lv_entry ([.ref m0, .int a1, .int a2, .int a3, .int a4]) (n := 5) (Nat.le_of_ble_eq_true rfl)
  rw [lg_entry_eq]
  generalize (lg_sl ([.ref m0, .int a1, .int a2, .int a3, .int a4]) ++ List.replicate (5 - (lg_sl ([.ref m0, .int a1, .int a2, .int a3, .int a4])).length) Slot.unset).toArray = ls at hl ⊢
  have hl : lv_has ls 5 [(0, .ref m0), (1, .int a1), (2, .int a2), (3, .int a3), (4, .int a4)] := hl
  refine wGen (fun Q hQ => ?_)
  obtain ⟨X, hX⟩ : ∃ X, f_X12_word S0 a1 a2 a3 a4 = X := ⟨_, rfl⟩
  have B_M : ∀ (S : MS) (x1 x2 x3 x4 : Int32) (H : Heap) (locs : List Loc) (ls : Array Slot), f_X12_word S x1 x2 x3 x4 = X → p_X12_word S x1 x2 x3 x4 → va_P G vwCl (mW K m0 gm h1 g1 h2 g2 S) H → va_D A (mW K m0 gm h1 g1 h2 g2 S) → va_S A s.heap H locs → lv_has ls 5 [(0, .ref m0), (1, .int x1), (2, .int x2), (3, .int x3), (4, .int x4)] → W p l e ({ frames := 6, cells := 0, slots := 0, locals := 156 } : Room) s m #[Value.ref m0, Value.int a1, Value.int a2, Value.int a3, Value.int a4] below meth c H locs 0 0 Q (F0 m 0 ls []) := by
    intro S x1 x2 x3 x4 H locs ls hE hp hP hD hS hl
    unfold f_X12_word at hE
    unfold p_X12_word at hp
    refine lv_aload_n hx hb dX12_word_0 rfl (lv_at hl 0 rfl) ?_
    refine va_get (D := G) (ci := 9) (v := .ref h1) (C := RX12) (T := TX12) (N := 7) hx hb hts iX12 hown hK hP 0 rfl rfl 0 (by decide) (hw (.fieldLink RX12 16 "MotionFloorModel" "hall" "LMotionFloorModel$Hall;") (List.mem_of_getElem? (i := 0) rfl)) (fun _ h9 => h9) rfl dX12_word_1 ?_
    refine lv_bipush (v := 12) hx hb dX12_word_4 (by decide) ?_
    refine lv_iload_n hx hb dX12_word_6 rfl (lv_at hl 1 rfl) ?_
    refine lv_iload_n hx hb dX12_word_7 rfl (lv_at hl 2 rfl) ?_
    refine lv_iload_n hx hb dX12_word_8 rfl (lv_at hl 3 rfl) ?_
    refine lv_iload hx hb dX12_word_9 (lv_at hl 4 rfl) ?_
    obtain ⟨hy1, hp⟩ := hp
    refine mGoi_h (va_runV (As := [.int 12, .int x1, .int x2, .int x3, .int x4]) (rest := []) ⟨hx, hb, hml, hown, hts⟩ (c_X11_act l G K h1 g1 S.2.1 12 x1 x2 x3 x4 _) (cwV 5 hts (wGV t_ (mw (.methodLink RX12 40 yX11_act) (List.mem_of_getElem? (i := 1) rfl)) (mw (.instanceMethod yX11_act) (List.mem_of_getElem? (i := 2) rfl)) (mw (.selects RX11 yX11_act yX11_act) (List.mem_of_getElem? (i := 3) rfl)) (mw (.initialized RX11) (List.mem_of_getElem? (i := 4) rfl)) j_X11_act) rfl rfl rfl (by decide +kernel) ⟨Nat.le_of_ble_eq_true rfl, Nat.le_of_ble_eq_true rfl⟩) (hPV hK hTE (mP_h hP) (mD_h hD) hy1) rfl rfl hl.1 rfl (lv_room (Nat.le_of_ble_eq_true rfl)) dX12_word_11 ⟨Nat.le_of_ble_eq_true rfl, Nat.le_of_ble_eq_true rfl⟩) hP hD hS hA (fun r3 u2 H locs hv hP hD hS => ?_)
    rw [← hv] at hE hp
    dsimp only at hE hp
    unfold b_X12_word_a14 at hE
    unfold q_X12_word_a14 at hp
    subst hQ
    exact W.iret (v := r3) hx hb hr (fun t ht hW => ⟨⟨r3, (mH S u2), rfl, hE.trans hX.symm, by rw [ht]; exact hP, hD⟩, hS.F ht⟩) hS.2.2 dX12_word_14
  exact B_M S0 a1 a2 a3 a4 _ _ _ hX hp hP hD hS hl
def b_X12_lay_a13 (S : MS) (x1 y0 : Int32) : Int32 × MS := (y0, S)
def q_X12_lay_a13 (S : MS) (x1 y0 : Int32) : Prop := True
def f_X12_lay (S : MS) (x1 : Int32) : Int32 × MS := (b_X12_lay_a13 (mH S ((f_X11_act S.2.1 13 x1 0 0 0).2)) x1 (f_X11_act S.2.1 13 x1 0 0 0).1)
def p_X12_lay (S : MS) (x1 : Int32) : Prop := (p_X11_act S.2.1 13 x1 0 0 0) ∧ (q_X12_lay_a13 (mH S ((f_X11_act S.2.1 13 x1 0 0 0).2)) x1 (f_X11_act S.2.1 13 x1 0 0 0).1)
def e_X12_lay : List Cond := [.fieldLink RX12 16 "MotionFloorModel" "hall" "LMotionFloorModel$Hall;", .methodLink RX12 40 yX11_act, .instanceMethod yX11_act, .selects RX11 yX11_act yX11_act, .initialized RX11]
def v_X12_lay : List Cond := .code yX12_lay cX12_lay 2 (some .int) :: (e_X12_lay ++ (wsX120 ++ (v_X11_act ++ [])))
theorem te_X12_lay : GoodIn lw_tbl e_X12_lay := wGc z219 (wGc z223 (wGc z222 (wGc z221 (wGc z51 (wG0)))))
theorem t_X12_lay : GoodIn lw_tbl v_X12_lay := wGc z236 (wGa te_X12_lay (wGa zcX12 (wGa t_X11_act (wG0))))
set_option maxHeartbeats 4000000 in
set_option maxRecDepth 100000 in
theorem c_X12_lay (l : Launch) (G : va_G) (K : Nat → ClassId) (m0 : Nat) (gm : Nat → Nat) (h1 : Nat) (g1 : Nat → Nat) (h2 : Nat) (g2 : Nat → Nat) (S0 : MS) (a1 : Int32) (sz : Nat) : Met l yX12_lay v_X12_lay ({ frames := 6, cells := 0, slots := 0, locals := 156 }) (va_Pc [.ref m0, .int a1] (mSt G K m0 gm h1 g1 h2 g2 sz S0 (p_X12_lay S0 a1))) (va_Qi (fun (r : Int32) (u : MS) => (r, u) = f_X12_lay S0 a1) (mB G K m0 gm h1 g1 h2 g2 (va_A (mW K m0 gm h1 g1 h2 g2 S0) sz)) (va_A (mW K m0 gm h1 g1 h2 g2 S0) sz)) 0 0 (va_A (mW K m0 gm h1 g1 h2 g2 S0) sz) := by
  refine Met.ofW (cc := cX12_lay) (maxL := 2) (ret := (some .int)) (by decide) rfl ?_
  intro p e s m args below meth c s₁ B hml hv
  obtain ⟨rfl, ⟨hsz, hP, hK, hD0, hTE⟩, hp⟩ := hv
  have hx := B.exec
  have hb := B.bytes
  have hr := B.returns
  have hts := atoms_spec (ws := v_X12_lay) B.pre
  have t_ := t_X12_lay
  have mw : ∀ w ∈ e_X12_lay, w ∈ v_X12_lay := fun w h => List.mem_cons_of_mem _ (List.mem_append_left _ h)
  have hw := fun w (h : w ∈ e_X12_lay) => hts w (mw w h)
  have iX12 : ∀ w ∈ wsX120, w ∈ v_X12_lay := fun w h => List.mem_cons_of_mem _ (List.mem_append_right _ (List.mem_append_left _ h))
  have j_X11_act : ∀ w ∈ v_X11_act, w ∈ v_X12_lay := fun w h => List.mem_cons_of_mem _ (List.mem_append_right _ (List.mem_append_right _ (List.mem_append_left _ h)))
  have hown : s.vm.findClass RX12 = some m.cls := findClass_of_methodNamed B.named
  have hlocks := B.notSynchronized
  subst hsz
  have hD := hD0.self (sz := s.heap.size)
  generalize hAe : va_A (mW K m0 gm h1 g1 h2 g2 S0) s.heap.size = A at hD ⊢
  have hA : ∀ q : Nat, s.heap.size ≤ q → A q := fun q h => by rw [← hAe]; exact Or.inr h
  have hS : va_S A s.heap s.heap [] := va_S.rf
  have hl := lv_entry ([.ref m0, .int a1]) (n := 2) (Nat.le_of_ble_eq_true rfl)
  rw [lg_entry_eq]
  generalize (lg_sl ([.ref m0, .int a1]) ++ List.replicate (2 - (lg_sl ([.ref m0, .int a1])).length) Slot.unset).toArray = ls at hl ⊢
  have hl : lv_has ls 2 [(0, .ref m0), (1, .int a1)] := hl
  refine wGen (fun Q hQ => ?_)
  obtain ⟨X, hX⟩ : ∃ X, f_X12_lay S0 a1 = X := ⟨_, rfl⟩
  have B_M : ∀ (S : MS) (x1 : Int32) (H : Heap) (locs : List Loc) (ls : Array Slot), f_X12_lay S x1 = X → p_X12_lay S x1 → va_P G vwCl (mW K m0 gm h1 g1 h2 g2 S) H → va_D A (mW K m0 gm h1 g1 h2 g2 S) → va_S A s.heap H locs → lv_has ls 2 [(0, .ref m0), (1, .int x1)] → W p l e ({ frames := 6, cells := 0, slots := 0, locals := 156 } : Room) s m #[Value.ref m0, Value.int a1] below meth c H locs 0 0 Q (F0 m 0 ls []) := by
    intro S x1 H locs ls hE hp hP hD hS hl
    unfold f_X12_lay at hE
    unfold p_X12_lay at hp
    refine lv_aload_n hx hb dX12_lay_0 rfl (lv_at hl 0 rfl) ?_
    refine va_get (D := G) (ci := 9) (v := .ref h1) (C := RX12) (T := TX12) (N := 7) hx hb hts iX12 hown hK hP 0 rfl rfl 0 (by decide) (hw (.fieldLink RX12 16 "MotionFloorModel" "hall" "LMotionFloorModel$Hall;") (List.mem_of_getElem? (i := 0) rfl)) (fun _ h9 => h9) rfl dX12_lay_1 ?_
    refine lv_bipush (v := 13) hx hb dX12_lay_4 (by decide) ?_
    refine lv_iload_n hx hb dX12_lay_6 rfl (lv_at hl 1 rfl) ?_
    refine lv_iconst (v := 0) hx hb dX12_lay_7 (by decide) ?_
    refine lv_iconst (v := 0) hx hb dX12_lay_8 (by decide) ?_
    refine lv_iconst (v := 0) hx hb dX12_lay_9 (by decide) ?_
    obtain ⟨hy1, hp⟩ := hp
    refine mGoi_h (va_runV (As := [.int 13, .int x1, .int 0, .int 0, .int 0]) (rest := []) ⟨hx, hb, hml, hown, hts⟩ (c_X11_act l G K h1 g1 S.2.1 13 x1 0 0 0 _) (cwV 5 hts (wGV t_ (mw (.methodLink RX12 40 yX11_act) (List.mem_of_getElem? (i := 1) rfl)) (mw (.instanceMethod yX11_act) (List.mem_of_getElem? (i := 2) rfl)) (mw (.selects RX11 yX11_act yX11_act) (List.mem_of_getElem? (i := 3) rfl)) (mw (.initialized RX11) (List.mem_of_getElem? (i := 4) rfl)) j_X11_act) rfl rfl rfl (by decide +kernel) ⟨Nat.le_of_ble_eq_true rfl, Nat.le_of_ble_eq_true rfl⟩) (hPV hK hTE (mP_h hP) (mD_h hD) hy1) rfl rfl hl.1 rfl (lv_room (Nat.le_of_ble_eq_true rfl)) dX12_lay_10 ⟨Nat.le_of_ble_eq_true rfl, Nat.le_of_ble_eq_true rfl⟩) hP hD hS hA (fun r3 u2 H locs hv hP hD hS => ?_)
    rw [← hv] at hE hp
    dsimp only at hE hp
    unfold b_X12_lay_a13 at hE
    unfold q_X12_lay_a13 at hp
    subst hQ
    exact W.iret (v := r3) hx hb hr (fun t ht hW => ⟨⟨r3, (mH S u2), rfl, hE.trans hX.symm, by rw [ht]; exact hP, hD⟩, hS.F ht⟩) hS.2.2 dX12_lay_13
  exact B_M S0 a1 _ _ _ hX hp hP hD hS hl
def b_X12_take_a13 (S : MS) (x1 y0 : Int32) : Int32 × MS := (y0, S)
def q_X12_take_a13 (S : MS) (x1 y0 : Int32) : Prop := True
def f_X12_take (S : MS) (x1 : Int32) : Int32 × MS := (b_X12_take_a13 (mH S ((f_X11_act S.2.1 14 x1 0 0 0).2)) x1 (f_X11_act S.2.1 14 x1 0 0 0).1)
def p_X12_take (S : MS) (x1 : Int32) : Prop := (p_X11_act S.2.1 14 x1 0 0 0) ∧ (q_X12_take_a13 (mH S ((f_X11_act S.2.1 14 x1 0 0 0).2)) x1 (f_X11_act S.2.1 14 x1 0 0 0).1)
def e_X12_take : List Cond := [.fieldLink RX12 16 "MotionFloorModel" "hall" "LMotionFloorModel$Hall;", .methodLink RX12 40 yX11_act, .instanceMethod yX11_act, .selects RX11 yX11_act yX11_act, .initialized RX11]
def v_X12_take : List Cond := .code yX12_take cX12_take 2 (some .int) :: (e_X12_take ++ (wsX120 ++ (v_X11_act ++ [])))
theorem te_X12_take : GoodIn lw_tbl e_X12_take := wGc z219 (wGc z223 (wGc z222 (wGc z221 (wGc z51 (wG0)))))
theorem t_X12_take : GoodIn lw_tbl v_X12_take := wGc z237 (wGa te_X12_take (wGa zcX12 (wGa t_X11_act (wG0))))
set_option maxHeartbeats 4000000 in
set_option maxRecDepth 100000 in
theorem c_X12_take (l : Launch) (G : va_G) (K : Nat → ClassId) (m0 : Nat) (gm : Nat → Nat) (h1 : Nat) (g1 : Nat → Nat) (h2 : Nat) (g2 : Nat → Nat) (S0 : MS) (a1 : Int32) (sz : Nat) : Met l yX12_take v_X12_take ({ frames := 6, cells := 0, slots := 0, locals := 156 }) (va_Pc [.ref m0, .int a1] (mSt G K m0 gm h1 g1 h2 g2 sz S0 (p_X12_take S0 a1))) (va_Qi (fun (r : Int32) (u : MS) => (r, u) = f_X12_take S0 a1) (mB G K m0 gm h1 g1 h2 g2 (va_A (mW K m0 gm h1 g1 h2 g2 S0) sz)) (va_A (mW K m0 gm h1 g1 h2 g2 S0) sz)) 0 0 (va_A (mW K m0 gm h1 g1 h2 g2 S0) sz) := by
  refine Met.ofW (cc := cX12_take) (maxL := 2) (ret := (some .int)) (by decide) rfl ?_
  intro p e s m args below meth c s₁ B hml hv
  obtain ⟨rfl, ⟨hsz, hP, hK, hD0, hTE⟩, hp⟩ := hv
  have hx := B.exec
  have hb := B.bytes
  have hr := B.returns
  have hts := atoms_spec (ws := v_X12_take) B.pre
  have t_ := t_X12_take
  have mw : ∀ w ∈ e_X12_take, w ∈ v_X12_take := fun w h => List.mem_cons_of_mem _ (List.mem_append_left _ h)
  have hw := fun w (h : w ∈ e_X12_take) => hts w (mw w h)
  have iX12 : ∀ w ∈ wsX120, w ∈ v_X12_take := fun w h => List.mem_cons_of_mem _ (List.mem_append_right _ (List.mem_append_left _ h))
  have j_X11_act : ∀ w ∈ v_X11_act, w ∈ v_X12_take := fun w h => List.mem_cons_of_mem _ (List.mem_append_right _ (List.mem_append_right _ (List.mem_append_left _ h)))
  have hown : s.vm.findClass RX12 = some m.cls := findClass_of_methodNamed B.named
  have hlocks := B.notSynchronized
  subst hsz
  have hD := hD0.self (sz := s.heap.size)
  generalize hAe : va_A (mW K m0 gm h1 g1 h2 g2 S0) s.heap.size = A at hD ⊢
  have hA : ∀ q : Nat, s.heap.size ≤ q → A q := fun q h => by rw [← hAe]; exact Or.inr h
  have hS : va_S A s.heap s.heap [] := va_S.rf
  have hl := lv_entry ([.ref m0, .int a1]) (n := 2) (Nat.le_of_ble_eq_true rfl)
  rw [lg_entry_eq]
  generalize (lg_sl ([.ref m0, .int a1]) ++ List.replicate (2 - (lg_sl ([.ref m0, .int a1])).length) Slot.unset).toArray = ls at hl ⊢
  have hl : lv_has ls 2 [(0, .ref m0), (1, .int a1)] := hl
  refine wGen (fun Q hQ => ?_)
  obtain ⟨X, hX⟩ : ∃ X, f_X12_take S0 a1 = X := ⟨_, rfl⟩
  have B_M : ∀ (S : MS) (x1 : Int32) (H : Heap) (locs : List Loc) (ls : Array Slot), f_X12_take S x1 = X → p_X12_take S x1 → va_P G vwCl (mW K m0 gm h1 g1 h2 g2 S) H → va_D A (mW K m0 gm h1 g1 h2 g2 S) → va_S A s.heap H locs → lv_has ls 2 [(0, .ref m0), (1, .int x1)] → W p l e ({ frames := 6, cells := 0, slots := 0, locals := 156 } : Room) s m #[Value.ref m0, Value.int a1] below meth c H locs 0 0 Q (F0 m 0 ls []) := by
    intro S x1 H locs ls hE hp hP hD hS hl
    unfold f_X12_take at hE
    unfold p_X12_take at hp
    refine lv_aload_n hx hb dX12_take_0 rfl (lv_at hl 0 rfl) ?_
    refine va_get (D := G) (ci := 9) (v := .ref h1) (C := RX12) (T := TX12) (N := 7) hx hb hts iX12 hown hK hP 0 rfl rfl 0 (by decide) (hw (.fieldLink RX12 16 "MotionFloorModel" "hall" "LMotionFloorModel$Hall;") (List.mem_of_getElem? (i := 0) rfl)) (fun _ h9 => h9) rfl dX12_take_1 ?_
    refine lv_bipush (v := 14) hx hb dX12_take_4 (by decide) ?_
    refine lv_iload_n hx hb dX12_take_6 rfl (lv_at hl 1 rfl) ?_
    refine lv_iconst (v := 0) hx hb dX12_take_7 (by decide) ?_
    refine lv_iconst (v := 0) hx hb dX12_take_8 (by decide) ?_
    refine lv_iconst (v := 0) hx hb dX12_take_9 (by decide) ?_
    obtain ⟨hy1, hp⟩ := hp
    refine mGoi_h (va_runV (As := [.int 14, .int x1, .int 0, .int 0, .int 0]) (rest := []) ⟨hx, hb, hml, hown, hts⟩ (c_X11_act l G K h1 g1 S.2.1 14 x1 0 0 0 _) (cwV 5 hts (wGV t_ (mw (.methodLink RX12 40 yX11_act) (List.mem_of_getElem? (i := 1) rfl)) (mw (.instanceMethod yX11_act) (List.mem_of_getElem? (i := 2) rfl)) (mw (.selects RX11 yX11_act yX11_act) (List.mem_of_getElem? (i := 3) rfl)) (mw (.initialized RX11) (List.mem_of_getElem? (i := 4) rfl)) j_X11_act) rfl rfl rfl (by decide +kernel) ⟨Nat.le_of_ble_eq_true rfl, Nat.le_of_ble_eq_true rfl⟩) (hPV hK hTE (mP_h hP) (mD_h hD) hy1) rfl rfl hl.1 rfl (lv_room (Nat.le_of_ble_eq_true rfl)) dX12_take_10 ⟨Nat.le_of_ble_eq_true rfl, Nat.le_of_ble_eq_true rfl⟩) hP hD hS hA (fun r3 u2 H locs hv hP hD hS => ?_)
    rw [← hv] at hE hp
    dsimp only at hE hp
    unfold b_X12_take_a13 at hE
    unfold q_X12_take_a13 at hp
    subst hQ
    exact W.iret (v := r3) hx hb hr (fun t ht hW => ⟨⟨r3, (mH S u2), rfl, hE.trans hX.symm, by rw [ht]; exact hP, hD⟩, hS.F ht⟩) hS.2.2 dX12_take_13
  exact B_M S0 a1 _ _ _ hX hp hP hD hS hl
def b_X12_move_a13 (S : MS) (x1 y0 : Int32) : Int32 × MS := (y0, S)
def q_X12_move_a13 (S : MS) (x1 y0 : Int32) : Prop := True
def f_X12_move (S : MS) (x1 : Int32) : Int32 × MS := (b_X12_move_a13 (mH S ((f_X11_act S.2.1 15 x1 0 0 0).2)) x1 (f_X11_act S.2.1 15 x1 0 0 0).1)
def p_X12_move (S : MS) (x1 : Int32) : Prop := (p_X11_act S.2.1 15 x1 0 0 0) ∧ (q_X12_move_a13 (mH S ((f_X11_act S.2.1 15 x1 0 0 0).2)) x1 (f_X11_act S.2.1 15 x1 0 0 0).1)
def e_X12_move : List Cond := [.fieldLink RX12 16 "MotionFloorModel" "hall" "LMotionFloorModel$Hall;", .methodLink RX12 40 yX11_act, .instanceMethod yX11_act, .selects RX11 yX11_act yX11_act, .initialized RX11]
def v_X12_move : List Cond := .code yX12_move cX12_move 2 (some .int) :: (e_X12_move ++ (wsX120 ++ (v_X11_act ++ [])))
theorem te_X12_move : GoodIn lw_tbl e_X12_move := wGc z219 (wGc z223 (wGc z222 (wGc z221 (wGc z51 (wG0)))))
theorem t_X12_move : GoodIn lw_tbl v_X12_move := wGc z238 (wGa te_X12_move (wGa zcX12 (wGa t_X11_act (wG0))))
set_option maxHeartbeats 4000000 in
set_option maxRecDepth 100000 in
theorem c_X12_move (l : Launch) (G : va_G) (K : Nat → ClassId) (m0 : Nat) (gm : Nat → Nat) (h1 : Nat) (g1 : Nat → Nat) (h2 : Nat) (g2 : Nat → Nat) (S0 : MS) (a1 : Int32) (sz : Nat) : Met l yX12_move v_X12_move ({ frames := 6, cells := 0, slots := 0, locals := 156 }) (va_Pc [.ref m0, .int a1] (mSt G K m0 gm h1 g1 h2 g2 sz S0 (p_X12_move S0 a1))) (va_Qi (fun (r : Int32) (u : MS) => (r, u) = f_X12_move S0 a1) (mB G K m0 gm h1 g1 h2 g2 (va_A (mW K m0 gm h1 g1 h2 g2 S0) sz)) (va_A (mW K m0 gm h1 g1 h2 g2 S0) sz)) 0 0 (va_A (mW K m0 gm h1 g1 h2 g2 S0) sz) := by
  refine Met.ofW (cc := cX12_move) (maxL := 2) (ret := (some .int)) (by decide) rfl ?_
  intro p e s m args below meth c s₁ B hml hv
  obtain ⟨rfl, ⟨hsz, hP, hK, hD0, hTE⟩, hp⟩ := hv
  have hx := B.exec
  have hb := B.bytes
  have hr := B.returns
  have hts := atoms_spec (ws := v_X12_move) B.pre
  have t_ := t_X12_move
  have mw : ∀ w ∈ e_X12_move, w ∈ v_X12_move := fun w h => List.mem_cons_of_mem _ (List.mem_append_left _ h)
  have hw := fun w (h : w ∈ e_X12_move) => hts w (mw w h)
  have iX12 : ∀ w ∈ wsX120, w ∈ v_X12_move := fun w h => List.mem_cons_of_mem _ (List.mem_append_right _ (List.mem_append_left _ h))
  have j_X11_act : ∀ w ∈ v_X11_act, w ∈ v_X12_move := fun w h => List.mem_cons_of_mem _ (List.mem_append_right _ (List.mem_append_right _ (List.mem_append_left _ h)))
  have hown : s.vm.findClass RX12 = some m.cls := findClass_of_methodNamed B.named
  have hlocks := B.notSynchronized
  subst hsz
  have hD := hD0.self (sz := s.heap.size)
  generalize hAe : va_A (mW K m0 gm h1 g1 h2 g2 S0) s.heap.size = A at hD ⊢
  have hA : ∀ q : Nat, s.heap.size ≤ q → A q := fun q h => by rw [← hAe]; exact Or.inr h
  have hS : va_S A s.heap s.heap [] := va_S.rf
  have hl := lv_entry ([.ref m0, .int a1]) (n := 2) (Nat.le_of_ble_eq_true rfl)
  rw [lg_entry_eq]
  generalize (lg_sl ([.ref m0, .int a1]) ++ List.replicate (2 - (lg_sl ([.ref m0, .int a1])).length) Slot.unset).toArray = ls at hl ⊢
  have hl : lv_has ls 2 [(0, .ref m0), (1, .int a1)] := hl
  refine wGen (fun Q hQ => ?_)
  obtain ⟨X, hX⟩ : ∃ X, f_X12_move S0 a1 = X := ⟨_, rfl⟩
  have B_M : ∀ (S : MS) (x1 : Int32) (H : Heap) (locs : List Loc) (ls : Array Slot), f_X12_move S x1 = X → p_X12_move S x1 → va_P G vwCl (mW K m0 gm h1 g1 h2 g2 S) H → va_D A (mW K m0 gm h1 g1 h2 g2 S) → va_S A s.heap H locs → lv_has ls 2 [(0, .ref m0), (1, .int x1)] → W p l e ({ frames := 6, cells := 0, slots := 0, locals := 156 } : Room) s m #[Value.ref m0, Value.int a1] below meth c H locs 0 0 Q (F0 m 0 ls []) := by
    intro S x1 H locs ls hE hp hP hD hS hl
    unfold f_X12_move at hE
    unfold p_X12_move at hp
    refine lv_aload_n hx hb dX12_move_0 rfl (lv_at hl 0 rfl) ?_
    refine va_get (D := G) (ci := 9) (v := .ref h1) (C := RX12) (T := TX12) (N := 7) hx hb hts iX12 hown hK hP 0 rfl rfl 0 (by decide) (hw (.fieldLink RX12 16 "MotionFloorModel" "hall" "LMotionFloorModel$Hall;") (List.mem_of_getElem? (i := 0) rfl)) (fun _ h9 => h9) rfl dX12_move_1 ?_
    refine lv_bipush (v := 15) hx hb dX12_move_4 (by decide) ?_
    refine lv_iload_n hx hb dX12_move_6 rfl (lv_at hl 1 rfl) ?_
    refine lv_iconst (v := 0) hx hb dX12_move_7 (by decide) ?_
    refine lv_iconst (v := 0) hx hb dX12_move_8 (by decide) ?_
    refine lv_iconst (v := 0) hx hb dX12_move_9 (by decide) ?_
    obtain ⟨hy1, hp⟩ := hp
    refine mGoi_h (va_runV (As := [.int 15, .int x1, .int 0, .int 0, .int 0]) (rest := []) ⟨hx, hb, hml, hown, hts⟩ (c_X11_act l G K h1 g1 S.2.1 15 x1 0 0 0 _) (cwV 5 hts (wGV t_ (mw (.methodLink RX12 40 yX11_act) (List.mem_of_getElem? (i := 1) rfl)) (mw (.instanceMethod yX11_act) (List.mem_of_getElem? (i := 2) rfl)) (mw (.selects RX11 yX11_act yX11_act) (List.mem_of_getElem? (i := 3) rfl)) (mw (.initialized RX11) (List.mem_of_getElem? (i := 4) rfl)) j_X11_act) rfl rfl rfl (by decide +kernel) ⟨Nat.le_of_ble_eq_true rfl, Nat.le_of_ble_eq_true rfl⟩) (hPV hK hTE (mP_h hP) (mD_h hD) hy1) rfl rfl hl.1 rfl (lv_room (Nat.le_of_ble_eq_true rfl)) dX12_move_10 ⟨Nat.le_of_ble_eq_true rfl, Nat.le_of_ble_eq_true rfl⟩) hP hD hS hA (fun r3 u2 H locs hv hP hD hS => ?_)
    rw [← hv] at hE hp
    dsimp only at hE hp
    unfold b_X12_move_a13 at hE
    unfold q_X12_move_a13 at hp
    subst hQ
    exact W.iret (v := r3) hx hb hr (fun t ht hW => ⟨⟨r3, (mH S u2), rfl, hE.trans hX.symm, by rw [ht]; exact hP, hD⟩, hS.F ht⟩) hS.2.2 dX12_move_13
  exact B_M S0 a1 _ _ _ hX hp hP hD hS hl
def b_X12_second_a13 (S : MS) (x1 y0 : Int32) : Int32 × MS := (y0, S)
def q_X12_second_a13 (S : MS) (x1 y0 : Int32) : Prop := True
def f_X12_second (S : MS) (x1 : Int32) : Int32 × MS := (b_X12_second_a13 (mH S ((f_X11_act S.2.1 16 x1 0 0 0).2)) x1 (f_X11_act S.2.1 16 x1 0 0 0).1)
def p_X12_second (S : MS) (x1 : Int32) : Prop := (p_X11_act S.2.1 16 x1 0 0 0) ∧ (q_X12_second_a13 (mH S ((f_X11_act S.2.1 16 x1 0 0 0).2)) x1 (f_X11_act S.2.1 16 x1 0 0 0).1)
def e_X12_second : List Cond := [.fieldLink RX12 16 "MotionFloorModel" "hall" "LMotionFloorModel$Hall;", .methodLink RX12 40 yX11_act, .instanceMethod yX11_act, .selects RX11 yX11_act yX11_act, .initialized RX11]
def v_X12_second : List Cond := .code yX12_second cX12_second 2 (some .int) :: (e_X12_second ++ (wsX120 ++ (v_X11_act ++ [])))
theorem te_X12_second : GoodIn lw_tbl e_X12_second := wGc z219 (wGc z223 (wGc z222 (wGc z221 (wGc z51 (wG0)))))
theorem t_X12_second : GoodIn lw_tbl v_X12_second := wGc z239 (wGa te_X12_second (wGa zcX12 (wGa t_X11_act (wG0))))
set_option maxHeartbeats 4000000 in
set_option maxRecDepth 100000 in
theorem c_X12_second (l : Launch) (G : va_G) (K : Nat → ClassId) (m0 : Nat) (gm : Nat → Nat) (h1 : Nat) (g1 : Nat → Nat) (h2 : Nat) (g2 : Nat → Nat) (S0 : MS) (a1 : Int32) (sz : Nat) : Met l yX12_second v_X12_second ({ frames := 6, cells := 0, slots := 0, locals := 156 }) (va_Pc [.ref m0, .int a1] (mSt G K m0 gm h1 g1 h2 g2 sz S0 (p_X12_second S0 a1))) (va_Qi (fun (r : Int32) (u : MS) => (r, u) = f_X12_second S0 a1) (mB G K m0 gm h1 g1 h2 g2 (va_A (mW K m0 gm h1 g1 h2 g2 S0) sz)) (va_A (mW K m0 gm h1 g1 h2 g2 S0) sz)) 0 0 (va_A (mW K m0 gm h1 g1 h2 g2 S0) sz) := by
  refine Met.ofW (cc := cX12_second) (maxL := 2) (ret := (some .int)) (by decide) rfl ?_
  intro p e s m args below meth c s₁ B hml hv
  obtain ⟨rfl, ⟨hsz, hP, hK, hD0, hTE⟩, hp⟩ := hv
  have hx := B.exec
  have hb := B.bytes
  have hr := B.returns
  have hts := atoms_spec (ws := v_X12_second) B.pre
  have t_ := t_X12_second
  have mw : ∀ w ∈ e_X12_second, w ∈ v_X12_second := fun w h => List.mem_cons_of_mem _ (List.mem_append_left _ h)
  have hw := fun w (h : w ∈ e_X12_second) => hts w (mw w h)
  have iX12 : ∀ w ∈ wsX120, w ∈ v_X12_second := fun w h => List.mem_cons_of_mem _ (List.mem_append_right _ (List.mem_append_left _ h))
  have j_X11_act : ∀ w ∈ v_X11_act, w ∈ v_X12_second := fun w h => List.mem_cons_of_mem _ (List.mem_append_right _ (List.mem_append_right _ (List.mem_append_left _ h)))
  have hown : s.vm.findClass RX12 = some m.cls := findClass_of_methodNamed B.named
  have hlocks := B.notSynchronized
  subst hsz
  have hD := hD0.self (sz := s.heap.size)
  generalize hAe : va_A (mW K m0 gm h1 g1 h2 g2 S0) s.heap.size = A at hD ⊢
  have hA : ∀ q : Nat, s.heap.size ≤ q → A q := fun q h => by rw [← hAe]; exact Or.inr h
  have hS : va_S A s.heap s.heap [] := va_S.rf
  have hl := lv_entry ([.ref m0, .int a1]) (n := 2) (Nat.le_of_ble_eq_true rfl)
  rw [lg_entry_eq]
  generalize (lg_sl ([.ref m0, .int a1]) ++ List.replicate (2 - (lg_sl ([.ref m0, .int a1])).length) Slot.unset).toArray = ls at hl ⊢
  have hl : lv_has ls 2 [(0, .ref m0), (1, .int a1)] := hl
  refine wGen (fun Q hQ => ?_)
  obtain ⟨X, hX⟩ : ∃ X, f_X12_second S0 a1 = X := ⟨_, rfl⟩
  have B_M : ∀ (S : MS) (x1 : Int32) (H : Heap) (locs : List Loc) (ls : Array Slot), f_X12_second S x1 = X → p_X12_second S x1 → va_P G vwCl (mW K m0 gm h1 g1 h2 g2 S) H → va_D A (mW K m0 gm h1 g1 h2 g2 S) → va_S A s.heap H locs → lv_has ls 2 [(0, .ref m0), (1, .int x1)] → W p l e ({ frames := 6, cells := 0, slots := 0, locals := 156 } : Room) s m #[Value.ref m0, Value.int a1] below meth c H locs 0 0 Q (F0 m 0 ls []) := by
    intro S x1 H locs ls hE hp hP hD hS hl
    unfold f_X12_second at hE
    unfold p_X12_second at hp
    refine lv_aload_n hx hb dX12_second_0 rfl (lv_at hl 0 rfl) ?_
    refine va_get (D := G) (ci := 9) (v := .ref h1) (C := RX12) (T := TX12) (N := 7) hx hb hts iX12 hown hK hP 0 rfl rfl 0 (by decide) (hw (.fieldLink RX12 16 "MotionFloorModel" "hall" "LMotionFloorModel$Hall;") (List.mem_of_getElem? (i := 0) rfl)) (fun _ h9 => h9) rfl dX12_second_1 ?_
    refine lv_bipush (v := 16) hx hb dX12_second_4 (by decide) ?_
    refine lv_iload_n hx hb dX12_second_6 rfl (lv_at hl 1 rfl) ?_
    refine lv_iconst (v := 0) hx hb dX12_second_7 (by decide) ?_
    refine lv_iconst (v := 0) hx hb dX12_second_8 (by decide) ?_
    refine lv_iconst (v := 0) hx hb dX12_second_9 (by decide) ?_
    obtain ⟨hy1, hp⟩ := hp
    refine mGoi_h (va_runV (As := [.int 16, .int x1, .int 0, .int 0, .int 0]) (rest := []) ⟨hx, hb, hml, hown, hts⟩ (c_X11_act l G K h1 g1 S.2.1 16 x1 0 0 0 _) (cwV 5 hts (wGV t_ (mw (.methodLink RX12 40 yX11_act) (List.mem_of_getElem? (i := 1) rfl)) (mw (.instanceMethod yX11_act) (List.mem_of_getElem? (i := 2) rfl)) (mw (.selects RX11 yX11_act yX11_act) (List.mem_of_getElem? (i := 3) rfl)) (mw (.initialized RX11) (List.mem_of_getElem? (i := 4) rfl)) j_X11_act) rfl rfl rfl (by decide +kernel) ⟨Nat.le_of_ble_eq_true rfl, Nat.le_of_ble_eq_true rfl⟩) (hPV hK hTE (mP_h hP) (mD_h hD) hy1) rfl rfl hl.1 rfl (lv_room (Nat.le_of_ble_eq_true rfl)) dX12_second_10 ⟨Nat.le_of_ble_eq_true rfl, Nat.le_of_ble_eq_true rfl⟩) hP hD hS hA (fun r3 u2 H locs hv hP hD hS => ?_)
    rw [← hv] at hE hp
    dsimp only at hE hp
    unfold b_X12_second_a13 at hE
    unfold q_X12_second_a13 at hp
    subst hQ
    exact W.iret (v := r3) hx hb hr (fun t ht hW => ⟨⟨r3, (mH S u2), rfl, hE.trans hX.symm, by rw [ht]; exact hP, hD⟩, hS.F ht⟩) hS.2.2 dX12_second_13
  exact B_M S0 a1 _ _ _ hX hp hP hD hS hl
