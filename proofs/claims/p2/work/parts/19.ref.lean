def b_X12_check_142 (S : MS) (x1 x2 x3 x4 : Int32) : Int32 × MS := (x1, S)
def q_X12_check_142 (S : MS) (x1 x2 x3 x4 : Int32) : Prop := True
def b_X12_check_a122 (S : MS) (x1 x2 x3 x4 y0 : Int32) : (Int32 × MS) ⊕ (MS × Int32) := if y0 < 0 then Sum.inl ((b_X12_check_142 S x1 x2 x3 y0)) else if y0 = (S.1.2 5 (x2 + 5).toNatClampNeg) then Sum.inr (S, (x1 + 1)) else Sum.inl ((b_X12_check_142 S x1 x2 x3 y0))
def q_X12_check_a122 (S : MS) (x1 x2 x3 x4 y0 : Int32) : Prop := (if y0 < 0 then (q_X12_check_142 S x1 x2 x3 y0) else (vp_in (x2 + 5) 3600) ∧ (if y0 = (S.1.2 5 (x2 + 5).toNatClampNeg) then True else (q_X12_check_142 S x1 x2 x3 y0)))
def st_X12_check_51 (S : MS) (x1 x2 x3 x4 : Int32) : ((Int32 × MS) ⊕ (MS × Int32)) ⊕ (MS × Int32 × Int32 × Int32 × Int32) := if 4 < x4 then Sum.inl ((b_X12_check_a122 (mS S ((f_X11_act S.2.2 (S.1.2 5 x2.toNatClampNeg) (S.1.2 5 (x2 + 1).toNatClampNeg) (S.1.2 5 (x2 + 2).toNatClampNeg) (S.1.2 5 (x2 + 3).toNatClampNeg) (S.1.2 5 (x2 + 4).toNatClampNeg)).2)) x1 x2 x3 x4 (f_X11_act S.2.2 (S.1.2 5 x2.toNatClampNeg) (S.1.2 5 (x2 + 1).toNatClampNeg) (S.1.2 5 (x2 + 2).toNatClampNeg) (S.1.2 5 (x2 + 3).toNatClampNeg) (S.1.2 5 (x2 + 4).toNatClampNeg)).1)) else if (S.1.2 5 (x2 + x4).toNatClampNeg) = 0 then Sum.inr (S, x1, x2, x3, (x4 + 1)) else Sum.inl (Sum.inl ((x1, S)))
def ps_X12_check_51 (S : MS) (x1 x2 x3 x4 : Int32) : Prop := (if 4 < x4 then (vp_in x2 3600) ∧ (vp_in (x2 + 1) 3600) ∧ (vp_in (x2 + 2) 3600) ∧ (vp_in (x2 + 3) 3600) ∧ (vp_in (x2 + 4) 3600) ∧ (p_X11_act S.2.2 (S.1.2 5 x2.toNatClampNeg) (S.1.2 5 (x2 + 1).toNatClampNeg) (S.1.2 5 (x2 + 2).toNatClampNeg) (S.1.2 5 (x2 + 3).toNatClampNeg) (S.1.2 5 (x2 + 4).toNatClampNeg)) ∧ (q_X12_check_a122 (mS S ((f_X11_act S.2.2 (S.1.2 5 x2.toNatClampNeg) (S.1.2 5 (x2 + 1).toNatClampNeg) (S.1.2 5 (x2 + 2).toNatClampNeg) (S.1.2 5 (x2 + 3).toNatClampNeg) (S.1.2 5 (x2 + 4).toNatClampNeg)).2)) x1 x2 x3 x4 (f_X11_act S.2.2 (S.1.2 5 x2.toNatClampNeg) (S.1.2 5 (x2 + 1).toNatClampNeg) (S.1.2 5 (x2 + 2).toNatClampNeg) (S.1.2 5 (x2 + 3).toNatClampNeg) (S.1.2 5 (x2 + 4).toNatClampNeg)).1) else (vp_in (x2 + x4) 3600) ∧ (if (S.1.2 5 (x2 + x4).toNatClampNeg) = 0 then True else True))
def lp_X12_check_51 : Nat → MS → Int32 → Int32 → Int32 → Int32 → (Int32 × MS) ⊕ (MS × Int32)
  | 0, S, _, _, _, _ => Sum.inl ((0, S))
  | n + 1, S, x1, x2, x3, x4 => match st_X12_check_51 S x1 x2 x3 x4 with
    | Sum.inl r => r
    | Sum.inr q => lp_X12_check_51 n q.1 q.2.1 q.2.2.1 q.2.2.2.1 q.2.2.2.2
def lq_X12_check_51 : Nat → MS → Int32 → Int32 → Int32 → Int32 → Prop
  | 0, _, _, _, _, _ => False
  | n + 1, S, x1, x2, x3, x4 => ps_X12_check_51 S x1 x2 x3 x4 ∧ (match st_X12_check_51 S x1 x2 x3 x4 with
    | Sum.inl _ => True
    | Sum.inr q => lq_X12_check_51 n q.1 q.2.1 q.2.2.1 q.2.2.2.1 q.2.2.2.2)
def st_X12_check_16 (S : MS) (x1 : Int32) : (Int32 × MS) ⊕ (MS × Int32) := if (S.1.1 6) ≤ x1 then Sum.inl (((-1), S)) else if (f_X12_numbers (S.1.2 5 (6 * x1).toNatClampNeg)) = (-1) then Sum.inl ((x1, S)) else (lp_X12_check_51 100000 S x1 (6 * x1) (f_X12_numbers (S.1.2 5 (6 * x1).toNatClampNeg)) ((f_X12_numbers (S.1.2 5 (6 * x1).toNatClampNeg)) + 1))
def ps_X12_check_16 (S : MS) (x1 : Int32) : Prop := (if (S.1.1 6) ≤ x1 then True else (vp_in (6 * x1) 3600) ∧ (p_X12_numbers (S.1.2 5 (6 * x1).toNatClampNeg)) ∧ (if (f_X12_numbers (S.1.2 5 (6 * x1).toNatClampNeg)) = (-1) then True else (lq_X12_check_51 100000 S x1 (6 * x1) (f_X12_numbers (S.1.2 5 (6 * x1).toNatClampNeg)) ((f_X12_numbers (S.1.2 5 (6 * x1).toNatClampNeg)) + 1))))
def lp_X12_check_16 : Nat → MS → Int32 → Int32 × MS
  | 0, S, _ => (0, S)
  | n + 1, S, x1 => match st_X12_check_16 S x1 with
    | Sum.inl r => r
    | Sum.inr q => lp_X12_check_16 n q.1 q.2
def lq_X12_check_16 : Nat → MS → Int32 → Prop
  | 0, _, _ => False
  | n + 1, S, x1 => ps_X12_check_16 S x1 ∧ (match st_X12_check_16 S x1 with
    | Sum.inl _ => True
    | Sum.inr q => lq_X12_check_16 n q.1 q.2)
def b_X12_check_a14 (S : MS)  : Int32 × MS := (lp_X12_check_16 100000 S 0)
def q_X12_check_a14 (S : MS)  : Prop := (lq_X12_check_16 100000 S 0)
def f_X12_check (S : MS)  : Int32 × MS := (b_X12_check_a14 (mS S ((f_X11_begin S.2.2 (S.2.1.1 0)).2)) )
def p_X12_check (S : MS)  : Prop := (p_X11_begin S.2.2 (S.2.1.1 0)) ∧ (q_X12_check_a14 (mS S ((f_X11_begin S.2.2 (S.2.1.1 0)).2)) )
def e_X12_check : List Cond := [.fieldLink RX12 20 "MotionFloorModel" "spare" "LMotionFloorModel$Hall;", .fieldLink RX12 16 "MotionFloorModel" "hall" "LMotionFloorModel$Hall;", .fieldLink RX12 96 "MotionFloorModel$Hall" "seats" "I", .methodLink RX12 36 yX11_begin, .instanceMethod yX11_begin, .selects RX11 yX11_begin yX11_begin, .initialized RX11, .fieldLink RX12 161 "MotionFloorModel" "tolds" "I", .fieldLink RX12 33 "MotionFloorModel" "told" "[I", .methodLink RX12 174 yX12_numbers, .static yX12_numbers, .initialized RX12, .methodLink RX12 40 yX11_act, .instanceMethod yX11_act, .selects RX11 yX11_act yX11_act]
def v_X12_check : List Cond := .code yX12_check cX12_check 5 (some .int) :: (e_X12_check ++ (wsX120 ++ (wsX110 ++ (v_X11_begin ++ (v_X12_numbers ++ (v_X11_act ++ []))))))
theorem te_X12_check : GoodIn lw_tbl e_X12_check := wGc z299 (wGc z219 (wGc z270 (wGc z218 (wGc z217 (wGc z216 (wGc z51 (wGc z283 (wGc z301 (wGc z303 (wGc z198 (wGc z1 (wGc z223 (wGc z222 (wGc z221 (wG0)))))))))))))))
theorem t_X12_check : GoodIn lw_tbl v_X12_check := wGc z304 (wGa te_X12_check (wGa zcX12 (wGa zcX11 (wGa t_X11_begin (wGa t_X12_numbers (wGa t_X11_act (wG0)))))))
set_option maxHeartbeats 4000000 in
set_option maxRecDepth 100000 in
theorem c_X12_check (l : Launch) (G : va_G) (K : Nat → ClassId) (m0 : Nat) (gm : Nat → Nat) (h1 : Nat) (g1 : Nat → Nat) (h2 : Nat) (g2 : Nat → Nat) (S0 : MS)  (sz : Nat) : Met l yX12_check v_X12_check ({ frames := 6, cells := 0, slots := 0, locals := 156 }) (va_Pc [.ref m0] (mSt G K m0 gm h1 g1 h2 g2 sz S0 (p_X12_check S0))) (va_Qi (fun (r : Int32) (u : MS) => (r, u) = f_X12_check S0) (mB G K m0 gm h1 g1 h2 g2 (va_A (mW K m0 gm h1 g1 h2 g2 S0) sz)) (va_A (mW K m0 gm h1 g1 h2 g2 S0) sz)) 0 0 (va_A (mW K m0 gm h1 g1 h2 g2 S0) sz) := by
  refine Met.ofW (cc := cX12_check) (maxL := 5) (ret := (some .int)) (by decide) rfl ?_
  intro p e s m args below meth c s₁ B hml hv
  obtain ⟨rfl, ⟨hsz, hP, hK, hD0, hTE⟩, hp⟩ := hv
  have hx := B.exec
  have hb := B.bytes
  have hr := B.returns
  have hts := atoms_spec (ws := v_X12_check) B.pre
  have t_ := t_X12_check
  have mw : ∀ w ∈ e_X12_check, w ∈ v_X12_check := fun w h => List.mem_cons_of_mem _ (List.mem_append_left _ h)
  have hw := fun w (h : w ∈ e_X12_check) => hts w (mw w h)
  have iX12 : ∀ w ∈ wsX120, w ∈ v_X12_check := fun w h => List.mem_cons_of_mem _ (List.mem_append_right _ (List.mem_append_left _ h))
  have iX11 : ∀ w ∈ wsX110, w ∈ v_X12_check := fun w h => List.mem_cons_of_mem _ (List.mem_append_right _ (List.mem_append_right _ (List.mem_append_left _ h)))
  have j_X11_begin : ∀ w ∈ v_X11_begin, w ∈ v_X12_check := fun w h => List.mem_cons_of_mem _ (List.mem_append_right _ (List.mem_append_right _ (List.mem_append_right _ (List.mem_append_left _ h))))
  have j_X12_numbers : ∀ w ∈ v_X12_numbers, w ∈ v_X12_check := fun w h => List.mem_cons_of_mem _ (List.mem_append_right _ (List.mem_append_right _ (List.mem_append_right _ (List.mem_append_right _ (List.mem_append_left _ h)))))
  have j_X11_act : ∀ w ∈ v_X11_act, w ∈ v_X12_check := fun w h => List.mem_cons_of_mem _ (List.mem_append_right _ (List.mem_append_right _ (List.mem_append_right _ (List.mem_append_right _ (List.mem_append_right _ (List.mem_append_left _ h))))))
  have hown : s.vm.findClass RX12 = some m.cls := findClass_of_methodNamed B.named
  have hlocks := B.notSynchronized
  subst hsz
  have hD := hD0.self (sz := s.heap.size)
  generalize hAe : va_A (mW K m0 gm h1 g1 h2 g2 S0) s.heap.size = A at hD ⊢
  have hA : ∀ q : Nat, s.heap.size ≤ q → A q := fun q h => by rw [← hAe]; exact Or.inr h
  have hS : va_S A s.heap s.heap [] := va_S.rf
  have hl := lv_entry ([.ref m0]) (n := 5) (Nat.le_of_ble_eq_true rfl)
  rw [lg_entry_eq]
  generalize (lg_sl ([.ref m0]) ++ List.replicate (5 - (lg_sl ([.ref m0])).length) Slot.unset).toArray = ls at hl ⊢
  have hl : lv_has ls 5 [(0, .ref m0)] := hl
  refine wGen (fun Q hQ => ?_)
  obtain ⟨X, hX⟩ : ∃ X, f_X12_check S0 = X := ⟨_, rfl⟩
  have B_142 : ∀ (S : MS) (x1 x2 x3 x4 : Int32) (H : Heap) (locs : List Loc) (ls : Array Slot), b_X12_check_142 S x1 x2 x3 x4 = X → q_X12_check_142 S x1 x2 x3 x4 → va_P G vwCl (mW K m0 gm h1 g1 h2 g2 S) H → va_D A (mW K m0 gm h1 g1 h2 g2 S) → va_S A s.heap H locs → lv_has ls 5 [(0, .ref m0), (1, .int x1), (2, .int x2), (3, .int x3), (4, .int x4)] → W p l e ({ frames := 6, cells := 0, slots := 0, locals := 156 } : Room) s m #[Value.ref m0] below meth c H locs 0 0 Q (F0 m 142 ls []) := by
    intro S x1 x2 x3 x4 H locs ls hE hp hP hD hS hl
    unfold b_X12_check_142 at hE
    unfold q_X12_check_142 at hp
    refine lv_iload_n hx hb dX12_check_142 rfl (lv_at hl 1 rfl) ?_
    subst hQ
    exact W.iret (v := x1) hx hb hr (fun t ht hW => ⟨⟨x1, S, rfl, hE.trans hX.symm, by rw [ht]; exact hP, hD⟩, hS.F ht⟩) hS.2.2 dX12_check_143
  have L_16 : ∀ (n : Nat) (S : MS) (x1 : Int32) (H : Heap) (locs : List Loc) (ls : Array Slot), lp_X12_check_16 n S x1 = X → lq_X12_check_16 n S x1 → va_P G vwCl (mW K m0 gm h1 g1 h2 g2 S) H → va_D A (mW K m0 gm h1 g1 h2 g2 S) → va_S A s.heap H locs → lv_has ls 5 [(0, .ref m0), (1, .int x1)] → W p l e ({ frames := 6, cells := 0, slots := 0, locals := 156 } : Room) s m #[Value.ref m0] below meth c H locs 0 0 Q (F0 m 16 ls []) := by
    intro n1
    induction n1 with
    | zero => intro S x1 H locs ls hE hp; exact False.elim hp
    | succ n1 ih1 =>
      intro S x1 H locs ls hO1 hp hP hD hS hl
      rw [lp_X12_check_16] at hO1
      rw [lq_X12_check_16] at hp
      obtain ⟨hp, hq1⟩ := hp
      generalize hE : st_X12_check_16 S x1 = Y1 at hO1 hq1
      unfold st_X12_check_16 at hE
      unfold ps_X12_check_16 at hp
      have L_51 : ∀ (n : Nat) (S : MS) (x1 x2 x3 x4 : Int32) (H : Heap) (locs : List Loc) (ls : Array Slot), lp_X12_check_51 n S x1 x2 x3 x4 = Y1 → lq_X12_check_51 n S x1 x2 x3 x4 → va_P G vwCl (mW K m0 gm h1 g1 h2 g2 S) H → va_D A (mW K m0 gm h1 g1 h2 g2 S) → va_S A s.heap H locs → lv_has ls 5 [(0, .ref m0), (1, .int x1), (2, .int x2), (3, .int x3), (4, .int x4)] → W p l e ({ frames := 6, cells := 0, slots := 0, locals := 156 } : Room) s m #[Value.ref m0] below meth c H locs 0 0 Q (F0 m 51 ls []) := by
        intro n2
        induction n2 with
        | zero => intro S x1 x2 x3 x4 H locs ls hE hp; exact False.elim hp
        | succ n2 ih2 =>
          intro S x1 x2 x3 x4 H locs ls hO2 hp hP hD hS hl
          rw [lp_X12_check_51] at hO2
          rw [lq_X12_check_51] at hp
          obtain ⟨hp, hq2⟩ := hp
          generalize hE : st_X12_check_51 S x1 x2 x3 x4 = Y2 at hO2 hq2
          unfold st_X12_check_51 at hE
          unfold ps_X12_check_51 at hp
          refine lv_iload hx hb dX12_check_51 (lv_at hl 4 rfl) ?_
          refine lv_iconst (v := 4) hx hb dX12_check_53 (by decide) ?_
          refine lv_icmp_gt (tgt := 77) hx hb dX12_check_54 (by decide) (fun c8 => ?_) (fun c8 => ?_)
          · rw [if_pos c8] at hE hp
            subst hE
            have hE := hO2
            dsimp only at hE
            refine lv_aload_n hx hb dX12_check_77 rfl (lv_at hl 0 rfl) ?_
            refine va_get (D := G) (ci := 9) (v := .ref h2) (C := RX12) (T := TX12) (N := 7) hx hb hts iX12 hown hK hP 0 rfl rfl 1 (by decide) (hw (.fieldLink RX12 20 "MotionFloorModel" "spare" "LMotionFloorModel$Hall;") (List.mem_of_getElem? (i := 0) rfl)) (fun _ h9 => h9) rfl dX12_check_78 ?_
            refine lv_aload_n hx hb dX12_check_81 rfl (lv_at hl 0 rfl) ?_
            refine va_get (D := G) (ci := 9) (v := .ref (gm 5)) (C := RX12) (T := TX12) (N := 7) hx hb hts iX12 hown hK hP 0 rfl rfl 5 (by decide) (hw (.fieldLink RX12 33 "MotionFloorModel" "told" "[I") (List.mem_of_getElem? (i := 8) rfl)) (fun _ h9 => h9) rfl dX12_check_82 ?_
            refine lv_iload_n hx hb dX12_check_85 rfl (lv_at hl 2 rfl) ?_
            obtain ⟨hy9, hp⟩ := hp
            refine va_iald hx hb hK hP 4 0 rfl rfl hy9 dX12_check_86 ?_
            refine lv_aload_n hx hb dX12_check_87 rfl (lv_at hl 0 rfl) ?_
            refine va_get (D := G) (ci := 9) (v := .ref (gm 5)) (C := RX12) (T := TX12) (N := 7) hx hb hts iX12 hown hK hP 0 rfl rfl 5 (by decide) (hw (.fieldLink RX12 33 "MotionFloorModel" "told" "[I") (List.mem_of_getElem? (i := 8) rfl)) (fun _ h9 => h9) rfl dX12_check_88 ?_
            refine lv_iload_n hx hb dX12_check_91 rfl (lv_at hl 2 rfl) ?_
            refine lv_iconst (v := 1) hx hb dX12_check_92 (by decide) ?_
            refine lv_iadd hx hb dX12_check_93 ?_
            obtain ⟨hy10, hp⟩ := hp
            refine va_iald hx hb hK hP 4 0 rfl rfl hy10 dX12_check_94 ?_
            refine lv_aload_n hx hb dX12_check_95 rfl (lv_at hl 0 rfl) ?_
            refine va_get (D := G) (ci := 9) (v := .ref (gm 5)) (C := RX12) (T := TX12) (N := 7) hx hb hts iX12 hown hK hP 0 rfl rfl 5 (by decide) (hw (.fieldLink RX12 33 "MotionFloorModel" "told" "[I") (List.mem_of_getElem? (i := 8) rfl)) (fun _ h9 => h9) rfl dX12_check_96 ?_
            refine lv_iload_n hx hb dX12_check_99 rfl (lv_at hl 2 rfl) ?_
            refine lv_iconst (v := 2) hx hb dX12_check_100 (by decide) ?_
            refine lv_iadd hx hb dX12_check_101 ?_
            obtain ⟨hy11, hp⟩ := hp
            refine va_iald hx hb hK hP 4 0 rfl rfl hy11 dX12_check_102 ?_
            refine lv_aload_n hx hb dX12_check_103 rfl (lv_at hl 0 rfl) ?_
            refine va_get (D := G) (ci := 9) (v := .ref (gm 5)) (C := RX12) (T := TX12) (N := 7) hx hb hts iX12 hown hK hP 0 rfl rfl 5 (by decide) (hw (.fieldLink RX12 33 "MotionFloorModel" "told" "[I") (List.mem_of_getElem? (i := 8) rfl)) (fun _ h9 => h9) rfl dX12_check_104 ?_
            refine lv_iload_n hx hb dX12_check_107 rfl (lv_at hl 2 rfl) ?_
            refine lv_iconst (v := 3) hx hb dX12_check_108 (by decide) ?_
            refine lv_iadd hx hb dX12_check_109 ?_
            obtain ⟨hy12, hp⟩ := hp
            refine va_iald hx hb hK hP 4 0 rfl rfl hy12 dX12_check_110 ?_
            refine lv_aload_n hx hb dX12_check_111 rfl (lv_at hl 0 rfl) ?_
            refine va_get (D := G) (ci := 9) (v := .ref (gm 5)) (C := RX12) (T := TX12) (N := 7) hx hb hts iX12 hown hK hP 0 rfl rfl 5 (by decide) (hw (.fieldLink RX12 33 "MotionFloorModel" "told" "[I") (List.mem_of_getElem? (i := 8) rfl)) (fun _ h9 => h9) rfl dX12_check_112 ?_
            refine lv_iload_n hx hb dX12_check_115 rfl (lv_at hl 2 rfl) ?_
            refine lv_iconst (v := 4) hx hb dX12_check_116 (by decide) ?_
            refine lv_iadd hx hb dX12_check_117 ?_
            obtain ⟨hy13, hp⟩ := hp
            refine va_iald hx hb hK hP 4 0 rfl rfl hy13 dX12_check_118 ?_
            obtain ⟨hy14, hp⟩ := hp
            refine mGoi_s (va_runV (As := [.int (S.1.2 5 x2.toNatClampNeg), .int (S.1.2 5 (x2 + 1).toNatClampNeg), .int (S.1.2 5 (x2 + 2).toNatClampNeg), .int (S.1.2 5 (x2 + 3).toNatClampNeg), .int (S.1.2 5 (x2 + 4).toNatClampNeg)]) (rest := []) ⟨hx, hb, hml, hown, hts⟩ (c_X11_act l G K h2 g2 S.2.2 (S.1.2 5 x2.toNatClampNeg) (S.1.2 5 (x2 + 1).toNatClampNeg) (S.1.2 5 (x2 + 2).toNatClampNeg) (S.1.2 5 (x2 + 3).toNatClampNeg) (S.1.2 5 (x2 + 4).toNatClampNeg) _) (cwV 5 hts (wGV t_ (mw (.methodLink RX12 40 yX11_act) (List.mem_of_getElem? (i := 12) rfl)) (mw (.instanceMethod yX11_act) (List.mem_of_getElem? (i := 13) rfl)) (mw (.selects RX11 yX11_act yX11_act) (List.mem_of_getElem? (i := 14) rfl)) (mw (.initialized RX11) (List.mem_of_getElem? (i := 6) rfl)) j_X11_act) rfl rfl rfl (by decide +kernel) ⟨Nat.le_of_ble_eq_true rfl, Nat.le_of_ble_eq_true rfl⟩) (hPV hK hTE (mP_s hP) (mD_s hD) hy14) rfl rfl hl.1 rfl (lv_room (Nat.le_of_ble_eq_true rfl)) dX12_check_119 ⟨Nat.le_of_ble_eq_true rfl, Nat.le_of_ble_eq_true rfl⟩) hP hD hS hA (fun r16 u15 H locs hv hP hD hS => ?_)
            rw [← hv] at hE hp
            dsimp only at hE hp
            unfold b_X12_check_a122 at hE
            unfold q_X12_check_a122 at hp
            refine lv_istore (lv' := [(4, .int r16), (0, .ref m0), (1, .int x1), (2, .int x2), (3, .int x3)]) hx hb dX12_check_122 hl (by decide) rfl (fun ls hl => ?_)
            refine lv_iload hx hb dX12_check_124 (lv_at hl 0 rfl) ?_
            refine lv_if_lt (tgt := 142) hx hb dX12_check_126 (by decide) (fun c17 => ?_) (fun c17 => ?_)
            · rw [if_pos c17] at hE hp
              subst hE
              have hE := hO1
              dsimp only at hE
              exact B_142 (mS S u15) x1 x2 x3 r16 _ _ _ hE hp hP hD hS (lv_sub hl [1, 2, 3, 4, 0] rfl)
            · rw [if_neg c17] at hE hp
              refine lv_iload hx hb dX12_check_129 (lv_at hl 0 rfl) ?_
              refine lv_aload_n hx hb dX12_check_131 rfl (lv_at hl 1 rfl) ?_
              refine va_get (D := G) (ci := 9) (v := .ref (gm 5)) (C := RX12) (T := TX12) (N := 7) hx hb hts iX12 hown hK hP 0 rfl rfl 5 (by decide) (hw (.fieldLink RX12 33 "MotionFloorModel" "told" "[I") (List.mem_of_getElem? (i := 8) rfl)) (fun _ h9 => h9) rfl dX12_check_132 ?_
              refine lv_iload_n hx hb dX12_check_135 rfl (lv_at hl 3 rfl) ?_
              refine lv_iconst (v := 5) hx hb dX12_check_136 (by decide) ?_
              refine lv_iadd hx hb dX12_check_137 ?_
              obtain ⟨hy18, hp⟩ := hp
              refine va_iald hx hb hK hP 4 0 rfl rfl hy18 dX12_check_138 ?_
              refine lv_icmp_eq (tgt := 144) hx hb dX12_check_139 (by decide) (fun c19 => ?_) (fun c19 => ?_)
              · rw [if_pos c19] at hE hp
                refine lv_iinc (v := (x1 + 1)) (lv' := [(1, .int (x1 + 1)), (4, .int r16), (0, .ref m0), (2, .int x2), (3, .int x3)]) hx hb dX12_check_144 hl (k := 2) rfl rfl (by decide) rfl (fun ls hl => ?_)
                refine lv_goto (tgt := 16) hx hb dX12_check_147 (by decide) ?_
                subst hE
                dsimp only at hO1 hq1
                exact ih1 (mS S u15) (x1 + 1) _ _ _ hO1 hq1 hP hD hS (lv_sub hl [2, 0] rfl)
              · rw [if_neg c19] at hE hp
                subst hE
                have hE := hO1
                dsimp only at hE
                exact B_142 (mS S u15) x1 x2 x3 r16 _ _ _ hE hp hP hD hS (lv_sub hl [1, 2, 3, 4, 0] rfl)
          · rw [if_neg c8] at hE hp
            refine lv_aload_n hx hb dX12_check_57 rfl (lv_at hl 0 rfl) ?_
            refine va_get (D := G) (ci := 9) (v := .ref (gm 5)) (C := RX12) (T := TX12) (N := 7) hx hb hts iX12 hown hK hP 0 rfl rfl 5 (by decide) (hw (.fieldLink RX12 33 "MotionFloorModel" "told" "[I") (List.mem_of_getElem? (i := 8) rfl)) (fun _ h9 => h9) rfl dX12_check_58 ?_
            refine lv_iload_n hx hb dX12_check_61 rfl (lv_at hl 2 rfl) ?_
            refine lv_iload hx hb dX12_check_62 (lv_at hl 4 rfl) ?_
            refine lv_iadd hx hb dX12_check_64 ?_
            obtain ⟨hy23, hp⟩ := hp
            refine va_iald hx hb hK hP 4 0 rfl rfl hy23 dX12_check_65 ?_
            refine lv_if_eq (tgt := 71) hx hb dX12_check_66 (by decide) (fun c24 => ?_) (fun c24 => ?_)
            · rw [if_pos c24] at hE hp
              refine lv_iinc (v := (x4 + 1)) (lv' := [(4, .int (x4 + 1)), (0, .ref m0), (1, .int x1), (2, .int x2), (3, .int x3)]) hx hb dX12_check_71 hl (k := 4) rfl rfl (by decide) rfl (fun ls hl => ?_)
              refine lv_goto (tgt := 51) hx hb dX12_check_74 (by decide) ?_
              subst hE
              dsimp only at hO2 hq2
              exact ih2 S x1 x2 x3 (x4 + 1) _ _ _ hO2 hq2 hP hD hS (lv_sub hl [1, 2, 3, 4, 0] rfl)
            · rw [if_neg c24] at hE hp
              subst hE
              have hE := hO2
              dsimp only at hE
              subst hE
              have hE := hO1
              dsimp only at hE
              refine lv_iload_n hx hb dX12_check_69 rfl (lv_at hl 1 rfl) ?_
              subst hQ
              exact W.iret (v := x1) hx hb hr (fun t ht hW => ⟨⟨x1, S, rfl, hE.trans hX.symm, by rw [ht]; exact hP, hD⟩, hS.F ht⟩) hS.2.2 dX12_check_70
      refine lv_iload_n hx hb dX12_check_16 rfl (lv_at hl 1 rfl) ?_
      refine lv_aload_n hx hb dX12_check_17 rfl (lv_at hl 0 rfl) ?_
      refine va_get (D := G) (ci := 9) (v := .int (S.1.1 6)) (C := RX12) (T := TX12) (N := 7) hx hb hts iX12 hown hK hP 0 rfl rfl 6 (by decide) (hw (.fieldLink RX12 161 "MotionFloorModel" "tolds" "I") (List.mem_of_getElem? (i := 7) rfl)) (fun _ h9 => h9) rfl dX12_check_18 ?_
      refine lv_icmp_ge (tgt := 150) hx hb dX12_check_21 (by decide) (fun c4 => ?_) (fun c4 => ?_)
      · rw [if_pos c4] at hE hp
        subst hE
        have hE := hO1
        dsimp only at hE
        refine lv_iconst (v := (-1)) hx hb dX12_check_150 (by decide) ?_
        subst hQ
        exact W.iret (v := (-1)) hx hb hr (fun t ht hW => ⟨⟨(-1), S, rfl, hE.trans hX.symm, by rw [ht]; exact hP, hD⟩, hS.F ht⟩) hS.2.2 dX12_check_151
      · rw [if_neg c4] at hE hp
        refine lv_bipush (v := 6) hx hb dX12_check_24 (by decide) ?_
        refine lv_iload_n hx hb dX12_check_26 rfl (lv_at hl 1 rfl) ?_
        refine lv_imul hx hb dX12_check_27 ?_
        refine lv_istore_n (lv' := [(2, .int (6 * x1)), (0, .ref m0), (1, .int x1)]) hx hb dX12_check_28 rfl hl (by decide) rfl (fun ls hl => ?_)
        refine lv_aload_n hx hb dX12_check_29 rfl (lv_at hl 1 rfl) ?_
        refine va_get (D := G) (ci := 9) (v := .ref (gm 5)) (C := RX12) (T := TX12) (N := 7) hx hb hts iX12 hown hK hP 0 rfl rfl 5 (by decide) (hw (.fieldLink RX12 33 "MotionFloorModel" "told" "[I") (List.mem_of_getElem? (i := 8) rfl)) (fun _ h9 => h9) rfl dX12_check_30 ?_
        refine lv_iload_n hx hb dX12_check_33 rfl (lv_at hl 0 rfl) ?_
        obtain ⟨hy5, hp⟩ := hp
        refine va_iald hx hb hK hP 4 0 rfl rfl hy5 dX12_check_34 ?_
        obtain ⟨hy6, hp⟩ := hp
        refine nGoi (va_runS (As := [.int (S.1.2 5 (6 * x1).toNatClampNeg)]) (rest := []) ⟨hx, hb, hml, hown, hts⟩ (c_X12_numbers l G K (S.1.2 5 (6 * x1).toNatClampNeg) _) (va_cwS 1 hts (wGS t_ (mw (.methodLink RX12 174 yX12_numbers) (List.mem_of_getElem? (i := 9) rfl)) (mw (.static yX12_numbers) (List.mem_of_getElem? (i := 10) rfl)) (mw (.initialized RX12) (List.mem_of_getElem? (i := 11) rfl)) j_X12_numbers) rfl rfl rfl (by decide +kernel) ⟨Nat.le_of_ble_eq_true rfl, Nat.le_of_ble_eq_true rfl⟩) (nPS hK hTE hy6) rfl rfl hl.1 rfl (lv_room (Nat.le_of_ble_eq_true rfl)) dX12_check_35 ⟨Nat.le_of_ble_eq_true rfl, Nat.le_of_ble_eq_true rfl⟩) hP hS hA (fun r H locs hv hP hS => ?_)
        subst hv
        refine lv_istore_n (lv' := [(3, .int (f_X12_numbers (S.1.2 5 (6 * x1).toNatClampNeg))), (2, .int (6 * x1)), (0, .ref m0), (1, .int x1)]) hx hb dX12_check_38 rfl hl (by decide) rfl (fun ls hl => ?_)
        refine lv_iload_n hx hb dX12_check_39 rfl (lv_at hl 0 rfl) ?_
        refine lv_iconst (v := (-1)) hx hb dX12_check_40 (by decide) ?_
        refine lv_icmp_ne (tgt := 46) hx hb dX12_check_41 (by decide) (fun c7 => ?_) (fun c7 => ?_)
        · rw [if_neg c7] at hE hp
          refine lv_iload_n hx hb dX12_check_46 rfl (lv_at hl 0 rfl) ?_
          refine lv_iconst (v := 1) hx hb dX12_check_47 (by decide) ?_
          refine lv_iadd hx hb dX12_check_48 ?_
          refine lv_istore (lv' := [(4, .int ((f_X12_numbers (S.1.2 5 (6 * x1).toNatClampNeg)) + 1)), (3, .int (f_X12_numbers (S.1.2 5 (6 * x1).toNatClampNeg))), (2, .int (6 * x1)), (0, .ref m0), (1, .int x1)]) hx hb dX12_check_49 hl (by decide) rfl (fun ls hl => ?_)
          exact L_51 100000 S x1 (6 * x1) (f_X12_numbers (S.1.2 5 (6 * x1).toNatClampNeg)) ((f_X12_numbers (S.1.2 5 (6 * x1).toNatClampNeg)) + 1) _ _ _ hE hp hP hD hS (lv_sub hl [3, 4, 2, 1, 0] rfl)
        · rw [if_pos c7] at hE hp
          subst hE
          have hE := hO1
          dsimp only at hE
          refine lv_iload_n hx hb dX12_check_44 rfl (lv_at hl 3 rfl) ?_
          subst hQ
          exact W.iret (v := x1) hx hb hr (fun t ht hW => ⟨⟨x1, S, rfl, hE.trans hX.symm, by rw [ht]; exact hP, hD⟩, hS.F ht⟩) hS.2.2 dX12_check_45
  have B_M : ∀ (S : MS) (H : Heap) (locs : List Loc) (ls : Array Slot), f_X12_check S = X → p_X12_check S → va_P G vwCl (mW K m0 gm h1 g1 h2 g2 S) H → va_D A (mW K m0 gm h1 g1 h2 g2 S) → va_S A s.heap H locs → lv_has ls 5 [(0, .ref m0)] → W p l e ({ frames := 6, cells := 0, slots := 0, locals := 156 } : Room) s m #[Value.ref m0] below meth c H locs 0 0 Q (F0 m 0 ls []) := by
    intro S H locs ls hE hp hP hD hS hl
    unfold f_X12_check at hE
    unfold p_X12_check at hp
    refine lv_aload_n hx hb dX12_check_0 rfl (lv_at hl 0 rfl) ?_
    refine va_get (D := G) (ci := 9) (v := .ref h2) (C := RX12) (T := TX12) (N := 7) hx hb hts iX12 hown hK hP 0 rfl rfl 1 (by decide) (hw (.fieldLink RX12 20 "MotionFloorModel" "spare" "LMotionFloorModel$Hall;") (List.mem_of_getElem? (i := 0) rfl)) (fun _ h9 => h9) rfl dX12_check_1 ?_
    refine lv_aload_n hx hb dX12_check_4 rfl (lv_at hl 0 rfl) ?_
    refine va_get (D := G) (ci := 9) (v := .ref h1) (C := RX12) (T := TX12) (N := 7) hx hb hts iX12 hown hK hP 0 rfl rfl 0 (by decide) (hw (.fieldLink RX12 16 "MotionFloorModel" "hall" "LMotionFloorModel$Hall;") (List.mem_of_getElem? (i := 1) rfl)) (fun _ h9 => h9) rfl dX12_check_5 ?_
    refine va_get (D := G) (ci := 8) (v := .int (S.2.1.1 0)) (C := RX11) (T := TX11) (N := 42) hx hb hts iX11 hown hK hP 5 rfl rfl 0 (by decide) (hw (.fieldLink RX12 96 "MotionFloorModel$Hall" "seats" "I") (List.mem_of_getElem? (i := 2) rfl)) (fun _ h9 => h9) rfl dX12_check_8 ?_
    obtain ⟨hy1, hp⟩ := hp
    refine mGov_s (va_runV (As := [.int (S.2.1.1 0)]) (rest := []) ⟨hx, hb, hml, hown, hts⟩ (c_X11_begin l G K h2 g2 S.2.2 (S.2.1.1 0) _) (cwV 1 hts (wGV t_ (mw (.methodLink RX12 36 yX11_begin) (List.mem_of_getElem? (i := 3) rfl)) (mw (.instanceMethod yX11_begin) (List.mem_of_getElem? (i := 4) rfl)) (mw (.selects RX11 yX11_begin yX11_begin) (List.mem_of_getElem? (i := 5) rfl)) (mw (.initialized RX11) (List.mem_of_getElem? (i := 6) rfl)) j_X11_begin) rfl rfl rfl (by decide +kernel) ⟨Nat.le_of_ble_eq_true rfl, Nat.le_of_ble_eq_true rfl⟩) (hPV hK hTE (mP_s hP) (mD_s hD) hy1) rfl rfl hl.1 rfl (lv_room (Nat.le_of_ble_eq_true rfl)) dX12_check_11 ⟨Nat.le_of_ble_eq_true rfl, Nat.le_of_ble_eq_true rfl⟩) hP hD hS hA (fun u2 H locs hv hP hD hS => ?_)
    rw [← hv] at hE hp
    dsimp only at hE hp
    unfold b_X12_check_a14 at hE
    unfold q_X12_check_a14 at hp
    refine lv_iconst (v := 0) hx hb dX12_check_14 (by decide) ?_
    refine lv_istore_n (lv' := [(1, .int 0), (0, .ref m0)]) hx hb dX12_check_15 rfl hl (by decide) rfl (fun ls hl => ?_)
    exact L_16 100000 (mS S u2) 0 _ _ _ hE hp hP hD hS (lv_sub hl [1, 0] rfl)
  exact B_M S0 _ _ _ hX hp hP hD hS hl
def f_X12_strike (S : MS)  : Int32 × MS := ((S.1.1 6), (mO S (sI S.1 6 0)))
def p_X12_strike (S : MS)  : Prop := True
def e_X12_strike : List Cond := [.fieldLink RX12 161 "MotionFloorModel" "tolds" "I"]
def v_X12_strike : List Cond := .code yX12_strike cX12_strike 2 (some .int) :: (e_X12_strike ++ (wsX120 ++ []))
theorem te_X12_strike : GoodIn lw_tbl e_X12_strike := wGc z283 (wG0)
theorem t_X12_strike : GoodIn lw_tbl v_X12_strike := wGc z305 (wGa te_X12_strike (wGa zcX12 (wG0)))
set_option maxHeartbeats 4000000 in
set_option maxRecDepth 100000 in
theorem c_X12_strike (l : Launch) (G : va_G) (K : Nat → ClassId) (m0 : Nat) (gm : Nat → Nat) (h1 : Nat) (g1 : Nat → Nat) (h2 : Nat) (g2 : Nat → Nat) (S0 : MS)  (sz : Nat) : Met l yX12_strike v_X12_strike ({ frames := 0, cells := 0, slots := 0, locals := 0 }) (va_Pc [.ref m0] (mSt G K m0 gm h1 g1 h2 g2 sz S0 (p_X12_strike S0))) (va_Qi (fun (r : Int32) (u : MS) => (r, u) = f_X12_strike S0) (mB G K m0 gm h1 g1 h2 g2 (va_A (mW K m0 gm h1 g1 h2 g2 S0) sz)) (va_A (mW K m0 gm h1 g1 h2 g2 S0) sz)) 0 0 (va_A (mW K m0 gm h1 g1 h2 g2 S0) sz) := by
  refine Met.ofW (cc := cX12_strike) (maxL := 2) (ret := (some .int)) (by decide) rfl ?_
  intro p e s m args below meth c s₁ B hml hv
  obtain ⟨rfl, ⟨hsz, hP, hK, hD0, hTE⟩, hp⟩ := hv
  have hx := B.exec
  have hb := B.bytes
  have hr := B.returns
  have hts := atoms_spec (ws := v_X12_strike) B.pre
  have t_ := t_X12_strike
  have mw : ∀ w ∈ e_X12_strike, w ∈ v_X12_strike := fun w h => List.mem_cons_of_mem _ (List.mem_append_left _ h)
  have hw := fun w (h : w ∈ e_X12_strike) => hts w (mw w h)
  have iX12 : ∀ w ∈ wsX120, w ∈ v_X12_strike := fun w h => List.mem_cons_of_mem _ (List.mem_append_right _ (List.mem_append_left _ h))
  have hown : s.vm.findClass RX12 = some m.cls := findClass_of_methodNamed B.named
  have hlocks := B.notSynchronized
  subst hsz
  have hD := hD0.self (sz := s.heap.size)
  generalize hAe : va_A (mW K m0 gm h1 g1 h2 g2 S0) s.heap.size = A at hD ⊢
  have hA : ∀ q : Nat, s.heap.size ≤ q → A q := fun q h => by rw [← hAe]; exact Or.inr h
  have hS : va_S A s.heap s.heap [] := va_S.rf
  have hl := lv_entry ([.ref m0]) (n := 2) (Nat.le_of_ble_eq_true rfl)
  rw [lg_entry_eq]
  generalize (lg_sl ([.ref m0]) ++ List.replicate (2 - (lg_sl ([.ref m0])).length) Slot.unset).toArray = ls at hl ⊢
  have hl : lv_has ls 2 [(0, .ref m0)] := hl
  refine wGen (fun Q hQ => ?_)
  obtain ⟨X, hX⟩ : ∃ X, f_X12_strike S0 = X := ⟨_, rfl⟩
  have B_M : ∀ (S : MS) (H : Heap) (locs : List Loc) (ls : Array Slot), f_X12_strike S = X → p_X12_strike S → va_P G vwCl (mW K m0 gm h1 g1 h2 g2 S) H → va_D A (mW K m0 gm h1 g1 h2 g2 S) → va_S A s.heap H locs → lv_has ls 2 [(0, .ref m0)] → W p l e ({ frames := 0, cells := 0, slots := 0, locals := 0 } : Room) s m #[Value.ref m0] below meth c H locs 0 0 Q (F0 m 0 ls []) := by
    intro S H locs ls hE hp hP hD hS hl
    unfold f_X12_strike at hE
    unfold p_X12_strike at hp
    refine lv_aload_n hx hb dX12_strike_0 rfl (lv_at hl 0 rfl) ?_
    refine va_get (D := G) (ci := 9) (v := .int (S.1.1 6)) (C := RX12) (T := TX12) (N := 7) hx hb hts iX12 hown hK hP 0 rfl rfl 6 (by decide) (hw (.fieldLink RX12 161 "MotionFloorModel" "tolds" "I") (List.mem_of_getElem? (i := 0) rfl)) (fun _ h9 => h9) rfl dX12_strike_1 ?_
    refine lv_istore_n (lv' := [(1, .int (S.1.1 6)), (0, .ref m0)]) hx hb dX12_strike_4 rfl hl (by decide) rfl (fun ls hl => ?_)
    refine lv_aload_n hx hb dX12_strike_5 rfl (lv_at hl 1 rfl) ?_
    refine lv_iconst (v := 0) hx hb dX12_strike_6 (by decide) ?_
    refine va_put (D := G) (ci := 9) (v := .int 0) (ty := .int) (C := RX12) (T := TX12) (N := 7) hx hb hts iX12 tyX12 tyX12_ok nmX12 hown hK hP hD hS 0 rfl rfl 6 (by decide) (hw (.fieldLink RX12 161 "MotionFloorModel" "tolds" "I") (List.mem_of_getElem? (i := 0) rfl)) (fun _ h9 => h9) rfl (by decide +kernel) rfl rfl (Nat.le_of_ble_eq_true rfl) dX12_strike_7 (fun H locs hP hD hS => ?_)
    rw [mI_o_6] at hP hD
    refine lv_iload_n hx hb dX12_strike_10 rfl (lv_at hl 0 rfl) ?_
    subst hQ
    exact W.iret (v := (S.1.1 6)) hx hb hr (fun t ht hW => ⟨⟨(S.1.1 6), (mO S (sI S.1 6 0)), rfl, hE.trans hX.symm, by rw [ht]; exact hP, hD⟩, hS.F ht⟩) hS.2.2 dX12_strike_11
  exact B_M S0 _ _ _ hX hp hP hD hS hl
def st_X12_image_40 (S : MS) (x1 x2 : Int32) : (Int32 × MS) ⊕ (MS × Int32 × Int32) := if (6 * (S.2.1.1 7)) ≤ x2 then Sum.inl (((S.2.1.1 7), S)) else Sum.inr ((mO S (sA S.1 4 ((3600 * x1) + x2).toNatClampNeg (S.2.1.2 40 x2.toNatClampNeg))), x1, (x2 + 1))
def ps_X12_image_40 (S : MS) (x1 x2 : Int32) : Prop := (if (6 * (S.2.1.1 7)) ≤ x2 then True else (vp_in x2 3600) ∧ (vp_in ((3600 * x1) + x2) 7200) ∧ True)
def lp_X12_image_40 : Nat → MS → Int32 → Int32 → Int32 × MS
  | 0, S, _, _ => (0, S)
  | n + 1, S, x1, x2 => match st_X12_image_40 S x1 x2 with
    | Sum.inl r => r
    | Sum.inr q => lp_X12_image_40 n q.1 q.2.1 q.2.2
def lq_X12_image_40 : Nat → MS → Int32 → Int32 → Prop
  | 0, _, _, _ => False
  | n + 1, S, x1, x2 => ps_X12_image_40 S x1 x2 ∧ (match st_X12_image_40 S x1 x2 with
    | Sum.inl _ => True
    | Sum.inr q => lq_X12_image_40 n q.1 q.2.1 q.2.2)
def f_X12_image (S : MS) (x1 : Int32) : Int32 × MS := if (f_X12_in x1 0 1) = 0 then ((-9), S) else (lp_X12_image_40 100000 (mO (mO S (sA S.1 2 x1.toNatClampNeg (S.2.1.1 0))) (sA ((mO S (sA S.1 2 x1.toNatClampNeg (S.2.1.1 0))).1) 3 x1.toNatClampNeg (((mO S (sA S.1 2 x1.toNatClampNeg (S.2.1.1 0))).2.1).1 7))) x1 0)
def p_X12_image (S : MS) (x1 : Int32) : Prop := (p_X12_in x1 0 1) ∧ (if (f_X12_in x1 0 1) = 0 then True else (vp_in x1 2) ∧ (vp_in x1 2) ∧ (lq_X12_image_40 100000 (mO (mO S (sA S.1 2 x1.toNatClampNeg (S.2.1.1 0))) (sA ((mO S (sA S.1 2 x1.toNatClampNeg (S.2.1.1 0))).1) 3 x1.toNatClampNeg (((mO S (sA S.1 2 x1.toNatClampNeg (S.2.1.1 0))).2.1).1 7))) x1 0))
def e_X12_image : List Cond := [.methodLink RX12 1 yX12_in, .static yX12_in, .initialized RX12, .fieldLink RX12 23 "MotionFloorModel" "imageSeats" "[I", .fieldLink RX12 16 "MotionFloorModel" "hall" "LMotionFloorModel$Hall;", .fieldLink RX12 96 "MotionFloorModel$Hall" "seats" "I", .fieldLink RX12 27 "MotionFloorModel" "imageEntries" "[I", .fieldLink RX12 48 "MotionFloorModel$Hall" "entries" "I", .fieldLink RX12 30 "MotionFloorModel" "images" "[I", .fieldLink RX12 167 "MotionFloorModel$Hall" "minutes" "[I"]
def v_X12_image : List Cond := .code yX12_image cX12_image 3 (some .int) :: (e_X12_image ++ (wsX120 ++ (wsX110 ++ (v_X12_in ++ []))))
theorem te_X12_image : GoodIn lw_tbl e_X12_image := wGc z3 (wGc z2 (wGc z1 (wGc z308 (wGc z219 (wGc z270 (wGc z307 (wGc z246 (wGc z306 (wGc z297 (wG0))))))))))
theorem t_X12_image : GoodIn lw_tbl v_X12_image := wGc z309 (wGa te_X12_image (wGa zcX12 (wGa zcX11 (wGa t_X12_in (wG0)))))
set_option maxHeartbeats 4000000 in
set_option maxRecDepth 100000 in
theorem c_X12_image (l : Launch) (G : va_G) (K : Nat → ClassId) (m0 : Nat) (gm : Nat → Nat) (h1 : Nat) (g1 : Nat → Nat) (h2 : Nat) (g2 : Nat → Nat) (S0 : MS) (a1 : Int32) (sz : Nat) : Met l yX12_image v_X12_image ({ frames := 1, cells := 0, slots := 0, locals := 22 }) (va_Pc [.ref m0, .int a1] (mSt G K m0 gm h1 g1 h2 g2 sz S0 (p_X12_image S0 a1))) (va_Qi (fun (r : Int32) (u : MS) => (r, u) = f_X12_image S0 a1) (mB G K m0 gm h1 g1 h2 g2 (va_A (mW K m0 gm h1 g1 h2 g2 S0) sz)) (va_A (mW K m0 gm h1 g1 h2 g2 S0) sz)) 0 0 (va_A (mW K m0 gm h1 g1 h2 g2 S0) sz) := by
  refine Met.ofW (cc := cX12_image) (maxL := 3) (ret := (some .int)) (by decide) rfl ?_
  intro p e s m args below meth c s₁ B hml hv
  obtain ⟨rfl, ⟨hsz, hP, hK, hD0, hTE⟩, hp⟩ := hv
  have hx := B.exec
  have hb := B.bytes
  have hr := B.returns
  have hts := atoms_spec (ws := v_X12_image) B.pre
  have t_ := t_X12_image
  have mw : ∀ w ∈ e_X12_image, w ∈ v_X12_image := fun w h => List.mem_cons_of_mem _ (List.mem_append_left _ h)
  have hw := fun w (h : w ∈ e_X12_image) => hts w (mw w h)
  have iX12 : ∀ w ∈ wsX120, w ∈ v_X12_image := fun w h => List.mem_cons_of_mem _ (List.mem_append_right _ (List.mem_append_left _ h))
  have iX11 : ∀ w ∈ wsX110, w ∈ v_X12_image := fun w h => List.mem_cons_of_mem _ (List.mem_append_right _ (List.mem_append_right _ (List.mem_append_left _ h)))
  have j_X12_in : ∀ w ∈ v_X12_in, w ∈ v_X12_image := fun w h => List.mem_cons_of_mem _ (List.mem_append_right _ (List.mem_append_right _ (List.mem_append_right _ (List.mem_append_left _ h))))
  have hown : s.vm.findClass RX12 = some m.cls := findClass_of_methodNamed B.named
  have hlocks := B.notSynchronized
  subst hsz
  have hD := hD0.self (sz := s.heap.size)
  generalize hAe : va_A (mW K m0 gm h1 g1 h2 g2 S0) s.heap.size = A at hD ⊢
  have hA : ∀ q : Nat, s.heap.size ≤ q → A q := fun q h => by rw [← hAe]; exact Or.inr h
  have hS : va_S A s.heap s.heap [] := va_S.rf
  have hl := lv_entry ([.ref m0, .int a1]) (n := 3) (Nat.le_of_ble_eq_true rfl)
  rw [lg_entry_eq]
  generalize (lg_sl ([.ref m0, .int a1]) ++ List.replicate (3 - (lg_sl ([.ref m0, .int a1])).length) Slot.unset).toArray = ls at hl ⊢
  have hl : lv_has ls 3 [(0, .ref m0), (1, .int a1)] := hl
  refine wGen (fun Q hQ => ?_)
  obtain ⟨X, hX⟩ : ∃ X, f_X12_image S0 a1 = X := ⟨_, rfl⟩
  have L_40 : ∀ (n : Nat) (S : MS) (x1 x2 : Int32) (H : Heap) (locs : List Loc) (ls : Array Slot), lp_X12_image_40 n S x1 x2 = X → lq_X12_image_40 n S x1 x2 → va_P G vwCl (mW K m0 gm h1 g1 h2 g2 S) H → va_D A (mW K m0 gm h1 g1 h2 g2 S) → va_S A s.heap H locs → lv_has ls 3 [(0, .ref m0), (1, .int x1), (2, .int x2)] → W p l e ({ frames := 1, cells := 0, slots := 0, locals := 22 } : Room) s m #[Value.ref m0, Value.int a1] below meth c H locs 0 0 Q (F0 m 40 ls []) := by
    intro n1
    induction n1 with
    | zero => intro S x1 x2 H locs ls hE hp; exact False.elim hp
    | succ n1 ih1 =>
      intro S x1 x2 H locs ls hO1 hp hP hD hS hl
      rw [lp_X12_image_40] at hO1
      rw [lq_X12_image_40] at hp
      obtain ⟨hp, hq1⟩ := hp
      generalize hE : st_X12_image_40 S x1 x2 = Y1 at hO1 hq1
      unfold st_X12_image_40 at hE
      unfold ps_X12_image_40 at hp
      refine lv_iload_n hx hb dX12_image_40 rfl (lv_at hl 2 rfl) ?_
      refine lv_bipush (v := 6) hx hb dX12_image_41 (by decide) ?_
      refine lv_aload_n hx hb dX12_image_43 rfl (lv_at hl 0 rfl) ?_
      refine va_get (D := G) (ci := 9) (v := .ref h1) (C := RX12) (T := TX12) (N := 7) hx hb hts iX12 hown hK hP 0 rfl rfl 0 (by decide) (hw (.fieldLink RX12 16 "MotionFloorModel" "hall" "LMotionFloorModel$Hall;") (List.mem_of_getElem? (i := 4) rfl)) (fun _ h9 => h9) rfl dX12_image_44 ?_
      refine va_get (D := G) (ci := 8) (v := .int (S.2.1.1 7)) (C := RX11) (T := TX11) (N := 42) hx hb hts iX11 hown hK hP 5 rfl rfl 7 (by decide) (hw (.fieldLink RX12 48 "MotionFloorModel$Hall" "entries" "I") (List.mem_of_getElem? (i := 7) rfl)) (fun _ h9 => h9) rfl dX12_image_47 ?_
      refine lv_imul hx hb dX12_image_50 ?_
      refine lv_icmp_ge (tgt := 81) hx hb dX12_image_51 (by decide) (fun c5 => ?_) (fun c5 => ?_)
      · rw [if_pos c5] at hE hp
        subst hE
        have hE := hO1
        dsimp only at hE
        refine lv_aload_n hx hb dX12_image_81 rfl (lv_at hl 0 rfl) ?_
        refine va_get (D := G) (ci := 9) (v := .ref h1) (C := RX12) (T := TX12) (N := 7) hx hb hts iX12 hown hK hP 0 rfl rfl 0 (by decide) (hw (.fieldLink RX12 16 "MotionFloorModel" "hall" "LMotionFloorModel$Hall;") (List.mem_of_getElem? (i := 4) rfl)) (fun _ h9 => h9) rfl dX12_image_82 ?_
        refine va_get (D := G) (ci := 8) (v := .int (S.2.1.1 7)) (C := RX11) (T := TX11) (N := 42) hx hb hts iX11 hown hK hP 5 rfl rfl 7 (by decide) (hw (.fieldLink RX12 48 "MotionFloorModel$Hall" "entries" "I") (List.mem_of_getElem? (i := 7) rfl)) (fun _ h9 => h9) rfl dX12_image_85 ?_
        subst hQ
        exact W.iret (v := (S.2.1.1 7)) hx hb hr (fun t ht hW => ⟨⟨(S.2.1.1 7), S, rfl, hE.trans hX.symm, by rw [ht]; exact hP, hD⟩, hS.F ht⟩) hS.2.2 dX12_image_88
      · rw [if_neg c5] at hE hp
        refine lv_aload_n hx hb dX12_image_54 rfl (lv_at hl 0 rfl) ?_
        refine va_get (D := G) (ci := 9) (v := .ref (gm 4)) (C := RX12) (T := TX12) (N := 7) hx hb hts iX12 hown hK hP 0 rfl rfl 4 (by decide) (hw (.fieldLink RX12 30 "MotionFloorModel" "images" "[I") (List.mem_of_getElem? (i := 8) rfl)) (fun _ h9 => h9) rfl dX12_image_55 ?_
        refine lv_sipush (v := 3600) hx hb dX12_image_58 (by decide) ?_
        refine lv_iload_n hx hb dX12_image_61 rfl (lv_at hl 1 rfl) ?_
        refine lv_imul hx hb dX12_image_62 ?_
        refine lv_iload_n hx hb dX12_image_63 rfl (lv_at hl 2 rfl) ?_
        refine lv_iadd hx hb dX12_image_64 ?_
        refine lv_aload_n hx hb dX12_image_65 rfl (lv_at hl 0 rfl) ?_
        refine va_get (D := G) (ci := 9) (v := .ref h1) (C := RX12) (T := TX12) (N := 7) hx hb hts iX12 hown hK hP 0 rfl rfl 0 (by decide) (hw (.fieldLink RX12 16 "MotionFloorModel" "hall" "LMotionFloorModel$Hall;") (List.mem_of_getElem? (i := 4) rfl)) (fun _ h9 => h9) rfl dX12_image_66 ?_
        refine va_get (D := G) (ci := 8) (v := .ref (g1 40)) (C := RX11) (T := TX11) (N := 42) hx hb hts iX11 hown hK hP 5 rfl rfl 40 (by decide) (hw (.fieldLink RX12 167 "MotionFloorModel$Hall" "minutes" "[I") (List.mem_of_getElem? (i := 9) rfl)) (fun _ h9 => h9) rfl dX12_image_69 ?_
        refine lv_iload_n hx hb dX12_image_72 rfl (lv_at hl 2 rfl) ?_
        obtain ⟨hy6, hp⟩ := hp
        refine va_iald hx hb hK hP 31 0 rfl rfl hy6 dX12_image_73 ?_
        obtain ⟨hy7, hp⟩ := hp
        refine va_iast hx hb hK hP hD hS 3 0 rfl rfl hy7 dX12_image_74 (fun H locs hP hD hS => ?_)
        rw [mA_o_4] at hP hD
        refine lv_iinc (v := (x2 + 1)) (lv' := [(2, .int (x2 + 1)), (0, .ref m0), (1, .int x1)]) hx hb dX12_image_75 hl (k := 2) rfl rfl (by decide) rfl (fun ls hl => ?_)
        refine lv_goto (tgt := 40) hx hb dX12_image_78 (by decide) ?_
        subst hE
        dsimp only at hO1 hq1
        exact ih1 (mO S (sA S.1 4 ((3600 * x1) + x2).toNatClampNeg (S.2.1.2 40 x2.toNatClampNeg))) x1 (x2 + 1) _ _ _ hO1 hq1 hP hD hS (lv_sub hl [1, 2, 0] rfl)
  have B_M : ∀ (S : MS) (x1 : Int32) (H : Heap) (locs : List Loc) (ls : Array Slot), f_X12_image S x1 = X → p_X12_image S x1 → va_P G vwCl (mW K m0 gm h1 g1 h2 g2 S) H → va_D A (mW K m0 gm h1 g1 h2 g2 S) → va_S A s.heap H locs → lv_has ls 3 [(0, .ref m0), (1, .int x1)] → W p l e ({ frames := 1, cells := 0, slots := 0, locals := 22 } : Room) s m #[Value.ref m0, Value.int a1] below meth c H locs 0 0 Q (F0 m 0 ls []) := by
    intro S x1 H locs ls hE hp hP hD hS hl
    unfold f_X12_image at hE
    unfold p_X12_image at hp
    refine lv_iload_n hx hb dX12_image_0 rfl (lv_at hl 1 rfl) ?_
    refine lv_iconst (v := 0) hx hb dX12_image_1 (by decide) ?_
    refine lv_iconst (v := 1) hx hb dX12_image_2 (by decide) ?_
    obtain ⟨hy1, hp⟩ := hp
    refine nGoi (va_runS (As := [.int x1, .int 0, .int 1]) (rest := []) ⟨hx, hb, hml, hown, hts⟩ (c_X12_in l G K x1 0 1 _) (va_cwS 3 hts (wGS t_ (mw (.methodLink RX12 1 yX12_in) (List.mem_of_getElem? (i := 0) rfl)) (mw (.static yX12_in) (List.mem_of_getElem? (i := 1) rfl)) (mw (.initialized RX12) (List.mem_of_getElem? (i := 2) rfl)) j_X12_in) rfl rfl rfl (by decide +kernel) ⟨Nat.le_of_ble_eq_true rfl, Nat.le_of_ble_eq_true rfl⟩) (nPS hK hTE hy1) rfl rfl hl.1 rfl (lv_room (Nat.le_of_ble_eq_true rfl)) dX12_image_3 ⟨Nat.le_of_ble_eq_true rfl, Nat.le_of_ble_eq_true rfl⟩) hP hS hA (fun r H locs hv hP hS => ?_)
    subst hv
    refine lv_if_ne (tgt := 12) hx hb dX12_image_6 (by decide) (fun c2 => ?_) (fun c2 => ?_)
    · rw [if_neg c2] at hE hp
      refine lv_aload_n hx hb dX12_image_12 rfl (lv_at hl 0 rfl) ?_
      refine va_get (D := G) (ci := 9) (v := .ref (gm 2)) (C := RX12) (T := TX12) (N := 7) hx hb hts iX12 hown hK hP 0 rfl rfl 2 (by decide) (hw (.fieldLink RX12 23 "MotionFloorModel" "imageSeats" "[I") (List.mem_of_getElem? (i := 3) rfl)) (fun _ h9 => h9) rfl dX12_image_13 ?_
      refine lv_iload_n hx hb dX12_image_16 rfl (lv_at hl 1 rfl) ?_
      refine lv_aload_n hx hb dX12_image_17 rfl (lv_at hl 0 rfl) ?_
      refine va_get (D := G) (ci := 9) (v := .ref h1) (C := RX12) (T := TX12) (N := 7) hx hb hts iX12 hown hK hP 0 rfl rfl 0 (by decide) (hw (.fieldLink RX12 16 "MotionFloorModel" "hall" "LMotionFloorModel$Hall;") (List.mem_of_getElem? (i := 4) rfl)) (fun _ h9 => h9) rfl dX12_image_18 ?_
      refine va_get (D := G) (ci := 8) (v := .int (S.2.1.1 0)) (C := RX11) (T := TX11) (N := 42) hx hb hts iX11 hown hK hP 5 rfl rfl 0 (by decide) (hw (.fieldLink RX12 96 "MotionFloorModel$Hall" "seats" "I") (List.mem_of_getElem? (i := 5) rfl)) (fun _ h9 => h9) rfl dX12_image_21 ?_
      obtain ⟨hy3, hp⟩ := hp
      refine va_iast hx hb hK hP hD hS 1 0 rfl rfl hy3 dX12_image_24 (fun H locs hP hD hS => ?_)
      rw [mA_o_2] at hP hD
      refine lv_aload_n hx hb dX12_image_25 rfl (lv_at hl 0 rfl) ?_
      refine va_get (D := G) (ci := 9) (v := .ref (gm 3)) (C := RX12) (T := TX12) (N := 7) hx hb hts iX12 hown hK hP 0 rfl rfl 3 (by decide) (hw (.fieldLink RX12 27 "MotionFloorModel" "imageEntries" "[I") (List.mem_of_getElem? (i := 6) rfl)) (fun _ h9 => h9) rfl dX12_image_26 ?_
      refine lv_iload_n hx hb dX12_image_29 rfl (lv_at hl 1 rfl) ?_
      refine lv_aload_n hx hb dX12_image_30 rfl (lv_at hl 0 rfl) ?_
      refine va_get (D := G) (ci := 9) (v := .ref h1) (C := RX12) (T := TX12) (N := 7) hx hb hts iX12 hown hK hP 0 rfl rfl 0 (by decide) (hw (.fieldLink RX12 16 "MotionFloorModel" "hall" "LMotionFloorModel$Hall;") (List.mem_of_getElem? (i := 4) rfl)) (fun _ h9 => h9) rfl dX12_image_31 ?_
      refine va_get (D := G) (ci := 8) (v := .int (((mO S (sA S.1 2 x1.toNatClampNeg (S.2.1.1 0))).2.1).1 7)) (C := RX11) (T := TX11) (N := 42) hx hb hts iX11 hown hK hP 5 rfl rfl 7 (by decide) (hw (.fieldLink RX12 48 "MotionFloorModel$Hall" "entries" "I") (List.mem_of_getElem? (i := 7) rfl)) (fun _ h9 => h9) rfl dX12_image_34 ?_
      obtain ⟨hy4, hp⟩ := hp
      refine va_iast hx hb hK hP hD hS 2 0 rfl rfl hy4 dX12_image_37 (fun H locs hP hD hS => ?_)
      rw [mA_o_3] at hP hD
      refine lv_iconst (v := 0) hx hb dX12_image_38 (by decide) ?_
      refine lv_istore_n (lv' := [(2, .int 0), (0, .ref m0), (1, .int x1)]) hx hb dX12_image_39 rfl hl (by decide) rfl (fun ls hl => ?_)
      exact L_40 100000 (mO (mO S (sA S.1 2 x1.toNatClampNeg (S.2.1.1 0))) (sA ((mO S (sA S.1 2 x1.toNatClampNeg (S.2.1.1 0))).1) 3 x1.toNatClampNeg (((mO S (sA S.1 2 x1.toNatClampNeg (S.2.1.1 0))).2.1).1 7))) x1 0 _ _ _ hE hp hP hD hS (lv_sub hl [1, 2, 0] rfl)
    · rw [if_pos c2] at hE hp
      refine lv_bipush (v := (-9)) hx hb dX12_image_9 (by decide) ?_
      subst hQ
      exact W.iret (v := (-9)) hx hb hr (fun t ht hW => ⟨⟨(-9), S, rfl, hE.trans hX.symm, by rw [ht]; exact hP, hD⟩, hS.F ht⟩) hS.2.2 dX12_image_11
  exact B_M S0 a1 _ _ _ hX hp hP hD hS hl
def b_X12_back_a106 (S : MS) (x1 x2 x3 y0 : Int32) : (Int32 × MS) ⊕ (MS × Int32 × Int32) := Sum.inr (S, x1, (x2 + 1))
def q_X12_back_a106 (S : MS) (x1 x2 x3 y0 : Int32) : Prop := True
def st_X12_back_40 (S : MS) (x1 x2 : Int32) : (Int32 × MS) ⊕ (MS × Int32 × Int32) := if (S.1.2 3 x1.toNatClampNeg) ≤ x2 then Sum.inl (((((mH S (sI S.2.1 10 0)).1).2 3 x1.toNatClampNeg), (mH S (sI S.2.1 10 0)))) else (b_X12_back_a106 (mH S ((f_X11_act S.2.1 (S.1.2 4 ((3600 * x1) + (6 * x2)).toNatClampNeg) (S.1.2 4 (((3600 * x1) + (6 * x2)) + 1).toNatClampNeg) (S.1.2 4 (((3600 * x1) + (6 * x2)) + 2).toNatClampNeg) (S.1.2 4 (((3600 * x1) + (6 * x2)) + 3).toNatClampNeg) (S.1.2 4 (((3600 * x1) + (6 * x2)) + 4).toNatClampNeg)).2)) x1 x2 ((3600 * x1) + (6 * x2)) (f_X11_act S.2.1 (S.1.2 4 ((3600 * x1) + (6 * x2)).toNatClampNeg) (S.1.2 4 (((3600 * x1) + (6 * x2)) + 1).toNatClampNeg) (S.1.2 4 (((3600 * x1) + (6 * x2)) + 2).toNatClampNeg) (S.1.2 4 (((3600 * x1) + (6 * x2)) + 3).toNatClampNeg) (S.1.2 4 (((3600 * x1) + (6 * x2)) + 4).toNatClampNeg)).1)
def ps_X12_back_40 (S : MS) (x1 x2 : Int32) : Prop := (vp_in x1 2) ∧ (if (S.1.2 3 x1.toNatClampNeg) ≤ x2 then (vp_in x1 2) ∧ True else (vp_in ((3600 * x1) + (6 * x2)) 7200) ∧ (vp_in (((3600 * x1) + (6 * x2)) + 1) 7200) ∧ (vp_in (((3600 * x1) + (6 * x2)) + 2) 7200) ∧ (vp_in (((3600 * x1) + (6 * x2)) + 3) 7200) ∧ (vp_in (((3600 * x1) + (6 * x2)) + 4) 7200) ∧ (p_X11_act S.2.1 (S.1.2 4 ((3600 * x1) + (6 * x2)).toNatClampNeg) (S.1.2 4 (((3600 * x1) + (6 * x2)) + 1).toNatClampNeg) (S.1.2 4 (((3600 * x1) + (6 * x2)) + 2).toNatClampNeg) (S.1.2 4 (((3600 * x1) + (6 * x2)) + 3).toNatClampNeg) (S.1.2 4 (((3600 * x1) + (6 * x2)) + 4).toNatClampNeg)) ∧ (q_X12_back_a106 (mH S ((f_X11_act S.2.1 (S.1.2 4 ((3600 * x1) + (6 * x2)).toNatClampNeg) (S.1.2 4 (((3600 * x1) + (6 * x2)) + 1).toNatClampNeg) (S.1.2 4 (((3600 * x1) + (6 * x2)) + 2).toNatClampNeg) (S.1.2 4 (((3600 * x1) + (6 * x2)) + 3).toNatClampNeg) (S.1.2 4 (((3600 * x1) + (6 * x2)) + 4).toNatClampNeg)).2)) x1 x2 ((3600 * x1) + (6 * x2)) (f_X11_act S.2.1 (S.1.2 4 ((3600 * x1) + (6 * x2)).toNatClampNeg) (S.1.2 4 (((3600 * x1) + (6 * x2)) + 1).toNatClampNeg) (S.1.2 4 (((3600 * x1) + (6 * x2)) + 2).toNatClampNeg) (S.1.2 4 (((3600 * x1) + (6 * x2)) + 3).toNatClampNeg) (S.1.2 4 (((3600 * x1) + (6 * x2)) + 4).toNatClampNeg)).1))
def lp_X12_back_40 : Nat → MS → Int32 → Int32 → Int32 × MS
  | 0, S, _, _ => (0, S)
  | n + 1, S, x1, x2 => match st_X12_back_40 S x1 x2 with
    | Sum.inl r => r
    | Sum.inr q => lp_X12_back_40 n q.1 q.2.1 q.2.2
def lq_X12_back_40 : Nat → MS → Int32 → Int32 → Prop
  | 0, _, _, _ => False
  | n + 1, S, x1, x2 => ps_X12_back_40 S x1 x2 ∧ (match st_X12_back_40 S x1 x2 with
    | Sum.inl _ => True
    | Sum.inr q => lq_X12_back_40 n q.1 q.2.1 q.2.2)
def b_X12_back_a38 (S : MS) (x1 : Int32) : Int32 × MS := (lp_X12_back_40 100000 S x1 0)
def q_X12_back_a38 (S : MS) (x1 : Int32) : Prop := (lq_X12_back_40 100000 S x1 0)
def f_X12_back (S : MS) (x1 : Int32) : Int32 × MS := if (f_X12_in x1 0 1) = 0 then ((-9), S) else if (S.1.2 3 x1.toNatClampNeg) = (-1) then ((-11), S) else (b_X12_back_a38 (mH S ((f_X11_begin S.2.1 (S.1.2 2 x1.toNatClampNeg)).2)) x1)
def p_X12_back (S : MS) (x1 : Int32) : Prop := (p_X12_in x1 0 1) ∧ (if (f_X12_in x1 0 1) = 0 then True else (vp_in x1 2) ∧ (if (S.1.2 3 x1.toNatClampNeg) = (-1) then True else (vp_in x1 2) ∧ (p_X11_begin S.2.1 (S.1.2 2 x1.toNatClampNeg)) ∧ (q_X12_back_a38 (mH S ((f_X11_begin S.2.1 (S.1.2 2 x1.toNatClampNeg)).2)) x1)))
def e_X12_back : List Cond := [.methodLink RX12 1 yX12_in, .static yX12_in, .initialized RX12, .fieldLink RX12 27 "MotionFloorModel" "imageEntries" "[I", .fieldLink RX12 16 "MotionFloorModel" "hall" "LMotionFloorModel$Hall;", .fieldLink RX12 23 "MotionFloorModel" "imageSeats" "[I", .methodLink RX12 36 yX11_begin, .instanceMethod yX11_begin, .selects RX11 yX11_begin yX11_begin, .initialized RX11, .fieldLink RX12 52 "MotionFloorModel$Hall" "why" "I", .fieldLink RX12 30 "MotionFloorModel" "images" "[I", .methodLink RX12 40 yX11_act, .instanceMethod yX11_act, .selects RX11 yX11_act yX11_act]
def v_X12_back : List Cond := .code yX12_back cX12_back 5 (some .int) :: (e_X12_back ++ (wsX120 ++ (wsX110 ++ (v_X12_in ++ (v_X11_begin ++ (v_X11_act ++ []))))))
theorem te_X12_back : GoodIn lw_tbl e_X12_back := wGc z3 (wGc z2 (wGc z1 (wGc z307 (wGc z219 (wGc z308 (wGc z218 (wGc z217 (wGc z216 (wGc z51 (wGc z247 (wGc z306 (wGc z223 (wGc z222 (wGc z221 (wG0)))))))))))))))
theorem t_X12_back : GoodIn lw_tbl v_X12_back := wGc z310 (wGa te_X12_back (wGa zcX12 (wGa zcX11 (wGa t_X12_in (wGa t_X11_begin (wGa t_X11_act (wG0)))))))
set_option maxHeartbeats 4000000 in
set_option maxRecDepth 100000 in
theorem c_X12_back (l : Launch) (G : va_G) (K : Nat → ClassId) (m0 : Nat) (gm : Nat → Nat) (h1 : Nat) (g1 : Nat → Nat) (h2 : Nat) (g2 : Nat → Nat) (S0 : MS) (a1 : Int32) (sz : Nat) : Met l yX12_back v_X12_back ({ frames := 6, cells := 0, slots := 0, locals := 156 }) (va_Pc [.ref m0, .int a1] (mSt G K m0 gm h1 g1 h2 g2 sz S0 (p_X12_back S0 a1))) (va_Qi (fun (r : Int32) (u : MS) => (r, u) = f_X12_back S0 a1) (mB G K m0 gm h1 g1 h2 g2 (va_A (mW K m0 gm h1 g1 h2 g2 S0) sz)) (va_A (mW K m0 gm h1 g1 h2 g2 S0) sz)) 0 0 (va_A (mW K m0 gm h1 g1 h2 g2 S0) sz) := by
  refine Met.ofW (cc := cX12_back) (maxL := 5) (ret := (some .int)) (by decide) rfl ?_
  intro p e s m args below meth c s₁ B hml hv
  obtain ⟨rfl, ⟨hsz, hP, hK, hD0, hTE⟩, hp⟩ := hv
  have hx := B.exec
  have hb := B.bytes
  have hr := B.returns
  have hts := atoms_spec (ws := v_X12_back) B.pre
  have t_ := t_X12_back
  have mw : ∀ w ∈ e_X12_back, w ∈ v_X12_back := fun w h => List.mem_cons_of_mem _ (List.mem_append_left _ h)
  have hw := fun w (h : w ∈ e_X12_back) => hts w (mw w h)
  have iX12 : ∀ w ∈ wsX120, w ∈ v_X12_back := fun w h => List.mem_cons_of_mem _ (List.mem_append_right _ (List.mem_append_left _ h))
  have iX11 : ∀ w ∈ wsX110, w ∈ v_X12_back := fun w h => List.mem_cons_of_mem _ (List.mem_append_right _ (List.mem_append_right _ (List.mem_append_left _ h)))
  have j_X12_in : ∀ w ∈ v_X12_in, w ∈ v_X12_back := fun w h => List.mem_cons_of_mem _ (List.mem_append_right _ (List.mem_append_right _ (List.mem_append_right _ (List.mem_append_left _ h))))
  have j_X11_begin : ∀ w ∈ v_X11_begin, w ∈ v_X12_back := fun w h => List.mem_cons_of_mem _ (List.mem_append_right _ (List.mem_append_right _ (List.mem_append_right _ (List.mem_append_right _ (List.mem_append_left _ h)))))
  have j_X11_act : ∀ w ∈ v_X11_act, w ∈ v_X12_back := fun w h => List.mem_cons_of_mem _ (List.mem_append_right _ (List.mem_append_right _ (List.mem_append_right _ (List.mem_append_right _ (List.mem_append_right _ (List.mem_append_left _ h))))))
  have hown : s.vm.findClass RX12 = some m.cls := findClass_of_methodNamed B.named
  have hlocks := B.notSynchronized
  subst hsz
  have hD := hD0.self (sz := s.heap.size)
  generalize hAe : va_A (mW K m0 gm h1 g1 h2 g2 S0) s.heap.size = A at hD ⊢
  have hA : ∀ q : Nat, s.heap.size ≤ q → A q := fun q h => by rw [← hAe]; exact Or.inr h
  have hS : va_S A s.heap s.heap [] := va_S.rf
  have hl := lv_entry ([.ref m0, .int a1]) (n := 5) (Nat.le_of_ble_eq_true rfl)
  rw [lg_entry_eq]
  generalize (lg_sl ([.ref m0, .int a1]) ++ List.replicate (5 - (lg_sl ([.ref m0, .int a1])).length) Slot.unset).toArray = ls at hl ⊢
  have hl : lv_has ls 5 [(0, .ref m0), (1, .int a1)] := hl
  refine wGen (fun Q hQ => ?_)
  obtain ⟨X, hX⟩ : ∃ X, f_X12_back S0 a1 = X := ⟨_, rfl⟩
  have L_40 : ∀ (n : Nat) (S : MS) (x1 x2 : Int32) (H : Heap) (locs : List Loc) (ls : Array Slot), lp_X12_back_40 n S x1 x2 = X → lq_X12_back_40 n S x1 x2 → va_P G vwCl (mW K m0 gm h1 g1 h2 g2 S) H → va_D A (mW K m0 gm h1 g1 h2 g2 S) → va_S A s.heap H locs → lv_has ls 5 [(0, .ref m0), (1, .int x1), (2, .int x2)] → W p l e ({ frames := 6, cells := 0, slots := 0, locals := 156 } : Room) s m #[Value.ref m0, Value.int a1] below meth c H locs 0 0 Q (F0 m 40 ls []) := by
    intro n1
    induction n1 with
    | zero => intro S x1 x2 H locs ls hE hp; exact False.elim hp
    | succ n1 ih1 =>
      intro S x1 x2 H locs ls hO1 hp hP hD hS hl
      rw [lp_X12_back_40] at hO1
      rw [lq_X12_back_40] at hp
      obtain ⟨hp, hq1⟩ := hp
      generalize hE : st_X12_back_40 S x1 x2 = Y1 at hO1 hq1
      unfold st_X12_back_40 at hE
      unfold ps_X12_back_40 at hp
      refine lv_iload_n hx hb dX12_back_40 rfl (lv_at hl 2 rfl) ?_
      refine lv_aload_n hx hb dX12_back_41 rfl (lv_at hl 0 rfl) ?_
      refine va_get (D := G) (ci := 9) (v := .ref (gm 3)) (C := RX12) (T := TX12) (N := 7) hx hb hts iX12 hown hK hP 0 rfl rfl 3 (by decide) (hw (.fieldLink RX12 27 "MotionFloorModel" "imageEntries" "[I") (List.mem_of_getElem? (i := 3) rfl)) (fun _ h9 => h9) rfl dX12_back_42 ?_
      refine lv_iload_n hx hb dX12_back_45 rfl (lv_at hl 1 rfl) ?_
      obtain ⟨hy9, hp⟩ := hp
      refine va_iald hx hb hK hP 2 0 rfl rfl hy9 dX12_back_46 ?_
      refine lv_icmp_ge (tgt := 114) hx hb dX12_back_47 (by decide) (fun c10 => ?_) (fun c10 => ?_)
      · rw [if_pos c10] at hE hp
        subst hE
        have hE := hO1
        dsimp only at hE
        refine lv_aload_n hx hb dX12_back_114 rfl (lv_at hl 0 rfl) ?_
        refine va_get (D := G) (ci := 9) (v := .ref h1) (C := RX12) (T := TX12) (N := 7) hx hb hts iX12 hown hK hP 0 rfl rfl 0 (by decide) (hw (.fieldLink RX12 16 "MotionFloorModel" "hall" "LMotionFloorModel$Hall;") (List.mem_of_getElem? (i := 4) rfl)) (fun _ h9 => h9) rfl dX12_back_115 ?_
        refine lv_iconst (v := 0) hx hb dX12_back_118 (by decide) ?_
        refine va_put (D := G) (ci := 8) (v := .int 0) (ty := .int) (C := RX11) (T := TX11) (N := 42) hx hb hts iX11 tyX11 tyX11_ok nmX11 hown hK hP hD hS 5 rfl rfl 10 (by decide) (hw (.fieldLink RX12 52 "MotionFloorModel$Hall" "why" "I") (List.mem_of_getElem? (i := 10) rfl)) (fun _ h9 => h9) rfl (by decide +kernel) rfl rfl (Nat.le_of_ble_eq_true rfl) dX12_back_119 (fun H locs hP hD hS => ?_)
        rw [mI_h_10] at hP hD
        refine lv_aload_n hx hb dX12_back_122 rfl (lv_at hl 0 rfl) ?_
        refine va_get (D := G) (ci := 9) (v := .ref (gm 3)) (C := RX12) (T := TX12) (N := 7) hx hb hts iX12 hown hK hP 0 rfl rfl 3 (by decide) (hw (.fieldLink RX12 27 "MotionFloorModel" "imageEntries" "[I") (List.mem_of_getElem? (i := 3) rfl)) (fun _ h9 => h9) rfl dX12_back_123 ?_
        refine lv_iload_n hx hb dX12_back_126 rfl (lv_at hl 1 rfl) ?_
        obtain ⟨hy11, hp⟩ := hp
        refine va_iald hx hb hK hP 2 0 rfl rfl hy11 dX12_back_127 ?_
        subst hQ
        exact W.iret (v := (((mH S (sI S.2.1 10 0)).1).2 3 x1.toNatClampNeg)) hx hb hr (fun t ht hW => ⟨⟨(((mH S (sI S.2.1 10 0)).1).2 3 x1.toNatClampNeg), (mH S (sI S.2.1 10 0)), rfl, hE.trans hX.symm, by rw [ht]; exact hP, hD⟩, hS.F ht⟩) hS.2.2 dX12_back_128
      · rw [if_neg c10] at hE hp
        refine lv_sipush (v := 3600) hx hb dX12_back_50 (by decide) ?_
        refine lv_iload_n hx hb dX12_back_53 rfl (lv_at hl 1 rfl) ?_
        refine lv_imul hx hb dX12_back_54 ?_
        refine lv_bipush (v := 6) hx hb dX12_back_55 (by decide) ?_
        refine lv_iload_n hx hb dX12_back_57 rfl (lv_at hl 2 rfl) ?_
        refine lv_imul hx hb dX12_back_58 ?_
        refine lv_iadd hx hb dX12_back_59 ?_
        refine lv_istore_n (lv' := [(3, .int ((3600 * x1) + (6 * x2))), (0, .ref m0), (1, .int x1), (2, .int x2)]) hx hb dX12_back_60 rfl hl (by decide) rfl (fun ls hl => ?_)
        refine lv_aload_n hx hb dX12_back_61 rfl (lv_at hl 1 rfl) ?_
        refine va_get (D := G) (ci := 9) (v := .ref h1) (C := RX12) (T := TX12) (N := 7) hx hb hts iX12 hown hK hP 0 rfl rfl 0 (by decide) (hw (.fieldLink RX12 16 "MotionFloorModel" "hall" "LMotionFloorModel$Hall;") (List.mem_of_getElem? (i := 4) rfl)) (fun _ h9 => h9) rfl dX12_back_62 ?_
        refine lv_aload_n hx hb dX12_back_65 rfl (lv_at hl 1 rfl) ?_
        refine va_get (D := G) (ci := 9) (v := .ref (gm 4)) (C := RX12) (T := TX12) (N := 7) hx hb hts iX12 hown hK hP 0 rfl rfl 4 (by decide) (hw (.fieldLink RX12 30 "MotionFloorModel" "images" "[I") (List.mem_of_getElem? (i := 11) rfl)) (fun _ h9 => h9) rfl dX12_back_66 ?_
        refine lv_iload_n hx hb dX12_back_69 rfl (lv_at hl 0 rfl) ?_
        obtain ⟨hy12, hp⟩ := hp
        refine va_iald hx hb hK hP 3 0 rfl rfl hy12 dX12_back_70 ?_
        refine lv_aload_n hx hb dX12_back_71 rfl (lv_at hl 1 rfl) ?_
        refine va_get (D := G) (ci := 9) (v := .ref (gm 4)) (C := RX12) (T := TX12) (N := 7) hx hb hts iX12 hown hK hP 0 rfl rfl 4 (by decide) (hw (.fieldLink RX12 30 "MotionFloorModel" "images" "[I") (List.mem_of_getElem? (i := 11) rfl)) (fun _ h9 => h9) rfl dX12_back_72 ?_
        refine lv_iload_n hx hb dX12_back_75 rfl (lv_at hl 0 rfl) ?_
        refine lv_iconst (v := 1) hx hb dX12_back_76 (by decide) ?_
        refine lv_iadd hx hb dX12_back_77 ?_
        obtain ⟨hy13, hp⟩ := hp
        refine va_iald hx hb hK hP 3 0 rfl rfl hy13 dX12_back_78 ?_
        refine lv_aload_n hx hb dX12_back_79 rfl (lv_at hl 1 rfl) ?_
        refine va_get (D := G) (ci := 9) (v := .ref (gm 4)) (C := RX12) (T := TX12) (N := 7) hx hb hts iX12 hown hK hP 0 rfl rfl 4 (by decide) (hw (.fieldLink RX12 30 "MotionFloorModel" "images" "[I") (List.mem_of_getElem? (i := 11) rfl)) (fun _ h9 => h9) rfl dX12_back_80 ?_
        refine lv_iload_n hx hb dX12_back_83 rfl (lv_at hl 0 rfl) ?_
        refine lv_iconst (v := 2) hx hb dX12_back_84 (by decide) ?_
        refine lv_iadd hx hb dX12_back_85 ?_
        obtain ⟨hy14, hp⟩ := hp
        refine va_iald hx hb hK hP 3 0 rfl rfl hy14 dX12_back_86 ?_
        refine lv_aload_n hx hb dX12_back_87 rfl (lv_at hl 1 rfl) ?_
        refine va_get (D := G) (ci := 9) (v := .ref (gm 4)) (C := RX12) (T := TX12) (N := 7) hx hb hts iX12 hown hK hP 0 rfl rfl 4 (by decide) (hw (.fieldLink RX12 30 "MotionFloorModel" "images" "[I") (List.mem_of_getElem? (i := 11) rfl)) (fun _ h9 => h9) rfl dX12_back_88 ?_
        refine lv_iload_n hx hb dX12_back_91 rfl (lv_at hl 0 rfl) ?_
        refine lv_iconst (v := 3) hx hb dX12_back_92 (by decide) ?_
        refine lv_iadd hx hb dX12_back_93 ?_
        obtain ⟨hy15, hp⟩ := hp
        refine va_iald hx hb hK hP 3 0 rfl rfl hy15 dX12_back_94 ?_
        refine lv_aload_n hx hb dX12_back_95 rfl (lv_at hl 1 rfl) ?_
        refine va_get (D := G) (ci := 9) (v := .ref (gm 4)) (C := RX12) (T := TX12) (N := 7) hx hb hts iX12 hown hK hP 0 rfl rfl 4 (by decide) (hw (.fieldLink RX12 30 "MotionFloorModel" "images" "[I") (List.mem_of_getElem? (i := 11) rfl)) (fun _ h9 => h9) rfl dX12_back_96 ?_
        refine lv_iload_n hx hb dX12_back_99 rfl (lv_at hl 0 rfl) ?_
        refine lv_iconst (v := 4) hx hb dX12_back_100 (by decide) ?_
        refine lv_iadd hx hb dX12_back_101 ?_
        obtain ⟨hy16, hp⟩ := hp
        refine va_iald hx hb hK hP 3 0 rfl rfl hy16 dX12_back_102 ?_
        obtain ⟨hy17, hp⟩ := hp
        refine mGoi_h (va_runV (As := [.int (S.1.2 4 ((3600 * x1) + (6 * x2)).toNatClampNeg), .int (S.1.2 4 (((3600 * x1) + (6 * x2)) + 1).toNatClampNeg), .int (S.1.2 4 (((3600 * x1) + (6 * x2)) + 2).toNatClampNeg), .int (S.1.2 4 (((3600 * x1) + (6 * x2)) + 3).toNatClampNeg), .int (S.1.2 4 (((3600 * x1) + (6 * x2)) + 4).toNatClampNeg)]) (rest := []) ⟨hx, hb, hml, hown, hts⟩ (c_X11_act l G K h1 g1 S.2.1 (S.1.2 4 ((3600 * x1) + (6 * x2)).toNatClampNeg) (S.1.2 4 (((3600 * x1) + (6 * x2)) + 1).toNatClampNeg) (S.1.2 4 (((3600 * x1) + (6 * x2)) + 2).toNatClampNeg) (S.1.2 4 (((3600 * x1) + (6 * x2)) + 3).toNatClampNeg) (S.1.2 4 (((3600 * x1) + (6 * x2)) + 4).toNatClampNeg) _) (cwV 5 hts (wGV t_ (mw (.methodLink RX12 40 yX11_act) (List.mem_of_getElem? (i := 12) rfl)) (mw (.instanceMethod yX11_act) (List.mem_of_getElem? (i := 13) rfl)) (mw (.selects RX11 yX11_act yX11_act) (List.mem_of_getElem? (i := 14) rfl)) (mw (.initialized RX11) (List.mem_of_getElem? (i := 9) rfl)) j_X11_act) rfl rfl rfl (by decide +kernel) ⟨Nat.le_of_ble_eq_true rfl, Nat.le_of_ble_eq_true rfl⟩) (hPV hK hTE (mP_h hP) (mD_h hD) hy17) rfl rfl hl.1 rfl (lv_room (Nat.le_of_ble_eq_true rfl)) dX12_back_103 ⟨Nat.le_of_ble_eq_true rfl, Nat.le_of_ble_eq_true rfl⟩) hP hD hS hA (fun r19 u18 H locs hv hP hD hS => ?_)
        rw [← hv] at hE hp
        dsimp only at hE hp
        unfold b_X12_back_a106 at hE
        unfold q_X12_back_a106 at hp
        refine lv_istore (lv' := [(4, .int r19), (3, .int ((3600 * x1) + (6 * x2))), (0, .ref m0), (1, .int x1), (2, .int x2)]) hx hb dX12_back_106 hl (by decide) rfl (fun ls hl => ?_)
        refine lv_iinc (v := (x2 + 1)) (lv' := [(2, .int (x2 + 1)), (4, .int r19), (3, .int ((3600 * x1) + (6 * x2))), (0, .ref m0), (1, .int x1)]) hx hb dX12_back_108 hl (k := 4) rfl rfl (by decide) rfl (fun ls hl => ?_)
        refine lv_goto (tgt := 40) hx hb dX12_back_111 (by decide) ?_
        subst hE
        dsimp only at hO1 hq1
        exact ih1 (mH S u18) x1 (x2 + 1) _ _ _ hO1 hq1 hP hD hS (lv_sub hl [3, 4, 0] rfl)
  have B_M : ∀ (S : MS) (x1 : Int32) (H : Heap) (locs : List Loc) (ls : Array Slot), f_X12_back S x1 = X → p_X12_back S x1 → va_P G vwCl (mW K m0 gm h1 g1 h2 g2 S) H → va_D A (mW K m0 gm h1 g1 h2 g2 S) → va_S A s.heap H locs → lv_has ls 5 [(0, .ref m0), (1, .int x1)] → W p l e ({ frames := 6, cells := 0, slots := 0, locals := 156 } : Room) s m #[Value.ref m0, Value.int a1] below meth c H locs 0 0 Q (F0 m 0 ls []) := by
    intro S x1 H locs ls hE hp hP hD hS hl
    unfold f_X12_back at hE
    unfold p_X12_back at hp
    refine lv_iload_n hx hb dX12_back_0 rfl (lv_at hl 1 rfl) ?_
    refine lv_iconst (v := 0) hx hb dX12_back_1 (by decide) ?_
    refine lv_iconst (v := 1) hx hb dX12_back_2 (by decide) ?_
    obtain ⟨hy1, hp⟩ := hp
    refine nGoi (va_runS (As := [.int x1, .int 0, .int 1]) (rest := []) ⟨hx, hb, hml, hown, hts⟩ (c_X12_in l G K x1 0 1 _) (va_cwS 3 hts (wGS t_ (mw (.methodLink RX12 1 yX12_in) (List.mem_of_getElem? (i := 0) rfl)) (mw (.static yX12_in) (List.mem_of_getElem? (i := 1) rfl)) (mw (.initialized RX12) (List.mem_of_getElem? (i := 2) rfl)) j_X12_in) rfl rfl rfl (by decide +kernel) ⟨Nat.le_of_ble_eq_true rfl, Nat.le_of_ble_eq_true rfl⟩) (nPS hK hTE hy1) rfl rfl hl.1 rfl (lv_room (Nat.le_of_ble_eq_true rfl)) dX12_back_3 ⟨Nat.le_of_ble_eq_true rfl, Nat.le_of_ble_eq_true rfl⟩) hP hS hA (fun r H locs hv hP hS => ?_)
    subst hv
    refine lv_if_ne (tgt := 12) hx hb dX12_back_6 (by decide) (fun c2 => ?_) (fun c2 => ?_)
    · rw [if_neg c2] at hE hp
      refine lv_aload_n hx hb dX12_back_12 rfl (lv_at hl 0 rfl) ?_
      refine va_get (D := G) (ci := 9) (v := .ref (gm 3)) (C := RX12) (T := TX12) (N := 7) hx hb hts iX12 hown hK hP 0 rfl rfl 3 (by decide) (hw (.fieldLink RX12 27 "MotionFloorModel" "imageEntries" "[I") (List.mem_of_getElem? (i := 3) rfl)) (fun _ h9 => h9) rfl dX12_back_13 ?_
      refine lv_iload_n hx hb dX12_back_16 rfl (lv_at hl 1 rfl) ?_
      obtain ⟨hy3, hp⟩ := hp
      refine va_iald hx hb hK hP 2 0 rfl rfl hy3 dX12_back_17 ?_
      refine lv_iconst (v := (-1)) hx hb dX12_back_18 (by decide) ?_
      refine lv_icmp_ne (tgt := 25) hx hb dX12_back_19 (by decide) (fun c4 => ?_) (fun c4 => ?_)
      · rw [if_neg c4] at hE hp
        refine lv_aload_n hx hb dX12_back_25 rfl (lv_at hl 0 rfl) ?_
        refine va_get (D := G) (ci := 9) (v := .ref h1) (C := RX12) (T := TX12) (N := 7) hx hb hts iX12 hown hK hP 0 rfl rfl 0 (by decide) (hw (.fieldLink RX12 16 "MotionFloorModel" "hall" "LMotionFloorModel$Hall;") (List.mem_of_getElem? (i := 4) rfl)) (fun _ h9 => h9) rfl dX12_back_26 ?_
        refine lv_aload_n hx hb dX12_back_29 rfl (lv_at hl 0 rfl) ?_
        refine va_get (D := G) (ci := 9) (v := .ref (gm 2)) (C := RX12) (T := TX12) (N := 7) hx hb hts iX12 hown hK hP 0 rfl rfl 2 (by decide) (hw (.fieldLink RX12 23 "MotionFloorModel" "imageSeats" "[I") (List.mem_of_getElem? (i := 5) rfl)) (fun _ h9 => h9) rfl dX12_back_30 ?_
        refine lv_iload_n hx hb dX12_back_33 rfl (lv_at hl 1 rfl) ?_
        obtain ⟨hy5, hp⟩ := hp
        refine va_iald hx hb hK hP 1 0 rfl rfl hy5 dX12_back_34 ?_
        obtain ⟨hy6, hp⟩ := hp
        refine mGov_h (va_runV (As := [.int (S.1.2 2 x1.toNatClampNeg)]) (rest := []) ⟨hx, hb, hml, hown, hts⟩ (c_X11_begin l G K h1 g1 S.2.1 (S.1.2 2 x1.toNatClampNeg) _) (cwV 1 hts (wGV t_ (mw (.methodLink RX12 36 yX11_begin) (List.mem_of_getElem? (i := 6) rfl)) (mw (.instanceMethod yX11_begin) (List.mem_of_getElem? (i := 7) rfl)) (mw (.selects RX11 yX11_begin yX11_begin) (List.mem_of_getElem? (i := 8) rfl)) (mw (.initialized RX11) (List.mem_of_getElem? (i := 9) rfl)) j_X11_begin) rfl rfl rfl (by decide +kernel) ⟨Nat.le_of_ble_eq_true rfl, Nat.le_of_ble_eq_true rfl⟩) (hPV hK hTE (mP_h hP) (mD_h hD) hy6) rfl rfl hl.1 rfl (lv_room (Nat.le_of_ble_eq_true rfl)) dX12_back_35 ⟨Nat.le_of_ble_eq_true rfl, Nat.le_of_ble_eq_true rfl⟩) hP hD hS hA (fun u7 H locs hv hP hD hS => ?_)
        rw [← hv] at hE hp
        dsimp only at hE hp
        unfold b_X12_back_a38 at hE
        unfold q_X12_back_a38 at hp
        refine lv_iconst (v := 0) hx hb dX12_back_38 (by decide) ?_
        refine lv_istore_n (lv' := [(2, .int 0), (0, .ref m0), (1, .int x1)]) hx hb dX12_back_39 rfl hl (by decide) rfl (fun ls hl => ?_)
        exact L_40 100000 (mH S u7) x1 0 _ _ _ hE hp hP hD hS (lv_sub hl [1, 2, 0] rfl)
      · rw [if_pos c4] at hE hp
        refine lv_bipush (v := (-11)) hx hb dX12_back_22 (by decide) ?_
        subst hQ
        exact W.iret (v := (-11)) hx hb hr (fun t ht hW => ⟨⟨(-11), S, rfl, hE.trans hX.symm, by rw [ht]; exact hP, hD⟩, hS.F ht⟩) hS.2.2 dX12_back_24
    · rw [if_pos c2] at hE hp
      refine lv_bipush (v := (-9)) hx hb dX12_back_9 (by decide) ?_
      subst hQ
      exact W.iret (v := (-9)) hx hb hr (fun t ht hW => ⟨⟨(-9), S, rfl, hE.trans hX.symm, by rw [ht]; exact hP, hD⟩, hS.F ht⟩) hS.2.2 dX12_back_11
  exact B_M S0 a1 _ _ _ hX hp hP hD hS hl
