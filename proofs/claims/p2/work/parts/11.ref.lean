def b_X11_reasonOfWord_23 (S : HS) (x1 x2 x3 x4 : Int32) : Int32 × HS := (11, S)
def q_X11_reasonOfWord_23 (S : HS) (x1 x2 x3 x4 : Int32) : Prop := True
def b_X11_reasonOfWord_68 (S : HS) (x1 x2 x3 x4 : Int32) : Int32 × HS := (9, S)
def q_X11_reasonOfWord_68 (S : HS) (x1 x2 x3 x4 : Int32) : Prop := True
def b_X11_reasonOfWord_131 (S : HS) (x1 x2 x3 x4 x5 y0 : Int32) : Int32 × HS := (y0, S)
def q_X11_reasonOfWord_131 (S : HS) (x1 x2 x3 x4 x5 y0 : Int32) : Prop := True
def b_X11_reasonOfWord_102 (S : HS) (x1 x2 x3 x4 y0 y1 : Int32) : Int32 × HS := if ((S.2 19 (S.2 32 (0 : Int32).toNatClampNeg).toNatClampNeg) + (y1 + y0)) ≤ 400 then (b_X11_reasonOfWord_131 S x1 x2 x3 x4 (y1 + y0) 0) else (b_X11_reasonOfWord_131 S x1 x2 x3 x4 (y1 + y0) 10)
def q_X11_reasonOfWord_102 (S : HS) (x1 x2 x3 x4 y0 y1 : Int32) : Prop := (vp_in 0 9) ∧ (vp_in (S.2 32 (0 : Int32).toNatClampNeg) 90) ∧ (if ((S.2 19 (S.2 32 (0 : Int32).toNatClampNeg).toNatClampNeg) + (y1 + y0)) ≤ 400 then (q_X11_reasonOfWord_131 S x1 x2 x3 x4 (y1 + y0) 0) else (q_X11_reasonOfWord_131 S x1 x2 x3 x4 (y1 + y0) 10))
def b_X11_reasonOfWord_91 (S : HS) (x1 x2 x3 x4 y0 y1 : Int32) : Int32 × HS := if x4 = 0 then (b_X11_reasonOfWord_102 S x1 x2 x3 x4 0 (y1 + y0)) else (b_X11_reasonOfWord_102 S x1 x2 x3 x4 1 (y1 + y0))
def q_X11_reasonOfWord_91 (S : HS) (x1 x2 x3 x4 y0 y1 : Int32) : Prop := (if x4 = 0 then (q_X11_reasonOfWord_102 S x1 x2 x3 x4 0 (y1 + y0)) else (q_X11_reasonOfWord_102 S x1 x2 x3 x4 1 (y1 + y0)))
def b_X11_reasonOfWord_81 (S : HS) (x1 x2 x3 x4 y0 y1 : Int32) : Int32 × HS := if x3 = 0 then (b_X11_reasonOfWord_91 S x1 x2 x3 x4 0 (y1 + y0)) else (b_X11_reasonOfWord_91 S x1 x2 x3 x4 1 (y1 + y0))
def q_X11_reasonOfWord_81 (S : HS) (x1 x2 x3 x4 y0 y1 : Int32) : Prop := (if x3 = 0 then (q_X11_reasonOfWord_91 S x1 x2 x3 x4 0 (y1 + y0)) else (q_X11_reasonOfWord_91 S x1 x2 x3 x4 1 (y1 + y0)))
def b_X11_reasonOfWord_71 (S : HS) (x1 x2 x3 x4 : Int32) : Int32 × HS := if x2 = 0 then (b_X11_reasonOfWord_81 S x1 x2 x3 x4 0 1) else (b_X11_reasonOfWord_81 S x1 x2 x3 x4 1 1)
def q_X11_reasonOfWord_71 (S : HS) (x1 x2 x3 x4 : Int32) : Prop := (if x2 = 0 then (q_X11_reasonOfWord_81 S x1 x2 x3 x4 0 1) else (q_X11_reasonOfWord_81 S x1 x2 x3 x4 1 1))
def b_X11_reasonOfWord_55 (S : HS) (x1 x2 x3 x4 : Int32) : Int32 × HS := if x4 = 0 then (b_X11_reasonOfWord_71 S x1 x2 x3 x4) else if (f_X11_isWord x4) = 0 then (b_X11_reasonOfWord_68 S x1 x2 x3 x4) else (b_X11_reasonOfWord_71 S x1 x2 x3 x4)
def q_X11_reasonOfWord_55 (S : HS) (x1 x2 x3 x4 : Int32) : Prop := (if x4 = 0 then (q_X11_reasonOfWord_71 S x1 x2 x3 x4) else (p_X11_isWord x4) ∧ (if (f_X11_isWord x4) = 0 then (q_X11_reasonOfWord_68 S x1 x2 x3 x4) else (q_X11_reasonOfWord_71 S x1 x2 x3 x4)))
def b_X11_reasonOfWord_44 (S : HS) (x1 x2 x3 x4 : Int32) : Int32 × HS := if x3 = 0 then (b_X11_reasonOfWord_55 S x1 x2 x3 x4) else if (f_X11_isWord x3) = 0 then (b_X11_reasonOfWord_68 S x1 x2 x3 x4) else (b_X11_reasonOfWord_55 S x1 x2 x3 x4)
def q_X11_reasonOfWord_44 (S : HS) (x1 x2 x3 x4 : Int32) : Prop := (if x3 = 0 then (q_X11_reasonOfWord_55 S x1 x2 x3 x4) else (p_X11_isWord x3) ∧ (if (f_X11_isWord x3) = 0 then (q_X11_reasonOfWord_68 S x1 x2 x3 x4) else (q_X11_reasonOfWord_55 S x1 x2 x3 x4)))
def b_X11_reasonOfWord_a6 (S : HS) (x1 x2 x3 x4 y0 : Int32) : Int32 × HS := if y0 = 0 then (b_X11_reasonOfWord_23 S x1 x2 x3 x4) else if (S.2 25 (S.2 32 (0 : Int32).toNatClampNeg).toNatClampNeg) = 0 then if (f_X11_isWord x1) = 0 then (b_X11_reasonOfWord_68 S x1 x2 x3 x4) else if x2 = 0 then (b_X11_reasonOfWord_44 S x1 x2 x3 x4) else if (f_X11_isWord x2) = 0 then (b_X11_reasonOfWord_68 S x1 x2 x3 x4) else (b_X11_reasonOfWord_44 S x1 x2 x3 x4) else (b_X11_reasonOfWord_23 S x1 x2 x3 x4)
def q_X11_reasonOfWord_a6 (S : HS) (x1 x2 x3 x4 y0 : Int32) : Prop := (if y0 = 0 then (q_X11_reasonOfWord_23 S x1 x2 x3 x4) else (vp_in 0 9) ∧ (vp_in (S.2 32 (0 : Int32).toNatClampNeg) 90) ∧ (if (S.2 25 (S.2 32 (0 : Int32).toNatClampNeg).toNatClampNeg) = 0 then (p_X11_isWord x1) ∧ (if (f_X11_isWord x1) = 0 then (q_X11_reasonOfWord_68 S x1 x2 x3 x4) else (if x2 = 0 then (q_X11_reasonOfWord_44 S x1 x2 x3 x4) else (p_X11_isWord x2) ∧ (if (f_X11_isWord x2) = 0 then (q_X11_reasonOfWord_68 S x1 x2 x3 x4) else (q_X11_reasonOfWord_44 S x1 x2 x3 x4)))) else (q_X11_reasonOfWord_23 S x1 x2 x3 x4)))
def f_X11_reasonOfWord (S : HS) (x1 x2 x3 x4 : Int32) : Int32 × HS := (b_X11_reasonOfWord_a6 (f_X11_hasDraft S 1 5).2 x1 x2 x3 x4 (f_X11_hasDraft S 1 5).1)
def p_X11_reasonOfWord (S : HS) (x1 x2 x3 x4 : Int32) : Prop := (p_X11_hasDraft S 1 5) ∧ (q_X11_reasonOfWord_a6 (f_X11_hasDraft S 1 5).2 x1 x2 x3 x4 (f_X11_hasDraft S 1 5).1)
def e_X11_reasonOfWord : List Cond := [.methodLink RX11 163 yX11_hasDraft, .instanceMethod yX11_hasDraft, .selects RX11 yX11_hasDraft yX11_hasDraft, .initialized RX11, .fieldLink RX11 55 "MotionFloorModel$Hall" "laid" "[Z", .fieldLink RX11 75 "MotionFloorModel$Hall" "draft" "[I", .methodLink RX11 181 yX11_isWord, .static yX11_isWord, .fieldLink RX11 37 "MotionFloorModel$Hall" "words" "[I"]
def v_X11_reasonOfWord : List Cond := .code yX11_reasonOfWord cX11_reasonOfWord 6 (some .int) :: (e_X11_reasonOfWord ++ (wsX110 ++ (v_X11_hasDraft ++ (v_X11_isWord ++ []))))
theorem te_X11_reasonOfWord : GoodIn lw_tbl e_X11_reasonOfWord := wGc z98 (wGc z97 (wGc z96 (wGc z51 (wGc z72 (wGc z84 (wGc z95 (wGc z94 (wGc z76 (wG0)))))))))
theorem t_X11_reasonOfWord : GoodIn lw_tbl v_X11_reasonOfWord := wGc z99 (wGa te_X11_reasonOfWord (wGa zcX11 (wGa t_X11_hasDraft (wGa t_X11_isWord (wG0)))))
set_option maxHeartbeats 4000000 in
set_option maxRecDepth 100000 in
theorem c_X11_reasonOfWord (l : Launch) (G : va_G) (K : Nat → ClassId) (h : Nat) (g : Nat → Nat) (S0 : HS) (a1 a2 a3 a4 : Int32) (sz : Nat) : Met l yX11_reasonOfWord v_X11_reasonOfWord ({ frames := 2, cells := 0, slots := 0, locals := 44 }) (va_Pc [.ref h, .int a1, .int a2, .int a3, .int a4] (hS G K h g sz S0 (p_X11_reasonOfWord S0 a1 a2 a3 a4))) (va_Qi (fun (r : Int32) (u : HS) => (r, u) = f_X11_reasonOfWord S0 a1 a2 a3 a4) (hB G K h g (va_A (hW K h g S0) sz)) (va_A (hW K h g S0) sz)) 0 0 (va_A (hW K h g S0) sz) := by
  refine Met.ofW (cc := cX11_reasonOfWord) (maxL := 6) (ret := (some .int)) (by decide) rfl ?_
  intro p e s m args below meth c s₁ B hml hv
  obtain ⟨rfl, ⟨hsz, hP, hK, hD0, hTE⟩, hp⟩ := hv
  have hx := B.exec
  have hb := B.bytes
  have hr := B.returns
  have hts := atoms_spec (ws := v_X11_reasonOfWord) B.pre
  have t_ := t_X11_reasonOfWord
  have mw : ∀ w ∈ e_X11_reasonOfWord, w ∈ v_X11_reasonOfWord := fun w h => List.mem_cons_of_mem _ (List.mem_append_left _ h)
  have hw := fun w (h : w ∈ e_X11_reasonOfWord) => hts w (mw w h)
  have iX11 : ∀ w ∈ wsX110, w ∈ v_X11_reasonOfWord := fun w h => List.mem_cons_of_mem _ (List.mem_append_right _ (List.mem_append_left _ h))
  have j_X11_hasDraft : ∀ w ∈ v_X11_hasDraft, w ∈ v_X11_reasonOfWord := fun w h => List.mem_cons_of_mem _ (List.mem_append_right _ (List.mem_append_right _ (List.mem_append_left _ h)))
  have j_X11_isWord : ∀ w ∈ v_X11_isWord, w ∈ v_X11_reasonOfWord := fun w h => List.mem_cons_of_mem _ (List.mem_append_right _ (List.mem_append_right _ (List.mem_append_right _ (List.mem_append_left _ h))))
  have hown : s.vm.findClass RX11 = some m.cls := findClass_of_methodNamed B.named
  have hlocks := B.notSynchronized
  subst hsz
  have hD := hD0.self (sz := s.heap.size)
  generalize hAe : va_A (hW K h g S0) s.heap.size = A at hD ⊢
  have hA : ∀ q : Nat, s.heap.size ≤ q → A q := fun q h => by rw [← hAe]; exact Or.inr h
  have hS : va_S A s.heap s.heap [] := va_S.rf
  have hl := lv_entry ([.ref h, .int a1, .int a2, .int a3, .int a4]) (n := 6) (Nat.le_of_ble_eq_true rfl)
  rw [lg_entry_eq]
  generalize (lg_sl ([.ref h, .int a1, .int a2, .int a3, .int a4]) ++ List.replicate (6 - (lg_sl ([.ref h, .int a1, .int a2, .int a3, .int a4])).length) Slot.unset).toArray = ls at hl ⊢
  have hl : lv_has ls 6 [(0, .ref h), (1, .int a1), (2, .int a2), (3, .int a3), (4, .int a4)] := hl
  refine wGen (fun Q hQ => ?_)
  obtain ⟨X, hX⟩ : ∃ X, f_X11_reasonOfWord S0 a1 a2 a3 a4 = X := ⟨_, rfl⟩
  have B_23 : ∀ (S : HS) (x1 x2 x3 x4 : Int32) (H : Heap) (locs : List Loc) (ls : Array Slot), b_X11_reasonOfWord_23 S x1 x2 x3 x4 = X → q_X11_reasonOfWord_23 S x1 x2 x3 x4 → va_P G vwCl (hW K h g S) H → va_D A (hW K h g S) → va_S A s.heap H locs → lv_has ls 6 [(0, .ref h), (1, .int x1), (2, .int x2), (3, .int x3), (4, .int x4)] → W p l e ({ frames := 2, cells := 0, slots := 0, locals := 44 } : Room) s m #[Value.ref h, Value.int a1, Value.int a2, Value.int a3, Value.int a4] below meth c H locs 0 0 Q (F0 m 23 ls []) := by
    intro S x1 x2 x3 x4 H locs ls hE hp hP hD hS hl
    unfold b_X11_reasonOfWord_23 at hE
    unfold q_X11_reasonOfWord_23 at hp
    refine lv_bipush (v := 11) hx hb dX11_reasonOfWord_23 (by decide) ?_
    subst hQ
    exact W.iret (v := 11) hx hb hr (fun t ht hW => ⟨⟨11, S, rfl, hE.trans hX.symm, by rw [ht]; exact hP, hD⟩, hS.F ht⟩) hS.2.2 dX11_reasonOfWord_25
  have B_68 : ∀ (S : HS) (x1 x2 x3 x4 : Int32) (H : Heap) (locs : List Loc) (ls : Array Slot), b_X11_reasonOfWord_68 S x1 x2 x3 x4 = X → q_X11_reasonOfWord_68 S x1 x2 x3 x4 → va_P G vwCl (hW K h g S) H → va_D A (hW K h g S) → va_S A s.heap H locs → lv_has ls 6 [(0, .ref h), (1, .int x1), (2, .int x2), (3, .int x3), (4, .int x4)] → W p l e ({ frames := 2, cells := 0, slots := 0, locals := 44 } : Room) s m #[Value.ref h, Value.int a1, Value.int a2, Value.int a3, Value.int a4] below meth c H locs 0 0 Q (F0 m 68 ls []) := by
    intro S x1 x2 x3 x4 H locs ls hE hp hP hD hS hl
    unfold b_X11_reasonOfWord_68 at hE
    unfold q_X11_reasonOfWord_68 at hp
    refine lv_bipush (v := 9) hx hb dX11_reasonOfWord_68 (by decide) ?_
    subst hQ
    exact W.iret (v := 9) hx hb hr (fun t ht hW => ⟨⟨9, S, rfl, hE.trans hX.symm, by rw [ht]; exact hP, hD⟩, hS.F ht⟩) hS.2.2 dX11_reasonOfWord_70
  have B_131 : ∀ (S : HS) (x1 x2 x3 x4 x5 y0 : Int32) (H : Heap) (locs : List Loc) (ls : Array Slot), b_X11_reasonOfWord_131 S x1 x2 x3 x4 x5 y0 = X → q_X11_reasonOfWord_131 S x1 x2 x3 x4 x5 y0 → va_P G vwCl (hW K h g S) H → va_D A (hW K h g S) → va_S A s.heap H locs → lv_has ls 6 [(0, .ref h), (1, .int x1), (2, .int x2), (3, .int x3), (4, .int x4), (5, .int x5)] → W p l e ({ frames := 2, cells := 0, slots := 0, locals := 44 } : Room) s m #[Value.ref h, Value.int a1, Value.int a2, Value.int a3, Value.int a4] below meth c H locs 0 0 Q (F0 m 131 ls [.int y0]) := by
    intro S x1 x2 x3 x4 x5 y0 H locs ls hE hp hP hD hS hl
    unfold b_X11_reasonOfWord_131 at hE
    unfold q_X11_reasonOfWord_131 at hp
    subst hQ
    exact W.iret (v := y0) hx hb hr (fun t ht hW => ⟨⟨y0, S, rfl, hE.trans hX.symm, by rw [ht]; exact hP, hD⟩, hS.F ht⟩) hS.2.2 dX11_reasonOfWord_131
  have B_102 : ∀ (S : HS) (x1 x2 x3 x4 y0 y1 : Int32) (H : Heap) (locs : List Loc) (ls : Array Slot), b_X11_reasonOfWord_102 S x1 x2 x3 x4 y0 y1 = X → q_X11_reasonOfWord_102 S x1 x2 x3 x4 y0 y1 → va_P G vwCl (hW K h g S) H → va_D A (hW K h g S) → va_S A s.heap H locs → lv_has ls 6 [(0, .ref h), (1, .int x1), (2, .int x2), (3, .int x3), (4, .int x4)] → W p l e ({ frames := 2, cells := 0, slots := 0, locals := 44 } : Room) s m #[Value.ref h, Value.int a1, Value.int a2, Value.int a3, Value.int a4] below meth c H locs 0 0 Q (F0 m 102 ls [.int y0, .int y1]) := by
    intro S x1 x2 x3 x4 y0 y1 H locs ls hE hp hP hD hS hl
    unfold b_X11_reasonOfWord_102 at hE
    unfold q_X11_reasonOfWord_102 at hp
    refine lv_iadd hx hb dX11_reasonOfWord_102 ?_
    refine lv_istore (lv' := [(5, .int (y1 + y0)), (0, .ref h), (1, .int x1), (2, .int x2), (3, .int x3), (4, .int x4)]) hx hb dX11_reasonOfWord_103 hl (by decide) rfl (fun ls hl => ?_)
    refine lv_aload_n hx hb dX11_reasonOfWord_105 rfl (lv_at hl 1 rfl) ?_
    refine va_get (D := G) (ci := 8) (v := .ref (g 19)) (C := RX11) (T := TX11) (N := 42) hx hb hts iX11 hown hK hP 0 rfl rfl 19 (by decide) (hw (.fieldLink RX11 37 "MotionFloorModel$Hall" "words" "[I") (List.mem_of_getElem? (i := 8) rfl)) (fun _ h9 => h9) rfl dX11_reasonOfWord_106 ?_
    refine lv_aload_n hx hb dX11_reasonOfWord_109 rfl (lv_at hl 1 rfl) ?_
    refine va_get (D := G) (ci := 8) (v := .ref (g 32)) (C := RX11) (T := TX11) (N := 42) hx hb hts iX11 hown hK hP 0 rfl rfl 32 (by decide) (hw (.fieldLink RX11 75 "MotionFloorModel$Hall" "draft" "[I") (List.mem_of_getElem? (i := 5) rfl)) (fun _ h9 => h9) rfl dX11_reasonOfWord_110 ?_
    refine lv_iconst (v := 0) hx hb dX11_reasonOfWord_113 (by decide) ?_
    obtain ⟨hy16, hp⟩ := hp
    refine va_iald hx hb hK hP 21 0 rfl rfl hy16 dX11_reasonOfWord_114 ?_
    obtain ⟨hy17, hp⟩ := hp
    refine va_iald hx hb hK hP 9 0 rfl rfl hy17 dX11_reasonOfWord_115 ?_
    refine lv_iload hx hb dX11_reasonOfWord_116 (lv_at hl 0 rfl) ?_
    refine lv_iadd hx hb dX11_reasonOfWord_118 ?_
    refine lv_sipush (v := 400) hx hb dX11_reasonOfWord_119 (by decide) ?_
    refine lv_icmp_le (tgt := 130) hx hb dX11_reasonOfWord_122 (by decide) (fun c18 => ?_) (fun c18 => ?_)
    · rw [if_pos c18] at hE hp
      refine lv_iconst (v := 0) hx hb dX11_reasonOfWord_130 (by decide) ?_
      exact B_131 S x1 x2 x3 x4 (y1 + y0) 0 _ _ _ hE hp hP hD hS (lv_sub hl [1, 2, 3, 4, 5, 0] rfl)
    · rw [if_neg c18] at hE hp
      refine lv_bipush (v := 10) hx hb dX11_reasonOfWord_125 (by decide) ?_
      refine lv_goto (tgt := 131) hx hb dX11_reasonOfWord_127 (by decide) ?_
      exact B_131 S x1 x2 x3 x4 (y1 + y0) 10 _ _ _ hE hp hP hD hS (lv_sub hl [1, 2, 3, 4, 5, 0] rfl)
  have B_91 : ∀ (S : HS) (x1 x2 x3 x4 y0 y1 : Int32) (H : Heap) (locs : List Loc) (ls : Array Slot), b_X11_reasonOfWord_91 S x1 x2 x3 x4 y0 y1 = X → q_X11_reasonOfWord_91 S x1 x2 x3 x4 y0 y1 → va_P G vwCl (hW K h g S) H → va_D A (hW K h g S) → va_S A s.heap H locs → lv_has ls 6 [(0, .ref h), (1, .int x1), (2, .int x2), (3, .int x3), (4, .int x4)] → W p l e ({ frames := 2, cells := 0, slots := 0, locals := 44 } : Room) s m #[Value.ref h, Value.int a1, Value.int a2, Value.int a3, Value.int a4] below meth c H locs 0 0 Q (F0 m 91 ls [.int y0, .int y1]) := by
    intro S x1 x2 x3 x4 y0 y1 H locs ls hE hp hP hD hS hl
    unfold b_X11_reasonOfWord_91 at hE
    unfold q_X11_reasonOfWord_91 at hp
    refine lv_iadd hx hb dX11_reasonOfWord_91 ?_
    refine lv_iload hx hb dX11_reasonOfWord_92 (lv_at hl 4 rfl) ?_
    refine lv_if_eq (tgt := 101) hx hb dX11_reasonOfWord_94 (by decide) (fun c15 => ?_) (fun c15 => ?_)
    · rw [if_pos c15] at hE hp
      refine lv_iconst (v := 0) hx hb dX11_reasonOfWord_101 (by decide) ?_
      exact B_102 S x1 x2 x3 x4 0 (y1 + y0) _ _ _ hE hp hP hD hS (lv_sub hl [0, 1, 2, 3, 4] rfl)
    · rw [if_neg c15] at hE hp
      refine lv_iconst (v := 1) hx hb dX11_reasonOfWord_97 (by decide) ?_
      refine lv_goto (tgt := 102) hx hb dX11_reasonOfWord_98 (by decide) ?_
      exact B_102 S x1 x2 x3 x4 1 (y1 + y0) _ _ _ hE hp hP hD hS (lv_sub hl [0, 1, 2, 3, 4] rfl)
  have B_81 : ∀ (S : HS) (x1 x2 x3 x4 y0 y1 : Int32) (H : Heap) (locs : List Loc) (ls : Array Slot), b_X11_reasonOfWord_81 S x1 x2 x3 x4 y0 y1 = X → q_X11_reasonOfWord_81 S x1 x2 x3 x4 y0 y1 → va_P G vwCl (hW K h g S) H → va_D A (hW K h g S) → va_S A s.heap H locs → lv_has ls 6 [(0, .ref h), (1, .int x1), (2, .int x2), (3, .int x3), (4, .int x4)] → W p l e ({ frames := 2, cells := 0, slots := 0, locals := 44 } : Room) s m #[Value.ref h, Value.int a1, Value.int a2, Value.int a3, Value.int a4] below meth c H locs 0 0 Q (F0 m 81 ls [.int y0, .int y1]) := by
    intro S x1 x2 x3 x4 y0 y1 H locs ls hE hp hP hD hS hl
    unfold b_X11_reasonOfWord_81 at hE
    unfold q_X11_reasonOfWord_81 at hp
    refine lv_iadd hx hb dX11_reasonOfWord_81 ?_
    refine lv_iload_n hx hb dX11_reasonOfWord_82 rfl (lv_at hl 3 rfl) ?_
    refine lv_if_eq (tgt := 90) hx hb dX11_reasonOfWord_83 (by decide) (fun c14 => ?_) (fun c14 => ?_)
    · rw [if_pos c14] at hE hp
      refine lv_iconst (v := 0) hx hb dX11_reasonOfWord_90 (by decide) ?_
      exact B_91 S x1 x2 x3 x4 0 (y1 + y0) _ _ _ hE hp hP hD hS (lv_sub hl [0, 1, 2, 3, 4] rfl)
    · rw [if_neg c14] at hE hp
      refine lv_iconst (v := 1) hx hb dX11_reasonOfWord_86 (by decide) ?_
      refine lv_goto (tgt := 91) hx hb dX11_reasonOfWord_87 (by decide) ?_
      exact B_91 S x1 x2 x3 x4 1 (y1 + y0) _ _ _ hE hp hP hD hS (lv_sub hl [0, 1, 2, 3, 4] rfl)
  have B_71 : ∀ (S : HS) (x1 x2 x3 x4 : Int32) (H : Heap) (locs : List Loc) (ls : Array Slot), b_X11_reasonOfWord_71 S x1 x2 x3 x4 = X → q_X11_reasonOfWord_71 S x1 x2 x3 x4 → va_P G vwCl (hW K h g S) H → va_D A (hW K h g S) → va_S A s.heap H locs → lv_has ls 6 [(0, .ref h), (1, .int x1), (2, .int x2), (3, .int x3), (4, .int x4)] → W p l e ({ frames := 2, cells := 0, slots := 0, locals := 44 } : Room) s m #[Value.ref h, Value.int a1, Value.int a2, Value.int a3, Value.int a4] below meth c H locs 0 0 Q (F0 m 71 ls []) := by
    intro S x1 x2 x3 x4 H locs ls hE hp hP hD hS hl
    unfold b_X11_reasonOfWord_71 at hE
    unfold q_X11_reasonOfWord_71 at hp
    refine lv_iconst (v := 1) hx hb dX11_reasonOfWord_71 (by decide) ?_
    refine lv_iload_n hx hb dX11_reasonOfWord_72 rfl (lv_at hl 2 rfl) ?_
    refine lv_if_eq (tgt := 80) hx hb dX11_reasonOfWord_73 (by decide) (fun c13 => ?_) (fun c13 => ?_)
    · rw [if_pos c13] at hE hp
      refine lv_iconst (v := 0) hx hb dX11_reasonOfWord_80 (by decide) ?_
      exact B_81 S x1 x2 x3 x4 0 1 _ _ _ hE hp hP hD hS (lv_sub hl [0, 1, 2, 3, 4] rfl)
    · rw [if_neg c13] at hE hp
      refine lv_iconst (v := 1) hx hb dX11_reasonOfWord_76 (by decide) ?_
      refine lv_goto (tgt := 81) hx hb dX11_reasonOfWord_77 (by decide) ?_
      exact B_81 S x1 x2 x3 x4 1 1 _ _ _ hE hp hP hD hS (lv_sub hl [0, 1, 2, 3, 4] rfl)
  have B_55 : ∀ (S : HS) (x1 x2 x3 x4 : Int32) (H : Heap) (locs : List Loc) (ls : Array Slot), b_X11_reasonOfWord_55 S x1 x2 x3 x4 = X → q_X11_reasonOfWord_55 S x1 x2 x3 x4 → va_P G vwCl (hW K h g S) H → va_D A (hW K h g S) → va_S A s.heap H locs → lv_has ls 6 [(0, .ref h), (1, .int x1), (2, .int x2), (3, .int x3), (4, .int x4)] → W p l e ({ frames := 2, cells := 0, slots := 0, locals := 44 } : Room) s m #[Value.ref h, Value.int a1, Value.int a2, Value.int a3, Value.int a4] below meth c H locs 0 0 Q (F0 m 55 ls []) := by
    intro S x1 x2 x3 x4 H locs ls hE hp hP hD hS hl
    unfold b_X11_reasonOfWord_55 at hE
    unfold q_X11_reasonOfWord_55 at hp
    refine lv_iload hx hb dX11_reasonOfWord_55 (lv_at hl 4 rfl) ?_
    refine lv_if_eq (tgt := 71) hx hb dX11_reasonOfWord_57 (by decide) (fun c12 => ?_) (fun c12 => ?_)
    · rw [if_pos c12] at hE hp
      exact B_71 S x1 x2 x3 x4 _ _ _ hE hp hP hD hS (lv_sub hl [0, 1, 2, 3, 4] rfl)
    · rw [if_neg c12] at hE hp
      refine lv_iload hx hb dX11_reasonOfWord_60 (lv_at hl 4 rfl) ?_
      obtain ⟨hy19, hp⟩ := hp
      refine nGoi (va_runS (As := [.int x4]) (rest := []) ⟨hx, hb, hml, hown, hts⟩ (c_X11_isWord l G K x4 _) (va_cwS 1 hts (wGS t_ (mw (.methodLink RX11 181 yX11_isWord) (List.mem_of_getElem? (i := 6) rfl)) (mw (.static yX11_isWord) (List.mem_of_getElem? (i := 7) rfl)) (mw (.initialized RX11) (List.mem_of_getElem? (i := 3) rfl)) j_X11_isWord) rfl rfl rfl (by decide +kernel) ⟨Nat.le_of_ble_eq_true rfl, Nat.le_of_ble_eq_true rfl⟩) (nPS hK hTE hy19) rfl rfl hl.1 rfl (lv_room (Nat.le_of_ble_eq_true rfl)) dX11_reasonOfWord_62 ⟨Nat.le_of_ble_eq_true rfl, Nat.le_of_ble_eq_true rfl⟩) hP hS hA (fun r H locs hv hP hS => ?_)
      subst hv
      refine lv_if_ne (tgt := 71) hx hb dX11_reasonOfWord_65 (by decide) (fun c20 => ?_) (fun c20 => ?_)
      · rw [if_neg c20] at hE hp
        exact B_71 S x1 x2 x3 x4 _ _ _ hE hp hP hD hS (lv_sub hl [0, 1, 2, 3, 4] rfl)
      · rw [if_pos c20] at hE hp
        exact B_68 S x1 x2 x3 x4 _ _ _ hE hp hP hD hS (lv_sub hl [0, 1, 2, 3, 4] rfl)
  have B_44 : ∀ (S : HS) (x1 x2 x3 x4 : Int32) (H : Heap) (locs : List Loc) (ls : Array Slot), b_X11_reasonOfWord_44 S x1 x2 x3 x4 = X → q_X11_reasonOfWord_44 S x1 x2 x3 x4 → va_P G vwCl (hW K h g S) H → va_D A (hW K h g S) → va_S A s.heap H locs → lv_has ls 6 [(0, .ref h), (1, .int x1), (2, .int x2), (3, .int x3), (4, .int x4)] → W p l e ({ frames := 2, cells := 0, slots := 0, locals := 44 } : Room) s m #[Value.ref h, Value.int a1, Value.int a2, Value.int a3, Value.int a4] below meth c H locs 0 0 Q (F0 m 44 ls []) := by
    intro S x1 x2 x3 x4 H locs ls hE hp hP hD hS hl
    unfold b_X11_reasonOfWord_44 at hE
    unfold q_X11_reasonOfWord_44 at hp
    refine lv_iload_n hx hb dX11_reasonOfWord_44 rfl (lv_at hl 3 rfl) ?_
    refine lv_if_eq (tgt := 55) hx hb dX11_reasonOfWord_45 (by decide) (fun c11 => ?_) (fun c11 => ?_)
    · rw [if_pos c11] at hE hp
      exact B_55 S x1 x2 x3 x4 _ _ _ hE hp hP hD hS (lv_sub hl [0, 1, 2, 3, 4] rfl)
    · rw [if_neg c11] at hE hp
      refine lv_iload_n hx hb dX11_reasonOfWord_48 rfl (lv_at hl 3 rfl) ?_
      obtain ⟨hy21, hp⟩ := hp
      refine nGoi (va_runS (As := [.int x3]) (rest := []) ⟨hx, hb, hml, hown, hts⟩ (c_X11_isWord l G K x3 _) (va_cwS 1 hts (wGS t_ (mw (.methodLink RX11 181 yX11_isWord) (List.mem_of_getElem? (i := 6) rfl)) (mw (.static yX11_isWord) (List.mem_of_getElem? (i := 7) rfl)) (mw (.initialized RX11) (List.mem_of_getElem? (i := 3) rfl)) j_X11_isWord) rfl rfl rfl (by decide +kernel) ⟨Nat.le_of_ble_eq_true rfl, Nat.le_of_ble_eq_true rfl⟩) (nPS hK hTE hy21) rfl rfl hl.1 rfl (lv_room (Nat.le_of_ble_eq_true rfl)) dX11_reasonOfWord_49 ⟨Nat.le_of_ble_eq_true rfl, Nat.le_of_ble_eq_true rfl⟩) hP hS hA (fun r H locs hv hP hS => ?_)
      subst hv
      refine lv_if_eq (tgt := 68) hx hb dX11_reasonOfWord_52 (by decide) (fun c22 => ?_) (fun c22 => ?_)
      · rw [if_pos c22] at hE hp
        exact B_68 S x1 x2 x3 x4 _ _ _ hE hp hP hD hS (lv_sub hl [0, 1, 2, 3, 4] rfl)
      · rw [if_neg c22] at hE hp
        exact B_55 S x1 x2 x3 x4 _ _ _ hE hp hP hD hS (lv_sub hl [0, 1, 2, 3, 4] rfl)
  have B_M : ∀ (S : HS) (x1 x2 x3 x4 : Int32) (H : Heap) (locs : List Loc) (ls : Array Slot), f_X11_reasonOfWord S x1 x2 x3 x4 = X → p_X11_reasonOfWord S x1 x2 x3 x4 → va_P G vwCl (hW K h g S) H → va_D A (hW K h g S) → va_S A s.heap H locs → lv_has ls 6 [(0, .ref h), (1, .int x1), (2, .int x2), (3, .int x3), (4, .int x4)] → W p l e ({ frames := 2, cells := 0, slots := 0, locals := 44 } : Room) s m #[Value.ref h, Value.int a1, Value.int a2, Value.int a3, Value.int a4] below meth c H locs 0 0 Q (F0 m 0 ls []) := by
    intro S x1 x2 x3 x4 H locs ls hE hp hP hD hS hl
    unfold f_X11_reasonOfWord at hE
    unfold p_X11_reasonOfWord at hp
    refine lv_aload_n hx hb dX11_reasonOfWord_0 rfl (lv_at hl 0 rfl) ?_
    refine lv_iconst (v := 1) hx hb dX11_reasonOfWord_1 (by decide) ?_
    refine lv_iconst (v := 5) hx hb dX11_reasonOfWord_2 (by decide) ?_
    obtain ⟨hy1, hp⟩ := hp
    refine hGoi (va_runV (As := [.int 1, .int 5]) (rest := []) ⟨hx, hb, hml, hown, hts⟩ (c_X11_hasDraft l G K h g S 1 5 _) (cwV 2 hts (wGV t_ (mw (.methodLink RX11 163 yX11_hasDraft) (List.mem_of_getElem? (i := 0) rfl)) (mw (.instanceMethod yX11_hasDraft) (List.mem_of_getElem? (i := 1) rfl)) (mw (.selects RX11 yX11_hasDraft yX11_hasDraft) (List.mem_of_getElem? (i := 2) rfl)) (mw (.initialized RX11) (List.mem_of_getElem? (i := 3) rfl)) j_X11_hasDraft) rfl rfl rfl (by decide +kernel) ⟨Nat.le_of_ble_eq_true rfl, Nat.le_of_ble_eq_true rfl⟩) (hPV hK hTE hP hD hy1) rfl rfl hl.1 rfl (lv_room (Nat.le_of_ble_eq_true rfl)) dX11_reasonOfWord_3 ⟨Nat.le_of_ble_eq_true rfl, Nat.le_of_ble_eq_true rfl⟩) hP hD hS hA (fun r3 u2 H locs hv hP hD hS => ?_)
    rw [← hv] at hE hp
    dsimp only at hE hp
    unfold b_X11_reasonOfWord_a6 at hE
    unfold q_X11_reasonOfWord_a6 at hp
    refine lv_if_eq (tgt := 23) hx hb dX11_reasonOfWord_6 (by decide) (fun c4 => ?_) (fun c4 => ?_)
    · rw [if_pos c4] at hE hp
      exact B_23 u2 x1 x2 x3 x4 _ _ _ hE hp hP hD hS (lv_sub hl [0, 1, 2, 3, 4] rfl)
    · rw [if_neg c4] at hE hp
      refine lv_aload_n hx hb dX11_reasonOfWord_9 rfl (lv_at hl 0 rfl) ?_
      refine va_get (D := G) (ci := 8) (v := .ref (g 25)) (C := RX11) (T := TX11) (N := 42) hx hb hts iX11 hown hK hP 0 rfl rfl 25 (by decide) (hw (.fieldLink RX11 55 "MotionFloorModel$Hall" "laid" "[Z") (List.mem_of_getElem? (i := 4) rfl)) (fun _ h9 => h9) rfl dX11_reasonOfWord_10 ?_
      refine lv_aload_n hx hb dX11_reasonOfWord_13 rfl (lv_at hl 0 rfl) ?_
      refine va_get (D := G) (ci := 8) (v := .ref (g 32)) (C := RX11) (T := TX11) (N := 42) hx hb hts iX11 hown hK hP 0 rfl rfl 32 (by decide) (hw (.fieldLink RX11 75 "MotionFloorModel$Hall" "draft" "[I") (List.mem_of_getElem? (i := 5) rfl)) (fun _ h9 => h9) rfl dX11_reasonOfWord_14 ?_
      refine lv_iconst (v := 0) hx hb dX11_reasonOfWord_17 (by decide) ?_
      obtain ⟨hy5, hp⟩ := hp
      refine va_iald hx hb hK hP 21 0 rfl rfl hy5 dX11_reasonOfWord_18 ?_
      obtain ⟨hy6, hp⟩ := hp
      refine va_zald hx hb hK hP 15 1 rfl rfl hy6 dX11_reasonOfWord_19 ?_
      refine lv_if_eq (tgt := 26) hx hb dX11_reasonOfWord_20 (by decide) (fun c7 => ?_) (fun c7 => ?_)
      · rw [if_pos c7] at hE hp
        refine lv_iload_n hx hb dX11_reasonOfWord_26 rfl (lv_at hl 1 rfl) ?_
        obtain ⟨hy8, hp⟩ := hp
        refine nGoi (va_runS (As := [.int x1]) (rest := []) ⟨hx, hb, hml, hown, hts⟩ (c_X11_isWord l G K x1 _) (va_cwS 1 hts (wGS t_ (mw (.methodLink RX11 181 yX11_isWord) (List.mem_of_getElem? (i := 6) rfl)) (mw (.static yX11_isWord) (List.mem_of_getElem? (i := 7) rfl)) (mw (.initialized RX11) (List.mem_of_getElem? (i := 3) rfl)) j_X11_isWord) rfl rfl rfl (by decide +kernel) ⟨Nat.le_of_ble_eq_true rfl, Nat.le_of_ble_eq_true rfl⟩) (nPS hK hTE hy8) rfl rfl hl.1 rfl (lv_room (Nat.le_of_ble_eq_true rfl)) dX11_reasonOfWord_27 ⟨Nat.le_of_ble_eq_true rfl, Nat.le_of_ble_eq_true rfl⟩) hP hS hA (fun r H locs hv hP hS => ?_)
        subst hv
        refine lv_if_eq (tgt := 68) hx hb dX11_reasonOfWord_30 (by decide) (fun c9 => ?_) (fun c9 => ?_)
        · rw [if_pos c9] at hE hp
          exact B_68 u2 x1 x2 x3 x4 _ _ _ hE hp hP hD hS (lv_sub hl [0, 1, 2, 3, 4] rfl)
        · rw [if_neg c9] at hE hp
          refine lv_iload_n hx hb dX11_reasonOfWord_33 rfl (lv_at hl 2 rfl) ?_
          refine lv_if_eq (tgt := 44) hx hb dX11_reasonOfWord_34 (by decide) (fun c10 => ?_) (fun c10 => ?_)
          · rw [if_pos c10] at hE hp
            exact B_44 u2 x1 x2 x3 x4 _ _ _ hE hp hP hD hS (lv_sub hl [0, 1, 2, 3, 4] rfl)
          · rw [if_neg c10] at hE hp
            refine lv_iload_n hx hb dX11_reasonOfWord_37 rfl (lv_at hl 2 rfl) ?_
            obtain ⟨hy23, hp⟩ := hp
            refine nGoi (va_runS (As := [.int x2]) (rest := []) ⟨hx, hb, hml, hown, hts⟩ (c_X11_isWord l G K x2 _) (va_cwS 1 hts (wGS t_ (mw (.methodLink RX11 181 yX11_isWord) (List.mem_of_getElem? (i := 6) rfl)) (mw (.static yX11_isWord) (List.mem_of_getElem? (i := 7) rfl)) (mw (.initialized RX11) (List.mem_of_getElem? (i := 3) rfl)) j_X11_isWord) rfl rfl rfl (by decide +kernel) ⟨Nat.le_of_ble_eq_true rfl, Nat.le_of_ble_eq_true rfl⟩) (nPS hK hTE hy23) rfl rfl hl.1 rfl (lv_room (Nat.le_of_ble_eq_true rfl)) dX11_reasonOfWord_38 ⟨Nat.le_of_ble_eq_true rfl, Nat.le_of_ble_eq_true rfl⟩) hP hS hA (fun r H locs hv hP hS => ?_)
            subst hv
            refine lv_if_eq (tgt := 68) hx hb dX11_reasonOfWord_41 (by decide) (fun c24 => ?_) (fun c24 => ?_)
            · rw [if_pos c24] at hE hp
              exact B_68 u2 x1 x2 x3 x4 _ _ _ hE hp hP hD hS (lv_sub hl [0, 1, 2, 3, 4] rfl)
            · rw [if_neg c24] at hE hp
              exact B_44 u2 x1 x2 x3 x4 _ _ _ hE hp hP hD hS (lv_sub hl [0, 1, 2, 3, 4] rfl)
      · rw [if_neg c7] at hE hp
        exact B_23 u2 x1 x2 x3 x4 _ _ _ hE hp hP hD hS (lv_sub hl [0, 1, 2, 3, 4] rfl)
  exact B_M S0 a1 a2 a3 a4 _ _ _ hX hp hP hD hS hl
def b_X11_reasonOfLay_29 (S : HS) (x1 : Int32) : Int32 × HS := (11, S)
def q_X11_reasonOfLay_29 (S : HS) (x1 : Int32) : Prop := True
def b_X11_reasonOfLay_121 (S : HS) (x1 y0 : Int32) : Int32 × HS := (y0, S)
def q_X11_reasonOfLay_121 (S : HS) (x1 y0 : Int32) : Prop := True
def b_X11_reasonOfLay_120 (S : HS) (x1 : Int32) : Int32 × HS := (b_X11_reasonOfLay_121 S x1 0)
def q_X11_reasonOfLay_120 (S : HS) (x1 : Int32) : Prop := (q_X11_reasonOfLay_121 S x1 0)
def b_X11_reasonOfLay_a112 (S : HS) (x1 y0 : Int32) : Int32 × HS := if y0 = 0 then (b_X11_reasonOfLay_120 S x1) else (b_X11_reasonOfLay_121 S x1 10)
def q_X11_reasonOfLay_a112 (S : HS) (x1 y0 : Int32) : Prop := (if y0 = 0 then (q_X11_reasonOfLay_120 S x1) else (q_X11_reasonOfLay_121 S x1 10))
def b_X11_reasonOfLay_a104 (S : HS) (x1 y0 : Int32) : Int32 × HS := if y0 = 1 then (b_X11_reasonOfLay_a112 (f_X11_wantsPlace S ).2 x1 (f_X11_wantsPlace S ).1) else (b_X11_reasonOfLay_120 S x1)
def q_X11_reasonOfLay_a104 (S : HS) (x1 y0 : Int32) : Prop := (if y0 = 1 then (p_X11_wantsPlace S ) ∧ (q_X11_reasonOfLay_a112 (f_X11_wantsPlace S ).2 x1 (f_X11_wantsPlace S ).1) else (q_X11_reasonOfLay_120 S x1))
def b_X11_reasonOfLay_100 (S : HS) (x1 : Int32) : Int32 × HS := (b_X11_reasonOfLay_a104 (f_X11_freePlaces S ).2 x1 (f_X11_freePlaces S ).1)
def q_X11_reasonOfLay_100 (S : HS) (x1 : Int32) : Prop := (p_X11_freePlaces S ) ∧ (q_X11_reasonOfLay_a104 (f_X11_freePlaces S ).2 x1 (f_X11_freePlaces S ).1)
def b_X11_reasonOfLay_a94 (S : HS) (x1 y0 y1 : Int32) : Int32 × HS := if y1 ≤ (S.2 19 y0.toNatClampNeg) then (b_X11_reasonOfLay_100 S x1) else (5, S)
def q_X11_reasonOfLay_a94 (S : HS) (x1 y0 y1 : Int32) : Prop := (vp_in y0 90) ∧ (if y1 ≤ (S.2 19 y0.toNatClampNeg) then (q_X11_reasonOfLay_100 S x1) else True)
def b_X11_reasonOfLay_a70 (S : HS) (x1 y0 : Int32) : Int32 × HS := if y0 = 0 then (1, S) else (b_X11_reasonOfLay_a94 (f_X11_top S ).2 x1 (f_X11_top S ).1 (S.2 21 (S.2 32 (0 : Int32).toNatClampNeg).toNatClampNeg))
def q_X11_reasonOfLay_a70 (S : HS) (x1 y0 : Int32) : Prop := (if y0 = 0 then True else (vp_in 0 9) ∧ (vp_in (S.2 32 (0 : Int32).toNatClampNeg) 90) ∧ (p_X11_top S ) ∧ (q_X11_reasonOfLay_a94 (f_X11_top S ).2 x1 (f_X11_top S ).1 (S.2 21 (S.2 32 (0 : Int32).toNatClampNeg).toNatClampNeg)))
def b_X11_reasonOfLay_a38 (S : HS) (x1 y0 : Int32) : Int32 × HS := if y0 = 0 then (b_X11_reasonOfLay_100 S x1) else if (S.2 25 (S.2 32 (0 : Int32).toNatClampNeg).toNatClampNeg) = 0 then (b_X11_reasonOfLay_a70 (f_X11_isAbout S (S.2 14 (S.2 32 (0 : Int32).toNatClampNeg).toNatClampNeg)).2 x1 (f_X11_isAbout S (S.2 14 (S.2 32 (0 : Int32).toNatClampNeg).toNatClampNeg)).1) else (b_X11_reasonOfLay_100 S x1)
def q_X11_reasonOfLay_a38 (S : HS) (x1 y0 : Int32) : Prop := (if y0 = 0 then (q_X11_reasonOfLay_100 S x1) else (vp_in 0 9) ∧ (vp_in (S.2 32 (0 : Int32).toNatClampNeg) 90) ∧ (if (S.2 25 (S.2 32 (0 : Int32).toNatClampNeg).toNatClampNeg) = 0 then (vp_in 0 9) ∧ (vp_in (S.2 32 (0 : Int32).toNatClampNeg) 90) ∧ (p_X11_isAbout S (S.2 14 (S.2 32 (0 : Int32).toNatClampNeg).toNatClampNeg)) ∧ (q_X11_reasonOfLay_a70 (f_X11_isAbout S (S.2 14 (S.2 32 (0 : Int32).toNatClampNeg).toNatClampNeg)).2 x1 (f_X11_isAbout S (S.2 14 (S.2 32 (0 : Int32).toNatClampNeg).toNatClampNeg)).1) else (q_X11_reasonOfLay_100 S x1)))
def f_X11_reasonOfLay (S : HS) (x1 : Int32) : Int32 × HS := if (f_X12_in x1 0 7) = 0 then (9, S) else if (S.1 35) = 0 then (b_X11_reasonOfLay_29 S x1) else if (S.2 34 x1.toNatClampNeg) ≤ 0 then (b_X11_reasonOfLay_a38 (f_X11_hasDraft S 2 3).2 x1 (f_X11_hasDraft S 2 3).1) else (b_X11_reasonOfLay_29 S x1)
def p_X11_reasonOfLay (S : HS) (x1 : Int32) : Prop := (p_X12_in x1 0 7) ∧ (if (f_X12_in x1 0 7) = 0 then True else (if (S.1 35) = 0 then (q_X11_reasonOfLay_29 S x1) else (vp_in x1 8) ∧ (if (S.2 34 x1.toNatClampNeg) ≤ 0 then (p_X11_hasDraft S 2 3) ∧ (q_X11_reasonOfLay_a38 (f_X11_hasDraft S 2 3).2 x1 (f_X11_hasDraft S 2 3).1) else (q_X11_reasonOfLay_29 S x1))))
def e_X11_reasonOfLay : List Cond := [.initialized RX12, .static yX12_in, .fieldLink RX11 130 "MotionFloorModel$Hall" "drafted" "I", .fieldLink RX11 81 "MotionFloorModel$Hall" "lying" "[I", .methodLink RX11 163 yX11_hasDraft, .instanceMethod yX11_hasDraft, .selects RX11 yX11_hasDraft yX11_hasDraft, .initialized RX11, .methodLink RX11 187 yX11_freePlaces, .instanceMethod yX11_freePlaces, .selects RX11 yX11_freePlaces yX11_freePlaces, .methodLink RX11 190 yX11_wantsPlace, .instanceMethod yX11_wantsPlace, .selects RX11 yX11_wantsPlace yX11_wantsPlace, .fieldLink RX11 55 "MotionFloorModel$Hall" "laid" "[Z", .fieldLink RX11 75 "MotionFloorModel$Hall" "draft" "[I", .fieldLink RX11 22 "MotionFloorModel$Hall" "kind" "[I", .methodLink RX11 184 yX11_isAbout, .instanceMethod yX11_isAbout, .selects RX11 yX11_isAbout yX11_isAbout, .fieldLink RX11 43 "MotionFloorModel$Hall" "to" "[I", .fieldLink RX11 37 "MotionFloorModel$Hall" "words" "[I", .methodLink RX11 155 yX11_top, .instanceMethod yX11_top, .selects RX11 yX11_top yX11_top]
def v_X11_reasonOfLay : List Cond := .code yX11_reasonOfLay cX11_reasonOfLay 2 (some .int) :: (e_X11_reasonOfLay ++ (wsX110 ++ (v_X12_in ++ (v_X11_hasDraft ++ (v_X11_freePlaces ++ (v_X11_wantsPlace ++ (v_X11_isAbout ++ (v_X11_top ++ []))))))))
theorem te_X11_reasonOfLay : GoodIn lw_tbl e_X11_reasonOfLay := wGc z1 (wGc z2 (wGc z86 (wGc z81 (wGc z98 (wGc z97 (wGc z96 (wGc z51 (wGc z108 (wGc z107 (wGc z106 (wGc z105 (wGc z104 (wGc z103 (wGc z72 (wGc z84 (wGc z78 (wGc z102 (wGc z101 (wGc z100 (wGc z74 (wGc z76 (wGc z91 (wGc z90 (wGc z89 (wG0)))))))))))))))))))))))))
theorem t_X11_reasonOfLay : GoodIn lw_tbl v_X11_reasonOfLay := wGc z109 (wGa te_X11_reasonOfLay (wGa zcX11 (wGa t_X12_in (wGa t_X11_hasDraft (wGa t_X11_freePlaces (wGa t_X11_wantsPlace (wGa t_X11_isAbout (wGa t_X11_top (wG0)))))))))
set_option maxHeartbeats 4000000 in
set_option maxRecDepth 100000 in
theorem c_X11_reasonOfLay (l : Launch) (G : va_G) (K : Nat → ClassId) (h : Nat) (g : Nat → Nat) (S0 : HS) (a1 : Int32) (sz : Nat) : Met l yX11_reasonOfLay v_X11_reasonOfLay ({ frames := 2, cells := 0, slots := 0, locals := 44 }) (va_Pc [.ref h, .int a1] (hS G K h g sz S0 (p_X11_reasonOfLay S0 a1))) (va_Qi (fun (r : Int32) (u : HS) => (r, u) = f_X11_reasonOfLay S0 a1) (hB G K h g (va_A (hW K h g S0) sz)) (va_A (hW K h g S0) sz)) 0 0 (va_A (hW K h g S0) sz) := by
  refine Met.ofW (cc := cX11_reasonOfLay) (maxL := 2) (ret := (some .int)) (by decide) rfl ?_
  intro p e s m args below meth c s₁ B hml hv
  obtain ⟨rfl, ⟨hsz, hP, hK, hD0, hTE⟩, hp⟩ := hv
  have hx := B.exec
  have hb := B.bytes
  have hr := B.returns
  have hts := atoms_spec (ws := v_X11_reasonOfLay) B.pre
  have t_ := t_X11_reasonOfLay
  have mw : ∀ w ∈ e_X11_reasonOfLay, w ∈ v_X11_reasonOfLay := fun w h => List.mem_cons_of_mem _ (List.mem_append_left _ h)
  have hw := fun w (h : w ∈ e_X11_reasonOfLay) => hts w (mw w h)
  have iX11 : ∀ w ∈ wsX110, w ∈ v_X11_reasonOfLay := fun w h => List.mem_cons_of_mem _ (List.mem_append_right _ (List.mem_append_left _ h))
  have j_X12_in : ∀ w ∈ v_X12_in, w ∈ v_X11_reasonOfLay := fun w h => List.mem_cons_of_mem _ (List.mem_append_right _ (List.mem_append_right _ (List.mem_append_left _ h)))
  have j_X11_hasDraft : ∀ w ∈ v_X11_hasDraft, w ∈ v_X11_reasonOfLay := fun w h => List.mem_cons_of_mem _ (List.mem_append_right _ (List.mem_append_right _ (List.mem_append_right _ (List.mem_append_left _ h))))
  have j_X11_freePlaces : ∀ w ∈ v_X11_freePlaces, w ∈ v_X11_reasonOfLay := fun w h => List.mem_cons_of_mem _ (List.mem_append_right _ (List.mem_append_right _ (List.mem_append_right _ (List.mem_append_right _ (List.mem_append_left _ h)))))
  have j_X11_wantsPlace : ∀ w ∈ v_X11_wantsPlace, w ∈ v_X11_reasonOfLay := fun w h => List.mem_cons_of_mem _ (List.mem_append_right _ (List.mem_append_right _ (List.mem_append_right _ (List.mem_append_right _ (List.mem_append_right _ (List.mem_append_left _ h))))))
  have j_X11_isAbout : ∀ w ∈ v_X11_isAbout, w ∈ v_X11_reasonOfLay := fun w h => List.mem_cons_of_mem _ (List.mem_append_right _ (List.mem_append_right _ (List.mem_append_right _ (List.mem_append_right _ (List.mem_append_right _ (List.mem_append_right _ (List.mem_append_left _ h)))))))
  have j_X11_top : ∀ w ∈ v_X11_top, w ∈ v_X11_reasonOfLay := fun w h => List.mem_cons_of_mem _ (List.mem_append_right _ (List.mem_append_right _ (List.mem_append_right _ (List.mem_append_right _ (List.mem_append_right _ (List.mem_append_right _ (List.mem_append_right _ (List.mem_append_left _ h))))))))
  have hown : s.vm.findClass RX11 = some m.cls := findClass_of_methodNamed B.named
  have hlocks := B.notSynchronized
  subst hsz
  have hD := hD0.self (sz := s.heap.size)
  generalize hAe : va_A (hW K h g S0) s.heap.size = A at hD ⊢
  have hA : ∀ q : Nat, s.heap.size ≤ q → A q := fun q h => by rw [← hAe]; exact Or.inr h
  have hS : va_S A s.heap s.heap [] := va_S.rf
  have hl := lv_entry ([.ref h, .int a1]) (n := 2) (Nat.le_of_ble_eq_true rfl)
  rw [lg_entry_eq]
  generalize (lg_sl ([.ref h, .int a1]) ++ List.replicate (2 - (lg_sl ([.ref h, .int a1])).length) Slot.unset).toArray = ls at hl ⊢
  have hl : lv_has ls 2 [(0, .ref h), (1, .int a1)] := hl
  refine wGen (fun Q hQ => ?_)
  obtain ⟨X, hX⟩ : ∃ X, f_X11_reasonOfLay S0 a1 = X := ⟨_, rfl⟩
  have B_29 : ∀ (S : HS) (x1 : Int32) (H : Heap) (locs : List Loc) (ls : Array Slot), b_X11_reasonOfLay_29 S x1 = X → q_X11_reasonOfLay_29 S x1 → va_P G vwCl (hW K h g S) H → va_D A (hW K h g S) → va_S A s.heap H locs → lv_has ls 2 [(0, .ref h), (1, .int x1)] → W p l e ({ frames := 2, cells := 0, slots := 0, locals := 44 } : Room) s m #[Value.ref h, Value.int a1] below meth c H locs 0 0 Q (F0 m 29 ls []) := by
    intro S x1 H locs ls hE hp hP hD hS hl
    unfold b_X11_reasonOfLay_29 at hE
    unfold q_X11_reasonOfLay_29 at hp
    refine lv_bipush (v := 11) hx hb dX11_reasonOfLay_29 (by decide) ?_
    subst hQ
    exact W.iret (v := 11) hx hb hr (fun t ht hW => ⟨⟨11, S, rfl, hE.trans hX.symm, by rw [ht]; exact hP, hD⟩, hS.F ht⟩) hS.2.2 dX11_reasonOfLay_31
  have B_121 : ∀ (S : HS) (x1 y0 : Int32) (H : Heap) (locs : List Loc) (ls : Array Slot), b_X11_reasonOfLay_121 S x1 y0 = X → q_X11_reasonOfLay_121 S x1 y0 → va_P G vwCl (hW K h g S) H → va_D A (hW K h g S) → va_S A s.heap H locs → lv_has ls 2 [(0, .ref h), (1, .int x1)] → W p l e ({ frames := 2, cells := 0, slots := 0, locals := 44 } : Room) s m #[Value.ref h, Value.int a1] below meth c H locs 0 0 Q (F0 m 121 ls [.int y0]) := by
    intro S x1 y0 H locs ls hE hp hP hD hS hl
    unfold b_X11_reasonOfLay_121 at hE
    unfold q_X11_reasonOfLay_121 at hp
    subst hQ
    exact W.iret (v := y0) hx hb hr (fun t ht hW => ⟨⟨y0, S, rfl, hE.trans hX.symm, by rw [ht]; exact hP, hD⟩, hS.F ht⟩) hS.2.2 dX11_reasonOfLay_121
  have B_120 : ∀ (S : HS) (x1 : Int32) (H : Heap) (locs : List Loc) (ls : Array Slot), b_X11_reasonOfLay_120 S x1 = X → q_X11_reasonOfLay_120 S x1 → va_P G vwCl (hW K h g S) H → va_D A (hW K h g S) → va_S A s.heap H locs → lv_has ls 2 [(0, .ref h), (1, .int x1)] → W p l e ({ frames := 2, cells := 0, slots := 0, locals := 44 } : Room) s m #[Value.ref h, Value.int a1] below meth c H locs 0 0 Q (F0 m 120 ls []) := by
    intro S x1 H locs ls hE hp hP hD hS hl
    unfold b_X11_reasonOfLay_120 at hE
    unfold q_X11_reasonOfLay_120 at hp
    refine lv_iconst (v := 0) hx hb dX11_reasonOfLay_120 (by decide) ?_
    exact B_121 S x1 0 _ _ _ hE hp hP hD hS (lv_sub hl [0, 1] rfl)
  have B_100 : ∀ (S : HS) (x1 : Int32) (H : Heap) (locs : List Loc) (ls : Array Slot), b_X11_reasonOfLay_100 S x1 = X → q_X11_reasonOfLay_100 S x1 → va_P G vwCl (hW K h g S) H → va_D A (hW K h g S) → va_S A s.heap H locs → lv_has ls 2 [(0, .ref h), (1, .int x1)] → W p l e ({ frames := 2, cells := 0, slots := 0, locals := 44 } : Room) s m #[Value.ref h, Value.int a1] below meth c H locs 0 0 Q (F0 m 100 ls []) := by
    intro S x1 H locs ls hE hp hP hD hS hl
    unfold b_X11_reasonOfLay_100 at hE
    unfold q_X11_reasonOfLay_100 at hp
    refine lv_aload_n hx hb dX11_reasonOfLay_100 rfl (lv_at hl 0 rfl) ?_
    obtain ⟨hy10, hp⟩ := hp
    refine hGoi (va_runV (As := []) (rest := []) ⟨hx, hb, hml, hown, hts⟩ (c_X11_freePlaces l G K h g S _) (cwV 0 hts (wGV t_ (mw (.methodLink RX11 187 yX11_freePlaces) (List.mem_of_getElem? (i := 8) rfl)) (mw (.instanceMethod yX11_freePlaces) (List.mem_of_getElem? (i := 9) rfl)) (mw (.selects RX11 yX11_freePlaces yX11_freePlaces) (List.mem_of_getElem? (i := 10) rfl)) (mw (.initialized RX11) (List.mem_of_getElem? (i := 7) rfl)) j_X11_freePlaces) rfl rfl rfl (by decide +kernel) ⟨Nat.le_of_ble_eq_true rfl, Nat.le_of_ble_eq_true rfl⟩) (hPV hK hTE hP hD hy10) rfl rfl hl.1 rfl (lv_room (Nat.le_of_ble_eq_true rfl)) dX11_reasonOfLay_101 ⟨Nat.le_of_ble_eq_true rfl, Nat.le_of_ble_eq_true rfl⟩) hP hD hS hA (fun r12 u11 H locs hv hP hD hS => ?_)
    rw [← hv] at hE hp
    dsimp only at hE hp
    unfold b_X11_reasonOfLay_a104 at hE
    unfold q_X11_reasonOfLay_a104 at hp
    refine lv_iconst (v := 1) hx hb dX11_reasonOfLay_104 (by decide) ?_
    refine lv_icmp_ne (tgt := 120) hx hb dX11_reasonOfLay_105 (by decide) (fun c13 => ?_) (fun c13 => ?_)
    · rw [if_neg c13] at hE hp
      exact B_120 u11 x1 _ _ _ hE hp hP hD hS (lv_sub hl [0, 1] rfl)
    · rw [if_pos c13] at hE hp
      refine lv_aload_n hx hb dX11_reasonOfLay_108 rfl (lv_at hl 0 rfl) ?_
      obtain ⟨hy14, hp⟩ := hp
      refine hGoi (va_runV (As := []) (rest := []) ⟨hx, hb, hml, hown, hts⟩ (c_X11_wantsPlace l G K h g u11 _) (cwV 0 hts (wGV t_ (mw (.methodLink RX11 190 yX11_wantsPlace) (List.mem_of_getElem? (i := 11) rfl)) (mw (.instanceMethod yX11_wantsPlace) (List.mem_of_getElem? (i := 12) rfl)) (mw (.selects RX11 yX11_wantsPlace yX11_wantsPlace) (List.mem_of_getElem? (i := 13) rfl)) (mw (.initialized RX11) (List.mem_of_getElem? (i := 7) rfl)) j_X11_wantsPlace) rfl rfl rfl (by decide +kernel) ⟨Nat.le_of_ble_eq_true rfl, Nat.le_of_ble_eq_true rfl⟩) (hPV hK hTE hP hD hy14) rfl rfl hl.1 rfl (lv_room (Nat.le_of_ble_eq_true rfl)) dX11_reasonOfLay_109 ⟨Nat.le_of_ble_eq_true rfl, Nat.le_of_ble_eq_true rfl⟩) hP hD hS hA (fun r16 u15 H locs hv hP hD hS => ?_)
      rw [← hv] at hE hp
      dsimp only at hE hp
      unfold b_X11_reasonOfLay_a112 at hE
      unfold q_X11_reasonOfLay_a112 at hp
      refine lv_if_eq (tgt := 120) hx hb dX11_reasonOfLay_112 (by decide) (fun c17 => ?_) (fun c17 => ?_)
      · rw [if_pos c17] at hE hp
        exact B_120 u15 x1 _ _ _ hE hp hP hD hS (lv_sub hl [0, 1] rfl)
      · rw [if_neg c17] at hE hp
        refine lv_bipush (v := 10) hx hb dX11_reasonOfLay_115 (by decide) ?_
        refine lv_goto (tgt := 121) hx hb dX11_reasonOfLay_117 (by decide) ?_
        exact B_121 u15 x1 10 _ _ _ hE hp hP hD hS (lv_sub hl [0, 1] rfl)
  have B_M : ∀ (S : HS) (x1 : Int32) (H : Heap) (locs : List Loc) (ls : Array Slot), f_X11_reasonOfLay S x1 = X → p_X11_reasonOfLay S x1 → va_P G vwCl (hW K h g S) H → va_D A (hW K h g S) → va_S A s.heap H locs → lv_has ls 2 [(0, .ref h), (1, .int x1)] → W p l e ({ frames := 2, cells := 0, slots := 0, locals := 44 } : Room) s m #[Value.ref h, Value.int a1] below meth c H locs 0 0 Q (F0 m 0 ls []) := by
    intro S x1 H locs ls hE hp hP hD hS hl
    unfold f_X11_reasonOfLay at hE
    unfold p_X11_reasonOfLay at hp
    refine lv_iload_n hx hb dX11_reasonOfLay_0 rfl (lv_at hl 1 rfl) ?_
    refine lv_iconst (v := 0) hx hb dX11_reasonOfLay_1 (by decide) ?_
    refine lv_bipush (v := 7) hx hb dX11_reasonOfLay_2 (by decide) ?_
    obtain ⟨hy1, hp⟩ := hp
    refine nGoi (va_runSN (As := [.int x1, .int 0, .int 7]) (rest := []) ⟨hx, hb, hml, hown, hts⟩ (c_X12_in l G K x1 0 7 _) ⟨va_cnB (host := "MotionFloorModel") 3 hts (wGP t_ j_X12_in) rfl rfl rfl hTE.2.2.2.2.2.2.2.2.2.1 (hw (.initialized RX12) (List.mem_of_getElem? (i := 0) rfl)) (by decide +kernel) ⟨Nat.le_of_ble_eq_true rfl, Nat.le_of_ble_eq_true rfl⟩, (hw (.static yX12_in) (List.mem_of_getElem? (i := 1) rfl)), trivial⟩ (nPS hK hTE hy1) rfl rfl hl.1 rfl (lv_room (Nat.le_of_ble_eq_true rfl)) dX11_reasonOfLay_4 ⟨Nat.le_of_ble_eq_true rfl, Nat.le_of_ble_eq_true rfl⟩) hP hS hA (fun r H locs hv hP hS => ?_)
    subst hv
    refine lv_if_ne (tgt := 13) hx hb dX11_reasonOfLay_7 (by decide) (fun c2 => ?_) (fun c2 => ?_)
    · rw [if_neg c2] at hE hp
      refine lv_aload_n hx hb dX11_reasonOfLay_13 rfl (lv_at hl 0 rfl) ?_
      refine va_get (D := G) (ci := 8) (v := .int (S.1 35)) (C := RX11) (T := TX11) (N := 42) hx hb hts iX11 hown hK hP 0 rfl rfl 35 (by decide) (hw (.fieldLink RX11 130 "MotionFloorModel$Hall" "drafted" "I") (List.mem_of_getElem? (i := 2) rfl)) (fun _ h9 => h9) rfl dX11_reasonOfLay_14 ?_
      refine lv_if_eq (tgt := 29) hx hb dX11_reasonOfLay_17 (by decide) (fun c3 => ?_) (fun c3 => ?_)
      · rw [if_pos c3] at hE hp
        exact B_29 S x1 _ _ _ hE hp hP hD hS (lv_sub hl [0, 1] rfl)
      · rw [if_neg c3] at hE hp
        refine lv_aload_n hx hb dX11_reasonOfLay_20 rfl (lv_at hl 0 rfl) ?_
        refine va_get (D := G) (ci := 8) (v := .ref (g 34)) (C := RX11) (T := TX11) (N := 42) hx hb hts iX11 hown hK hP 0 rfl rfl 34 (by decide) (hw (.fieldLink RX11 81 "MotionFloorModel$Hall" "lying" "[I") (List.mem_of_getElem? (i := 3) rfl)) (fun _ h9 => h9) rfl dX11_reasonOfLay_21 ?_
        refine lv_iload_n hx hb dX11_reasonOfLay_24 rfl (lv_at hl 1 rfl) ?_
        obtain ⟨hy4, hp⟩ := hp
        refine va_iald hx hb hK hP 23 0 rfl rfl hy4 dX11_reasonOfLay_25 ?_
        refine lv_if_le (tgt := 32) hx hb dX11_reasonOfLay_26 (by decide) (fun c5 => ?_) (fun c5 => ?_)
        · rw [if_pos c5] at hE hp
          refine lv_aload_n hx hb dX11_reasonOfLay_32 rfl (lv_at hl 0 rfl) ?_
          refine lv_iconst (v := 2) hx hb dX11_reasonOfLay_33 (by decide) ?_
          refine lv_iconst (v := 3) hx hb dX11_reasonOfLay_34 (by decide) ?_
          obtain ⟨hy6, hp⟩ := hp
          refine hGoi (va_runV (As := [.int 2, .int 3]) (rest := []) ⟨hx, hb, hml, hown, hts⟩ (c_X11_hasDraft l G K h g S 2 3 _) (cwV 2 hts (wGV t_ (mw (.methodLink RX11 163 yX11_hasDraft) (List.mem_of_getElem? (i := 4) rfl)) (mw (.instanceMethod yX11_hasDraft) (List.mem_of_getElem? (i := 5) rfl)) (mw (.selects RX11 yX11_hasDraft yX11_hasDraft) (List.mem_of_getElem? (i := 6) rfl)) (mw (.initialized RX11) (List.mem_of_getElem? (i := 7) rfl)) j_X11_hasDraft) rfl rfl rfl (by decide +kernel) ⟨Nat.le_of_ble_eq_true rfl, Nat.le_of_ble_eq_true rfl⟩) (hPV hK hTE hP hD hy6) rfl rfl hl.1 rfl (lv_room (Nat.le_of_ble_eq_true rfl)) dX11_reasonOfLay_35 ⟨Nat.le_of_ble_eq_true rfl, Nat.le_of_ble_eq_true rfl⟩) hP hD hS hA (fun r8 u7 H locs hv hP hD hS => ?_)
          rw [← hv] at hE hp
          dsimp only at hE hp
          unfold b_X11_reasonOfLay_a38 at hE
          unfold q_X11_reasonOfLay_a38 at hp
          refine lv_if_eq (tgt := 100) hx hb dX11_reasonOfLay_38 (by decide) (fun c9 => ?_) (fun c9 => ?_)
          · rw [if_pos c9] at hE hp
            exact B_100 u7 x1 _ _ _ hE hp hP hD hS (lv_sub hl [0, 1] rfl)
          · rw [if_neg c9] at hE hp
            refine lv_aload_n hx hb dX11_reasonOfLay_41 rfl (lv_at hl 0 rfl) ?_
            refine va_get (D := G) (ci := 8) (v := .ref (g 25)) (C := RX11) (T := TX11) (N := 42) hx hb hts iX11 hown hK hP 0 rfl rfl 25 (by decide) (hw (.fieldLink RX11 55 "MotionFloorModel$Hall" "laid" "[Z") (List.mem_of_getElem? (i := 14) rfl)) (fun _ h9 => h9) rfl dX11_reasonOfLay_42 ?_
            refine lv_aload_n hx hb dX11_reasonOfLay_45 rfl (lv_at hl 0 rfl) ?_
            refine va_get (D := G) (ci := 8) (v := .ref (g 32)) (C := RX11) (T := TX11) (N := 42) hx hb hts iX11 hown hK hP 0 rfl rfl 32 (by decide) (hw (.fieldLink RX11 75 "MotionFloorModel$Hall" "draft" "[I") (List.mem_of_getElem? (i := 15) rfl)) (fun _ h9 => h9) rfl dX11_reasonOfLay_46 ?_
            refine lv_iconst (v := 0) hx hb dX11_reasonOfLay_49 (by decide) ?_
            obtain ⟨hy24, hp⟩ := hp
            refine va_iald hx hb hK hP 21 0 rfl rfl hy24 dX11_reasonOfLay_50 ?_
            obtain ⟨hy25, hp⟩ := hp
            refine va_zald hx hb hK hP 15 1 rfl rfl hy25 dX11_reasonOfLay_51 ?_
            refine lv_if_ne (tgt := 100) hx hb dX11_reasonOfLay_52 (by decide) (fun c26 => ?_) (fun c26 => ?_)
            · rw [if_neg c26] at hE hp
              exact B_100 u7 x1 _ _ _ hE hp hP hD hS (lv_sub hl [0, 1] rfl)
            · rw [if_pos c26] at hE hp
              refine lv_aload_n hx hb dX11_reasonOfLay_55 rfl (lv_at hl 0 rfl) ?_
              refine lv_aload_n hx hb dX11_reasonOfLay_56 rfl (lv_at hl 0 rfl) ?_
              refine va_get (D := G) (ci := 8) (v := .ref (g 14)) (C := RX11) (T := TX11) (N := 42) hx hb hts iX11 hown hK hP 0 rfl rfl 14 (by decide) (hw (.fieldLink RX11 22 "MotionFloorModel$Hall" "kind" "[I") (List.mem_of_getElem? (i := 16) rfl)) (fun _ h9 => h9) rfl dX11_reasonOfLay_57 ?_
              refine lv_aload_n hx hb dX11_reasonOfLay_60 rfl (lv_at hl 0 rfl) ?_
              refine va_get (D := G) (ci := 8) (v := .ref (g 32)) (C := RX11) (T := TX11) (N := 42) hx hb hts iX11 hown hK hP 0 rfl rfl 32 (by decide) (hw (.fieldLink RX11 75 "MotionFloorModel$Hall" "draft" "[I") (List.mem_of_getElem? (i := 15) rfl)) (fun _ h9 => h9) rfl dX11_reasonOfLay_61 ?_
              refine lv_iconst (v := 0) hx hb dX11_reasonOfLay_64 (by decide) ?_
              obtain ⟨hy27, hp⟩ := hp
              refine va_iald hx hb hK hP 21 0 rfl rfl hy27 dX11_reasonOfLay_65 ?_
              obtain ⟨hy28, hp⟩ := hp
              refine va_iald hx hb hK hP 4 0 rfl rfl hy28 dX11_reasonOfLay_66 ?_
              obtain ⟨hy29, hp⟩ := hp
              refine hGoi (va_runV (As := [.int (u7.2 14 (u7.2 32 (0 : Int32).toNatClampNeg).toNatClampNeg)]) (rest := []) ⟨hx, hb, hml, hown, hts⟩ (c_X11_isAbout l G K h g u7 (u7.2 14 (u7.2 32 (0 : Int32).toNatClampNeg).toNatClampNeg) _) (cwV 1 hts (wGV t_ (mw (.methodLink RX11 184 yX11_isAbout) (List.mem_of_getElem? (i := 17) rfl)) (mw (.instanceMethod yX11_isAbout) (List.mem_of_getElem? (i := 18) rfl)) (mw (.selects RX11 yX11_isAbout yX11_isAbout) (List.mem_of_getElem? (i := 19) rfl)) (mw (.initialized RX11) (List.mem_of_getElem? (i := 7) rfl)) j_X11_isAbout) rfl rfl rfl (by decide +kernel) ⟨Nat.le_of_ble_eq_true rfl, Nat.le_of_ble_eq_true rfl⟩) (hPV hK hTE hP hD hy29) rfl rfl hl.1 rfl (lv_room (Nat.le_of_ble_eq_true rfl)) dX11_reasonOfLay_67 ⟨Nat.le_of_ble_eq_true rfl, Nat.le_of_ble_eq_true rfl⟩) hP hD hS hA (fun r31 u30 H locs hv hP hD hS => ?_)
              rw [← hv] at hE hp
              dsimp only at hE hp
              unfold b_X11_reasonOfLay_a70 at hE
              unfold q_X11_reasonOfLay_a70 at hp
              refine lv_if_ne (tgt := 75) hx hb dX11_reasonOfLay_70 (by decide) (fun c32 => ?_) (fun c32 => ?_)
              · rw [if_neg c32] at hE hp
                refine lv_aload_n hx hb dX11_reasonOfLay_75 rfl (lv_at hl 0 rfl) ?_
                refine va_get (D := G) (ci := 8) (v := .ref (g 21)) (C := RX11) (T := TX11) (N := 42) hx hb hts iX11 hown hK hP 0 rfl rfl 21 (by decide) (hw (.fieldLink RX11 43 "MotionFloorModel$Hall" "to" "[I") (List.mem_of_getElem? (i := 20) rfl)) (fun _ h9 => h9) rfl dX11_reasonOfLay_76 ?_
                refine lv_aload_n hx hb dX11_reasonOfLay_79 rfl (lv_at hl 0 rfl) ?_
                refine va_get (D := G) (ci := 8) (v := .ref (g 32)) (C := RX11) (T := TX11) (N := 42) hx hb hts iX11 hown hK hP 0 rfl rfl 32 (by decide) (hw (.fieldLink RX11 75 "MotionFloorModel$Hall" "draft" "[I") (List.mem_of_getElem? (i := 15) rfl)) (fun _ h9 => h9) rfl dX11_reasonOfLay_80 ?_
                refine lv_iconst (v := 0) hx hb dX11_reasonOfLay_83 (by decide) ?_
                obtain ⟨hy33, hp⟩ := hp
                refine va_iald hx hb hK hP 21 0 rfl rfl hy33 dX11_reasonOfLay_84 ?_
                obtain ⟨hy34, hp⟩ := hp
                refine va_iald hx hb hK hP 11 0 rfl rfl hy34 dX11_reasonOfLay_85 ?_
                refine lv_aload_n hx hb dX11_reasonOfLay_86 rfl (lv_at hl 0 rfl) ?_
                refine va_get (D := G) (ci := 8) (v := .ref (g 19)) (C := RX11) (T := TX11) (N := 42) hx hb hts iX11 hown hK hP 0 rfl rfl 19 (by decide) (hw (.fieldLink RX11 37 "MotionFloorModel$Hall" "words" "[I") (List.mem_of_getElem? (i := 21) rfl)) (fun _ h9 => h9) rfl dX11_reasonOfLay_87 ?_
                refine lv_aload_n hx hb dX11_reasonOfLay_90 rfl (lv_at hl 0 rfl) ?_
                obtain ⟨hy35, hp⟩ := hp
                refine hGoi (va_runV (As := []) (rest := [.ref (g 19), .int (u30.2 21 (u30.2 32 (0 : Int32).toNatClampNeg).toNatClampNeg)]) ⟨hx, hb, hml, hown, hts⟩ (c_X11_top l G K h g u30 _) (cwV 0 hts (wGV t_ (mw (.methodLink RX11 155 yX11_top) (List.mem_of_getElem? (i := 22) rfl)) (mw (.instanceMethod yX11_top) (List.mem_of_getElem? (i := 23) rfl)) (mw (.selects RX11 yX11_top yX11_top) (List.mem_of_getElem? (i := 24) rfl)) (mw (.initialized RX11) (List.mem_of_getElem? (i := 7) rfl)) j_X11_top) rfl rfl rfl (by decide +kernel) ⟨Nat.le_of_ble_eq_true rfl, Nat.le_of_ble_eq_true rfl⟩) (hPV hK hTE hP hD hy35) rfl rfl hl.1 rfl (lv_room (Nat.le_of_ble_eq_true rfl)) dX11_reasonOfLay_91 ⟨Nat.le_of_ble_eq_true rfl, Nat.le_of_ble_eq_true rfl⟩) hP hD hS hA (fun r37 u36 H locs hv hP hD hS => ?_)
                rw [← hv] at hE hp
                dsimp only at hE hp
                unfold b_X11_reasonOfLay_a94 at hE
                unfold q_X11_reasonOfLay_a94 at hp
                obtain ⟨hy38, hp⟩ := hp
                refine va_iald hx hb hK hP 9 0 rfl rfl hy38 dX11_reasonOfLay_94 ?_
                refine lv_icmp_le (tgt := 100) hx hb dX11_reasonOfLay_95 (by decide) (fun c39 => ?_) (fun c39 => ?_)
                · rw [if_pos c39] at hE hp
                  exact B_100 u36 x1 _ _ _ hE hp hP hD hS (lv_sub hl [0, 1] rfl)
                · rw [if_neg c39] at hE hp
                  refine lv_iconst (v := 5) hx hb dX11_reasonOfLay_98 (by decide) ?_
                  subst hQ
                  exact W.iret (v := 5) hx hb hr (fun t ht hW => ⟨⟨5, u36, rfl, hE.trans hX.symm, by rw [ht]; exact hP, hD⟩, hS.F ht⟩) hS.2.2 dX11_reasonOfLay_99
              · rw [if_pos c32] at hE hp
                refine lv_iconst (v := 1) hx hb dX11_reasonOfLay_73 (by decide) ?_
                subst hQ
                exact W.iret (v := 1) hx hb hr (fun t ht hW => ⟨⟨1, u30, rfl, hE.trans hX.symm, by rw [ht]; exact hP, hD⟩, hS.F ht⟩) hS.2.2 dX11_reasonOfLay_74
        · rw [if_neg c5] at hE hp
          exact B_29 S x1 _ _ _ hE hp hP hD hS (lv_sub hl [0, 1] rfl)
    · rw [if_pos c2] at hE hp
      refine lv_bipush (v := 9) hx hb dX11_reasonOfLay_10 (by decide) ?_
      subst hQ
      exact W.iret (v := 9) hx hb hr (fun t ht hW => ⟨⟨9, S, rfl, hE.trans hX.symm, by rw [ht]; exact hP, hD⟩, hS.F ht⟩) hS.2.2 dX11_reasonOfLay_12
  exact B_M S0 a1 _ _ _ hX hp hP hD hS hl
def b_X11_reasonOfMove_125 (S : HS) (x1 x2 x3 x4 x5 : Int32) : Int32 × HS := (1, S)
def q_X11_reasonOfMove_125 (S : HS) (x1 x2 x3 x4 x5 : Int32) : Prop := True
def b_X11_reasonOfMove_143 (S : HS) (x1 x2 x3 : Int32) : Int32 × HS := (2, S)
def q_X11_reasonOfMove_143 (S : HS) (x1 x2 x3 : Int32) : Prop := True
def b_X11_reasonOfMove_425 (S : HS) (x1 x2 x3 x4 y0 : Int32) : Int32 × HS := (y0, S)
def q_X11_reasonOfMove_425 (S : HS) (x1 x2 x3 x4 y0 : Int32) : Prop := True
def b_X11_reasonOfMove_424 (S : HS) (x1 x2 x3 x4 : Int32) : Int32 × HS := (b_X11_reasonOfMove_425 S x1 x2 x3 x4 0)
def q_X11_reasonOfMove_424 (S : HS) (x1 x2 x3 x4 : Int32) : Prop := (q_X11_reasonOfMove_425 S x1 x2 x3 x4 0)
def b_X11_reasonOfMove_a415 (S : HS) (x1 x2 x3 x4 y0 : Int32) : Int32 × HS := if y0 = (-1) then (b_X11_reasonOfMove_425 S x1 x2 x3 x4 10) else (b_X11_reasonOfMove_424 S x1 x2 x3 x4)
def q_X11_reasonOfMove_a415 (S : HS) (x1 x2 x3 x4 y0 : Int32) : Prop := (if y0 = (-1) then (q_X11_reasonOfMove_425 S x1 x2 x3 x4 10) else (q_X11_reasonOfMove_424 S x1 x2 x3 x4))
def b_X11_reasonOfMove_411 (S : HS) (x1 x2 x3 x4 : Int32) : Int32 × HS := (b_X11_reasonOfMove_a415 (f_X11_free S ).2 x1 x2 x3 x4 (f_X11_free S ).1)
def q_X11_reasonOfMove_411 (S : HS) (x1 x2 x3 x4 : Int32) : Prop := (p_X11_free S ) ∧ (q_X11_reasonOfMove_a415 (f_X11_free S ).2 x1 x2 x3 x4 (f_X11_free S ).1)
def b_X11_reasonOfMove_395 (S : HS) (x1 x2 x3 x4 : Int32) : Int32 × HS := if x3 = 4 then (b_X11_reasonOfMove_411 S x1 x2 x3 x4) else if x3 = 5 then (b_X11_reasonOfMove_411 S x1 x2 x3 x4) else if x3 = 7 then (b_X11_reasonOfMove_411 S x1 x2 x3 x4) else (b_X11_reasonOfMove_424 S x1 x2 x3 x4)
def q_X11_reasonOfMove_395 (S : HS) (x1 x2 x3 x4 : Int32) : Prop := (if x3 = 4 then (q_X11_reasonOfMove_411 S x1 x2 x3 x4) else (if x3 = 5 then (q_X11_reasonOfMove_411 S x1 x2 x3 x4) else (if x3 = 7 then (q_X11_reasonOfMove_411 S x1 x2 x3 x4) else (q_X11_reasonOfMove_424 S x1 x2 x3 x4))))
def b_X11_reasonOfMove_a383 (S : HS) (x1 x2 x3 x4 x5 x6 y0 y1 y2 : Int32) : Int32 × HS := if (y2 - (y1 - (S.2 20 y0.toNatClampNeg))) ≤ 400 then (b_X11_reasonOfMove_395 S x1 x2 x3 x4) else (10, S)
def q_X11_reasonOfMove_a383 (S : HS) (x1 x2 x3 x4 x5 x6 y0 y1 y2 : Int32) : Prop := (vp_in y0 90) ∧ (if (y2 - (y1 - (S.2 20 y0.toNatClampNeg))) ≤ 400 then (q_X11_reasonOfMove_395 S x1 x2 x3 x4) else True)
def b_X11_reasonOfMove_a374 (S : HS) (x1 x2 x3 x4 x5 x6 y0 y1 : Int32) : Int32 × HS := (b_X11_reasonOfMove_a383 (f_X11_top S ).2 x1 x2 x3 x4 x5 x6 (f_X11_top S ).1 (S.2 21 y0.toNatClampNeg) y1)
def q_X11_reasonOfMove_a374 (S : HS) (x1 x2 x3 x4 x5 x6 y0 y1 : Int32) : Prop := (vp_in y0 90) ∧ (p_X11_top S ) ∧ (q_X11_reasonOfMove_a383 (f_X11_top S ).2 x1 x2 x3 x4 x5 x6 (f_X11_top S ).1 (S.2 21 y0.toNatClampNeg) y1)
def b_X11_reasonOfMove_348 (S : HS) (x1 x2 x3 x4 x5 y0 : Int32) : Int32 × HS := if y0 = (-1) then (b_X11_reasonOfMove_395 S x1 x2 x3 x4) else (b_X11_reasonOfMove_a374 (f_X11_top S ).2 x1 x2 x3 x4 x5 y0 (f_X11_top S ).1 ((S.2 19 y0.toNatClampNeg) + x5))
def q_X11_reasonOfMove_348 (S : HS) (x1 x2 x3 x4 x5 y0 : Int32) : Prop := (if y0 = (-1) then (q_X11_reasonOfMove_395 S x1 x2 x3 x4) else (vp_in y0 90) ∧ (p_X11_top S ) ∧ (q_X11_reasonOfMove_a374 (f_X11_top S ).2 x1 x2 x3 x4 x5 y0 (f_X11_top S ).1 ((S.2 19 y0.toNatClampNeg) + x5)))
def b_X11_reasonOfMove_a293 (S : HS) (x1 x2 x3 x4 y0 : Int32) : Int32 × HS := if (((S.2 19 y0.toNatClampNeg) + (S.2 19 x2.toNatClampNeg)) - ((S.2 21 x2.toNatClampNeg) - (S.2 20 x2.toNatClampNeg))) ≤ 400 then if x3 = 3 then (b_X11_reasonOfMove_348 S x1 x2 x3 x4 (((S.2 19 y0.toNatClampNeg) + (S.2 19 x2.toNatClampNeg)) - ((S.2 21 x2.toNatClampNeg) - (S.2 20 x2.toNatClampNeg))) (S.2 31 ((S.1 6) - 2).toNatClampNeg)) else (b_X11_reasonOfMove_348 S x1 x2 x3 x4 (((S.2 19 y0.toNatClampNeg) + (S.2 19 x2.toNatClampNeg)) - ((S.2 21 x2.toNatClampNeg) - (S.2 20 x2.toNatClampNeg))) (-1)) else (10, S)
def q_X11_reasonOfMove_a293 (S : HS) (x1 x2 x3 x4 y0 : Int32) : Prop := (vp_in y0 90) ∧ (vp_in x2 90) ∧ (vp_in x2 90) ∧ (vp_in x2 90) ∧ (if (((S.2 19 y0.toNatClampNeg) + (S.2 19 x2.toNatClampNeg)) - ((S.2 21 x2.toNatClampNeg) - (S.2 20 x2.toNatClampNeg))) ≤ 400 then (if x3 = 3 then (vp_in ((S.1 6) - 2) 9) ∧ (q_X11_reasonOfMove_348 S x1 x2 x3 x4 (((S.2 19 y0.toNatClampNeg) + (S.2 19 x2.toNatClampNeg)) - ((S.2 21 x2.toNatClampNeg) - (S.2 20 x2.toNatClampNeg))) (S.2 31 ((S.1 6) - 2).toNatClampNeg)) else (q_X11_reasonOfMove_348 S x1 x2 x3 x4 (((S.2 19 y0.toNatClampNeg) + (S.2 19 x2.toNatClampNeg)) - ((S.2 21 x2.toNatClampNeg) - (S.2 20 x2.toNatClampNeg))) (-1))) else True)
def b_X11_reasonOfMove_259 (S : HS) (x1 x2 x3 x4 : Int32) : Int32 × HS := if (S.1 36) = 0 then if (S.1 6) = 9 then (10, S) else if x4 = 0 then (b_X11_reasonOfMove_395 S x1 x2 x3 x4) else (b_X11_reasonOfMove_a293 (f_X11_top S ).2 x1 x2 x3 x4 (f_X11_top S ).1) else (0, S)
def q_X11_reasonOfMove_259 (S : HS) (x1 x2 x3 x4 : Int32) : Prop := (if (S.1 36) = 0 then (if (S.1 6) = 9 then True else (if x4 = 0 then (q_X11_reasonOfMove_395 S x1 x2 x3 x4) else (p_X11_top S ) ∧ (q_X11_reasonOfMove_a293 (f_X11_top S ).2 x1 x2 x3 x4 (f_X11_top S ).1))) else True)
def b_X11_reasonOfMove_257 (S : HS) (x1 x2 x3 x4 : Int32) : Int32 × HS := (5, S)
def q_X11_reasonOfMove_257 (S : HS) (x1 x2 x3 x4 : Int32) : Prop := True
def b_X11_reasonOfMove_a253 (S : HS) (x1 x2 x3 x4 y0 y1 : Int32) : Int32 × HS := if y1 ≤ (S.2 19 y0.toNatClampNeg) then (b_X11_reasonOfMove_259 S x1 x2 x3 x4) else (b_X11_reasonOfMove_257 S x1 x2 x3 x4)
def q_X11_reasonOfMove_a253 (S : HS) (x1 x2 x3 x4 y0 y1 : Int32) : Prop := (vp_in y0 90) ∧ (if y1 ≤ (S.2 19 y0.toNatClampNeg) then (q_X11_reasonOfMove_259 S x1 x2 x3 x4) else (q_X11_reasonOfMove_257 S x1 x2 x3 x4))
def b_X11_reasonOfMove_239 (S : HS) (x1 x2 x3 x4 : Int32) : Int32 × HS := (b_X11_reasonOfMove_a253 (f_X11_top S ).2 x1 x2 x3 x4 (f_X11_top S ).1 (S.2 21 x2.toNatClampNeg))
def q_X11_reasonOfMove_239 (S : HS) (x1 x2 x3 x4 : Int32) : Prop := (vp_in x2 90) ∧ (p_X11_top S ) ∧ (q_X11_reasonOfMove_a253 (f_X11_top S ).2 x1 x2 x3 x4 (f_X11_top S ).1 (S.2 21 x2.toNatClampNeg))
def b_X11_reasonOfMove_a235 (S : HS) (x1 x2 x3 x4 y0 y1 : Int32) : Int32 × HS := if y1 = (S.2 22 y0.toNatClampNeg) then (b_X11_reasonOfMove_239 S x1 x2 x3 x4) else (b_X11_reasonOfMove_257 S x1 x2 x3 x4)
def q_X11_reasonOfMove_a235 (S : HS) (x1 x2 x3 x4 y0 y1 : Int32) : Prop := (vp_in y0 90) ∧ (if y1 = (S.2 22 y0.toNatClampNeg) then (q_X11_reasonOfMove_239 S x1 x2 x3 x4) else (q_X11_reasonOfMove_257 S x1 x2 x3 x4))
def b_X11_reasonOfMove_196 (S : HS) (x1 x2 x3 y0 : Int32) : Int32 × HS := if y0 = 0 then (b_X11_reasonOfMove_259 S x1 x2 x3 y0) else if (S.2 26 x2.toNatClampNeg) = 0 then if (S.2 25 x2.toNatClampNeg) = 0 then (b_X11_reasonOfMove_239 S x1 x2 x3 y0) else (b_X11_reasonOfMove_a235 (f_X11_top S ).2 x1 x2 x3 y0 (f_X11_top S ).1 (S.2 23 x2.toNatClampNeg)) else (b_X11_reasonOfMove_257 S x1 x2 x3 y0)
def q_X11_reasonOfMove_196 (S : HS) (x1 x2 x3 y0 : Int32) : Prop := (if y0 = 0 then (q_X11_reasonOfMove_259 S x1 x2 x3 y0) else (vp_in x2 90) ∧ (if (S.2 26 x2.toNatClampNeg) = 0 then (vp_in x2 90) ∧ (if (S.2 25 x2.toNatClampNeg) = 0 then (q_X11_reasonOfMove_239 S x1 x2 x3 y0) else (vp_in x2 90) ∧ (p_X11_top S ) ∧ (q_X11_reasonOfMove_a235 (f_X11_top S ).2 x1 x2 x3 y0 (f_X11_top S ).1 (S.2 23 x2.toNatClampNeg))) else (q_X11_reasonOfMove_257 S x1 x2 x3 y0)))
def b_X11_reasonOfMove_195 (S : HS) (x1 x2 x3 : Int32) : Int32 × HS := (b_X11_reasonOfMove_196 S x1 x2 x3 0)
def q_X11_reasonOfMove_195 (S : HS) (x1 x2 x3 : Int32) : Prop := (q_X11_reasonOfMove_196 S x1 x2 x3 0)
def b_X11_reasonOfMove_191 (S : HS) (x1 x2 x3 : Int32) : Int32 × HS := (b_X11_reasonOfMove_196 S x1 x2 x3 1)
def q_X11_reasonOfMove_191 (S : HS) (x1 x2 x3 : Int32) : Prop := (q_X11_reasonOfMove_196 S x1 x2 x3 1)
def b_X11_reasonOfMove_161 (S : HS) (x1 x2 x3 : Int32) : Int32 × HS := if (S.1 3) ≤ (S.1 1) then if (S.1 36) = 0 then if x3 = 2 then (b_X11_reasonOfMove_191 S x1 x2 x3) else if x3 = 3 then (b_X11_reasonOfMove_191 S x1 x2 x3) else (b_X11_reasonOfMove_195 S x1 x2 x3) else (b_X11_reasonOfMove_195 S x1 x2 x3) else (4, S)
def q_X11_reasonOfMove_161 (S : HS) (x1 x2 x3 : Int32) : Prop := (if (S.1 3) ≤ (S.1 1) then (if (S.1 36) = 0 then (if x3 = 2 then (q_X11_reasonOfMove_191 S x1 x2 x3) else (if x3 = 3 then (q_X11_reasonOfMove_191 S x1 x2 x3) else (q_X11_reasonOfMove_195 S x1 x2 x3))) else (q_X11_reasonOfMove_195 S x1 x2 x3)) else True)
def b_X11_reasonOfMove_a156 (S : HS) (x1 x2 x3 y0 : Int32) : Int32 × HS := if y0 = 0 then (3, S) else (b_X11_reasonOfMove_161 S x1 x2 x3)
def q_X11_reasonOfMove_a156 (S : HS) (x1 x2 x3 y0 : Int32) : Prop := (if y0 = 0 then True else (q_X11_reasonOfMove_161 S x1 x2 x3))
def b_X11_reasonOfMove_127 (S : HS) (x1 x2 x3 : Int32) : Int32 × HS := if (S.1 5) = (-1) then (b_X11_reasonOfMove_143 S x1 x2 x3) else if (S.1 5) = x1 then if (S.1 6) ≤ 0 then (b_X11_reasonOfMove_161 S x1 x2 x3) else (b_X11_reasonOfMove_a156 (f_X11_hasSeconder S ).2 x1 x2 x3 (f_X11_hasSeconder S ).1) else (b_X11_reasonOfMove_143 S x1 x2 x3)
def q_X11_reasonOfMove_127 (S : HS) (x1 x2 x3 : Int32) : Prop := (if (S.1 5) = (-1) then (q_X11_reasonOfMove_143 S x1 x2 x3) else (if (S.1 5) = x1 then (if (S.1 6) ≤ 0 then (q_X11_reasonOfMove_161 S x1 x2 x3) else (p_X11_hasSeconder S ) ∧ (q_X11_reasonOfMove_a156 (f_X11_hasSeconder S ).2 x1 x2 x3 (f_X11_hasSeconder S ).1)) else (q_X11_reasonOfMove_143 S x1 x2 x3)))
def b_X11_reasonOfMove_105 (S : HS) (x1 x2 x3 x4 x5 y0 : Int32) : (Int32 × HS) ⊕ (HS × Int32 × Int32 × Int32 × Int32 × Int32) := Sum.inr (S, x1, x2, x3, y0, (x5 + 1))
def q_X11_reasonOfMove_105 (S : HS) (x1 x2 x3 x4 x5 y0 : Int32) : Prop := True
def b_X11_reasonOfMove_100 (S : HS) (x1 x2 x3 x4 x5 : Int32) : (Int32 × HS) ⊕ (HS × Int32 × Int32 × Int32 × Int32 × Int32) := (b_X11_reasonOfMove_105 S x1 x2 x3 x4 x5 1)
def q_X11_reasonOfMove_100 (S : HS) (x1 x2 x3 x4 x5 : Int32) : Prop := (q_X11_reasonOfMove_105 S x1 x2 x3 x4 x5 1)
def st_X11_reasonOfMove_70 (S : HS) (x1 x2 x3 x4 x5 : Int32) : (Int32 × HS) ⊕ (HS × Int32 × Int32 × Int32 × Int32 × Int32) := if (S.1 6) ≤ x5 then Sum.inl (if (S.1 6) = 0 then (b_X11_reasonOfMove_125 S x1 x2 x3 x4 x5) else if x4 = 0 then (b_X11_reasonOfMove_127 S x1 x2 x3) else (b_X11_reasonOfMove_125 S x1 x2 x3 x4 x5)) else if x4 = 0 then if (S.2 14 (S.2 31 x5.toNatClampNeg).toNatClampNeg) < x3 then (b_X11_reasonOfMove_105 S x1 x2 x3 x4 x5 0) else (b_X11_reasonOfMove_100 S x1 x2 x3 x4 x5) else (b_X11_reasonOfMove_100 S x1 x2 x3 x4 x5)
def ps_X11_reasonOfMove_70 (S : HS) (x1 x2 x3 x4 x5 : Int32) : Prop := (if (S.1 6) ≤ x5 then (if (S.1 6) = 0 then (q_X11_reasonOfMove_125 S x1 x2 x3 x4 x5) else (if x4 = 0 then (q_X11_reasonOfMove_127 S x1 x2 x3) else (q_X11_reasonOfMove_125 S x1 x2 x3 x4 x5))) else (if x4 = 0 then (vp_in x5 9) ∧ (vp_in (S.2 31 x5.toNatClampNeg) 90) ∧ (if (S.2 14 (S.2 31 x5.toNatClampNeg).toNatClampNeg) < x3 then (q_X11_reasonOfMove_105 S x1 x2 x3 x4 x5 0) else (q_X11_reasonOfMove_100 S x1 x2 x3 x4 x5)) else (q_X11_reasonOfMove_100 S x1 x2 x3 x4 x5)))
def lp_X11_reasonOfMove_70 : Nat → HS → Int32 → Int32 → Int32 → Int32 → Int32 → Int32 × HS
  | 0, S, _, _, _, _, _ => (0, S)
  | n + 1, S, x1, x2, x3, x4, x5 => match st_X11_reasonOfMove_70 S x1 x2 x3 x4 x5 with
    | Sum.inl r => r
    | Sum.inr q => lp_X11_reasonOfMove_70 n q.1 q.2.1 q.2.2.1 q.2.2.2.1 q.2.2.2.2.1 q.2.2.2.2.2
def lq_X11_reasonOfMove_70 : Nat → HS → Int32 → Int32 → Int32 → Int32 → Int32 → Prop
  | 0, _, _, _, _, _, _ => False
  | n + 1, S, x1, x2, x3, x4, x5 => ps_X11_reasonOfMove_70 S x1 x2 x3 x4 x5 ∧ (match st_X11_reasonOfMove_70 S x1 x2 x3 x4 x5 with
    | Sum.inl _ => True
    | Sum.inr q => lq_X11_reasonOfMove_70 n q.1 q.2.1 q.2.2.1 q.2.2.2.1 q.2.2.2.2.1 q.2.2.2.2.2)
def b_X11_reasonOfMove_a59 (S : HS) (x1 x2 x3 y0 : Int32) : Int32 × HS := if y0 = 0 then (1, S) else (b_X11_reasonOfMove_127 S x1 x2 x3)
def q_X11_reasonOfMove_a59 (S : HS) (x1 x2 x3 y0 : Int32) : Prop := (if y0 = 0 then True else (q_X11_reasonOfMove_127 S x1 x2 x3))
def b_X11_reasonOfMove_34 (S : HS) (x1 x2 y0 : Int32) : Int32 × HS := if y0 = 1 then if (S.1 6) ≤ 0 then (b_X11_reasonOfMove_127 S x1 x2 y0) else (1, S) else if 4 ≤ y0 then (lp_X11_reasonOfMove_70 100000 S x1 x2 y0 0 0) else (b_X11_reasonOfMove_a59 (f_X11_isAbout S y0).2 x1 x2 y0 (f_X11_isAbout S y0).1)
def q_X11_reasonOfMove_34 (S : HS) (x1 x2 y0 : Int32) : Prop := (if y0 = 1 then (if (S.1 6) ≤ 0 then (q_X11_reasonOfMove_127 S x1 x2 y0) else True) else (if 4 ≤ y0 then (lq_X11_reasonOfMove_70 100000 S x1 x2 y0 0 0) else (p_X11_isAbout S y0) ∧ (q_X11_reasonOfMove_a59 (f_X11_isAbout S y0).2 x1 x2 y0 (f_X11_isAbout S y0).1)))
def f_X11_reasonOfMove (S : HS) (x1 : Int32) : Int32 × HS := if (S.1 35) = 0 then (11, S) else if (S.1 36) = 0 then (b_X11_reasonOfMove_34 S x1 (S.2 32 (0 : Int32).toNatClampNeg) (S.2 14 (S.2 32 (0 : Int32).toNatClampNeg).toNatClampNeg)) else (b_X11_reasonOfMove_34 S x1 (S.2 32 (0 : Int32).toNatClampNeg) 1)
def p_X11_reasonOfMove (S : HS) (x1 : Int32) : Prop := (if (S.1 35) = 0 then True else (vp_in 0 9) ∧ (if (S.1 36) = 0 then (vp_in (S.2 32 (0 : Int32).toNatClampNeg) 90) ∧ (q_X11_reasonOfMove_34 S x1 (S.2 32 (0 : Int32).toNatClampNeg) (S.2 14 (S.2 32 (0 : Int32).toNatClampNeg).toNatClampNeg)) else (q_X11_reasonOfMove_34 S x1 (S.2 32 (0 : Int32).toNatClampNeg) 1)))
def e_X11_reasonOfMove : List Cond := [.fieldLink RX11 130 "MotionFloorModel$Hall" "drafted" "I", .fieldLink RX11 75 "MotionFloorModel$Hall" "draft" "[I", .fieldLink RX11 151 "MotionFloorModel$Hall" "draftTabled" "Z", .fieldLink RX11 22 "MotionFloorModel$Hall" "kind" "[I", .fieldLink RX11 115 "MotionFloorModel$Hall" "pending" "I", .fieldLink RX11 112 "MotionFloorModel$Hall" "floor" "I", .fieldLink RX11 100 "MotionFloorModel$Hall" "there" "I", .fieldLink RX11 106 "MotionFloorModel$Hall" "quorum" "I", .methodLink RX11 193 yX11_free, .instanceMethod yX11_free, .selects RX11 yX11_free yX11_free, .initialized RX11, .fieldLink RX11 37 "MotionFloorModel$Hall" "words" "[I", .methodLink RX11 155 yX11_top, .instanceMethod yX11_top, .selects RX11 yX11_top yX11_top, .fieldLink RX11 43 "MotionFloorModel$Hall" "to" "[I", .fieldLink RX11 40 "MotionFloorModel$Hall" "from" "[I", .fieldLink RX11 72 "MotionFloorModel$Hall" "row" "[I", .fieldLink RX11 58 "MotionFloorModel$Hall" "outside" "[Z", .fieldLink RX11 55 "MotionFloorModel$Hall" "laid" "[Z", .fieldLink RX11 49 "MotionFloorModel$Hall" "subject" "[I", .fieldLink RX11 46 "MotionFloorModel$Hall" "self" "[I", .methodLink RX11 159 yX11_hasSeconder, .instanceMethod yX11_hasSeconder, .selects RX11 yX11_hasSeconder yX11_hasSeconder, .methodLink RX11 184 yX11_isAbout, .instanceMethod yX11_isAbout, .selects RX11 yX11_isAbout yX11_isAbout]
def v_X11_reasonOfMove : List Cond := .code yX11_reasonOfMove cX11_reasonOfMove 7 (some .int) :: (e_X11_reasonOfMove ++ (wsX110 ++ (v_X11_free ++ (v_X11_top ++ (v_X11_hasSeconder ++ (v_X11_isAbout ++ []))))))
theorem te_X11_reasonOfMove : GoodIn lw_tbl e_X11_reasonOfMove := wGc z86 (wGc z84 (wGc z85 (wGc z78 (wGc z56 (wGc z118 (wGc z117 (wGc z116 (wGc z115 (wGc z114 (wGc z113 (wGc z51 (wGc z76 (wGc z91 (wGc z90 (wGc z89 (wGc z74 (wGc z75 (wGc z57 (wGc z71 (wGc z72 (wGc z73 (wGc z63 (wGc z112 (wGc z111 (wGc z110 (wGc z102 (wGc z101 (wGc z100 (wG0)))))))))))))))))))))))))))))
theorem t_X11_reasonOfMove : GoodIn lw_tbl v_X11_reasonOfMove := wGc z119 (wGa te_X11_reasonOfMove (wGa zcX11 (wGa t_X11_free (wGa t_X11_top (wGa t_X11_hasSeconder (wGa t_X11_isAbout (wG0)))))))
set_option maxHeartbeats 4000000 in
set_option maxRecDepth 100000 in
theorem c_X11_reasonOfMove (l : Launch) (G : va_G) (K : Nat → ClassId) (h : Nat) (g : Nat → Nat) (S0 : HS) (a1 : Int32) (sz : Nat) : Met l yX11_reasonOfMove v_X11_reasonOfMove ({ frames := 2, cells := 0, slots := 0, locals := 42 }) (va_Pc [.ref h, .int a1] (hS G K h g sz S0 (p_X11_reasonOfMove S0 a1))) (va_Qi (fun (r : Int32) (u : HS) => (r, u) = f_X11_reasonOfMove S0 a1) (hB G K h g (va_A (hW K h g S0) sz)) (va_A (hW K h g S0) sz)) 0 0 (va_A (hW K h g S0) sz) := by
  refine Met.ofW (cc := cX11_reasonOfMove) (maxL := 7) (ret := (some .int)) (by decide) rfl ?_
  intro p e s m args below meth c s₁ B hml hv
  obtain ⟨rfl, ⟨hsz, hP, hK, hD0, hTE⟩, hp⟩ := hv
  have hx := B.exec
  have hb := B.bytes
  have hr := B.returns
  have hts := atoms_spec (ws := v_X11_reasonOfMove) B.pre
  have t_ := t_X11_reasonOfMove
  have mw : ∀ w ∈ e_X11_reasonOfMove, w ∈ v_X11_reasonOfMove := fun w h => List.mem_cons_of_mem _ (List.mem_append_left _ h)
  have hw := fun w (h : w ∈ e_X11_reasonOfMove) => hts w (mw w h)
  have iX11 : ∀ w ∈ wsX110, w ∈ v_X11_reasonOfMove := fun w h => List.mem_cons_of_mem _ (List.mem_append_right _ (List.mem_append_left _ h))
  have j_X11_free : ∀ w ∈ v_X11_free, w ∈ v_X11_reasonOfMove := fun w h => List.mem_cons_of_mem _ (List.mem_append_right _ (List.mem_append_right _ (List.mem_append_left _ h)))
  have j_X11_top : ∀ w ∈ v_X11_top, w ∈ v_X11_reasonOfMove := fun w h => List.mem_cons_of_mem _ (List.mem_append_right _ (List.mem_append_right _ (List.mem_append_right _ (List.mem_append_left _ h))))
  have j_X11_hasSeconder : ∀ w ∈ v_X11_hasSeconder, w ∈ v_X11_reasonOfMove := fun w h => List.mem_cons_of_mem _ (List.mem_append_right _ (List.mem_append_right _ (List.mem_append_right _ (List.mem_append_right _ (List.mem_append_left _ h)))))
  have j_X11_isAbout : ∀ w ∈ v_X11_isAbout, w ∈ v_X11_reasonOfMove := fun w h => List.mem_cons_of_mem _ (List.mem_append_right _ (List.mem_append_right _ (List.mem_append_right _ (List.mem_append_right _ (List.mem_append_right _ (List.mem_append_left _ h))))))
  have hown : s.vm.findClass RX11 = some m.cls := findClass_of_methodNamed B.named
  have hlocks := B.notSynchronized
  subst hsz
  have hD := hD0.self (sz := s.heap.size)
  generalize hAe : va_A (hW K h g S0) s.heap.size = A at hD ⊢
  have hA : ∀ q : Nat, s.heap.size ≤ q → A q := fun q h => by rw [← hAe]; exact Or.inr h
  have hS : va_S A s.heap s.heap [] := va_S.rf
  have hl := lv_entry ([.ref h, .int a1]) (n := 7) (Nat.le_of_ble_eq_true rfl)
  rw [lg_entry_eq]
  generalize (lg_sl ([.ref h, .int a1]) ++ List.replicate (7 - (lg_sl ([.ref h, .int a1])).length) Slot.unset).toArray = ls at hl ⊢
  have hl : lv_has ls 7 [(0, .ref h), (1, .int a1)] := hl
  refine wGen (fun Q hQ => ?_)
  obtain ⟨X, hX⟩ : ∃ X, f_X11_reasonOfMove S0 a1 = X := ⟨_, rfl⟩
  have B_125 : ∀ (S : HS) (x1 x2 x3 x4 x5 : Int32) (H : Heap) (locs : List Loc) (ls : Array Slot), b_X11_reasonOfMove_125 S x1 x2 x3 x4 x5 = X → q_X11_reasonOfMove_125 S x1 x2 x3 x4 x5 → va_P G vwCl (hW K h g S) H → va_D A (hW K h g S) → va_S A s.heap H locs → lv_has ls 7 [(0, .ref h), (1, .int x1), (2, .int x2), (3, .int x3), (4, .int x4), (5, .int x5)] → W p l e ({ frames := 2, cells := 0, slots := 0, locals := 42 } : Room) s m #[Value.ref h, Value.int a1] below meth c H locs 0 0 Q (F0 m 125 ls []) := by
    intro S x1 x2 x3 x4 x5 H locs ls hE hp hP hD hS hl
    unfold b_X11_reasonOfMove_125 at hE
    unfold q_X11_reasonOfMove_125 at hp
    refine lv_iconst (v := 1) hx hb dX11_reasonOfMove_125 (by decide) ?_
    subst hQ
    exact W.iret (v := 1) hx hb hr (fun t ht hW => ⟨⟨1, S, rfl, hE.trans hX.symm, by rw [ht]; exact hP, hD⟩, hS.F ht⟩) hS.2.2 dX11_reasonOfMove_126
  have B_143 : ∀ (S : HS) (x1 x2 x3 : Int32) (H : Heap) (locs : List Loc) (ls : Array Slot), b_X11_reasonOfMove_143 S x1 x2 x3 = X → q_X11_reasonOfMove_143 S x1 x2 x3 → va_P G vwCl (hW K h g S) H → va_D A (hW K h g S) → va_S A s.heap H locs → lv_has ls 7 [(0, .ref h), (1, .int x1), (2, .int x2), (3, .int x3)] → W p l e ({ frames := 2, cells := 0, slots := 0, locals := 42 } : Room) s m #[Value.ref h, Value.int a1] below meth c H locs 0 0 Q (F0 m 143 ls []) := by
    intro S x1 x2 x3 H locs ls hE hp hP hD hS hl
    unfold b_X11_reasonOfMove_143 at hE
    unfold q_X11_reasonOfMove_143 at hp
    refine lv_iconst (v := 2) hx hb dX11_reasonOfMove_143 (by decide) ?_
    subst hQ
    exact W.iret (v := 2) hx hb hr (fun t ht hW => ⟨⟨2, S, rfl, hE.trans hX.symm, by rw [ht]; exact hP, hD⟩, hS.F ht⟩) hS.2.2 dX11_reasonOfMove_144
  have B_425 : ∀ (S : HS) (x1 x2 x3 x4 y0 : Int32) (H : Heap) (locs : List Loc) (ls : Array Slot), b_X11_reasonOfMove_425 S x1 x2 x3 x4 y0 = X → q_X11_reasonOfMove_425 S x1 x2 x3 x4 y0 → va_P G vwCl (hW K h g S) H → va_D A (hW K h g S) → va_S A s.heap H locs → lv_has ls 7 [(0, .ref h), (1, .int x1), (2, .int x2), (3, .int x3), (4, .int x4)] → W p l e ({ frames := 2, cells := 0, slots := 0, locals := 42 } : Room) s m #[Value.ref h, Value.int a1] below meth c H locs 0 0 Q (F0 m 425 ls [.int y0]) := by
    intro S x1 x2 x3 x4 y0 H locs ls hE hp hP hD hS hl
    unfold b_X11_reasonOfMove_425 at hE
    unfold q_X11_reasonOfMove_425 at hp
    subst hQ
    exact W.iret (v := y0) hx hb hr (fun t ht hW => ⟨⟨y0, S, rfl, hE.trans hX.symm, by rw [ht]; exact hP, hD⟩, hS.F ht⟩) hS.2.2 dX11_reasonOfMove_425
  have B_424 : ∀ (S : HS) (x1 x2 x3 x4 : Int32) (H : Heap) (locs : List Loc) (ls : Array Slot), b_X11_reasonOfMove_424 S x1 x2 x3 x4 = X → q_X11_reasonOfMove_424 S x1 x2 x3 x4 → va_P G vwCl (hW K h g S) H → va_D A (hW K h g S) → va_S A s.heap H locs → lv_has ls 7 [(0, .ref h), (1, .int x1), (2, .int x2), (3, .int x3), (4, .int x4)] → W p l e ({ frames := 2, cells := 0, slots := 0, locals := 42 } : Room) s m #[Value.ref h, Value.int a1] below meth c H locs 0 0 Q (F0 m 424 ls []) := by
    intro S x1 x2 x3 x4 H locs ls hE hp hP hD hS hl
    unfold b_X11_reasonOfMove_424 at hE
    unfold q_X11_reasonOfMove_424 at hp
    refine lv_iconst (v := 0) hx hb dX11_reasonOfMove_424 (by decide) ?_
    exact B_425 S x1 x2 x3 x4 0 _ _ _ hE hp hP hD hS (lv_sub hl [0, 1, 2, 3, 4] rfl)
  have B_411 : ∀ (S : HS) (x1 x2 x3 x4 : Int32) (H : Heap) (locs : List Loc) (ls : Array Slot), b_X11_reasonOfMove_411 S x1 x2 x3 x4 = X → q_X11_reasonOfMove_411 S x1 x2 x3 x4 → va_P G vwCl (hW K h g S) H → va_D A (hW K h g S) → va_S A s.heap H locs → lv_has ls 7 [(0, .ref h), (1, .int x1), (2, .int x2), (3, .int x3), (4, .int x4)] → W p l e ({ frames := 2, cells := 0, slots := 0, locals := 42 } : Room) s m #[Value.ref h, Value.int a1] below meth c H locs 0 0 Q (F0 m 411 ls []) := by
    intro S x1 x2 x3 x4 H locs ls hE hp hP hD hS hl
    unfold b_X11_reasonOfMove_411 at hE
    unfold q_X11_reasonOfMove_411 at hp
    refine lv_aload_n hx hb dX11_reasonOfMove_411 rfl (lv_at hl 0 rfl) ?_
    obtain ⟨hy20, hp⟩ := hp
    refine hGoi (va_runV (As := []) (rest := []) ⟨hx, hb, hml, hown, hts⟩ (c_X11_free l G K h g S _) (cwV 0 hts (wGV t_ (mw (.methodLink RX11 193 yX11_free) (List.mem_of_getElem? (i := 8) rfl)) (mw (.instanceMethod yX11_free) (List.mem_of_getElem? (i := 9) rfl)) (mw (.selects RX11 yX11_free yX11_free) (List.mem_of_getElem? (i := 10) rfl)) (mw (.initialized RX11) (List.mem_of_getElem? (i := 11) rfl)) j_X11_free) rfl rfl rfl (by decide +kernel) ⟨Nat.le_of_ble_eq_true rfl, Nat.le_of_ble_eq_true rfl⟩) (hPV hK hTE hP hD hy20) rfl rfl hl.1 rfl (lv_room (Nat.le_of_ble_eq_true rfl)) dX11_reasonOfMove_412 ⟨Nat.le_of_ble_eq_true rfl, Nat.le_of_ble_eq_true rfl⟩) hP hD hS hA (fun r22 u21 H locs hv hP hD hS => ?_)
    rw [← hv] at hE hp
    dsimp only at hE hp
    unfold b_X11_reasonOfMove_a415 at hE
    unfold q_X11_reasonOfMove_a415 at hp
    refine lv_iconst (v := (-1)) hx hb dX11_reasonOfMove_415 (by decide) ?_
    refine lv_icmp_ne (tgt := 424) hx hb dX11_reasonOfMove_416 (by decide) (fun c23 => ?_) (fun c23 => ?_)
    · rw [if_neg c23] at hE hp
      exact B_424 u21 x1 x2 x3 x4 _ _ _ hE hp hP hD hS (lv_sub hl [0, 1, 2, 3, 4] rfl)
    · rw [if_pos c23] at hE hp
      refine lv_bipush (v := 10) hx hb dX11_reasonOfMove_419 (by decide) ?_
      refine lv_goto (tgt := 425) hx hb dX11_reasonOfMove_421 (by decide) ?_
      exact B_425 u21 x1 x2 x3 x4 10 _ _ _ hE hp hP hD hS (lv_sub hl [0, 1, 2, 3, 4] rfl)
  have B_395 : ∀ (S : HS) (x1 x2 x3 x4 : Int32) (H : Heap) (locs : List Loc) (ls : Array Slot), b_X11_reasonOfMove_395 S x1 x2 x3 x4 = X → q_X11_reasonOfMove_395 S x1 x2 x3 x4 → va_P G vwCl (hW K h g S) H → va_D A (hW K h g S) → va_S A s.heap H locs → lv_has ls 7 [(0, .ref h), (1, .int x1), (2, .int x2), (3, .int x3), (4, .int x4)] → W p l e ({ frames := 2, cells := 0, slots := 0, locals := 42 } : Room) s m #[Value.ref h, Value.int a1] below meth c H locs 0 0 Q (F0 m 395 ls []) := by
    intro S x1 x2 x3 x4 H locs ls hE hp hP hD hS hl
    unfold b_X11_reasonOfMove_395 at hE
    unfold q_X11_reasonOfMove_395 at hp
    refine lv_iload_n hx hb dX11_reasonOfMove_395 rfl (lv_at hl 3 rfl) ?_
    refine lv_iconst (v := 4) hx hb dX11_reasonOfMove_396 (by decide) ?_
    refine lv_icmp_eq (tgt := 411) hx hb dX11_reasonOfMove_397 (by decide) (fun c19 => ?_) (fun c19 => ?_)
    · rw [if_pos c19] at hE hp
      exact B_411 S x1 x2 x3 x4 _ _ _ hE hp hP hD hS (lv_sub hl [0, 1, 2, 3, 4] rfl)
    · rw [if_neg c19] at hE hp
      refine lv_iload_n hx hb dX11_reasonOfMove_400 rfl (lv_at hl 3 rfl) ?_
      refine lv_iconst (v := 5) hx hb dX11_reasonOfMove_401 (by decide) ?_
      refine lv_icmp_eq (tgt := 411) hx hb dX11_reasonOfMove_402 (by decide) (fun c25 => ?_) (fun c25 => ?_)
      · rw [if_pos c25] at hE hp
        exact B_411 S x1 x2 x3 x4 _ _ _ hE hp hP hD hS (lv_sub hl [0, 1, 2, 3, 4] rfl)
      · rw [if_neg c25] at hE hp
        refine lv_iload_n hx hb dX11_reasonOfMove_405 rfl (lv_at hl 3 rfl) ?_
        refine lv_bipush (v := 7) hx hb dX11_reasonOfMove_406 (by decide) ?_
        refine lv_icmp_ne (tgt := 424) hx hb dX11_reasonOfMove_408 (by decide) (fun c26 => ?_) (fun c26 => ?_)
        · rw [if_neg c26] at hE hp
          exact B_424 S x1 x2 x3 x4 _ _ _ hE hp hP hD hS (lv_sub hl [0, 1, 2, 3, 4] rfl)
        · rw [if_pos c26] at hE hp
          exact B_411 S x1 x2 x3 x4 _ _ _ hE hp hP hD hS (lv_sub hl [0, 1, 2, 3, 4] rfl)
  have B_348 : ∀ (S : HS) (x1 x2 x3 x4 x5 y0 : Int32) (H : Heap) (locs : List Loc) (ls : Array Slot), b_X11_reasonOfMove_348 S x1 x2 x3 x4 x5 y0 = X → q_X11_reasonOfMove_348 S x1 x2 x3 x4 x5 y0 → va_P G vwCl (hW K h g S) H → va_D A (hW K h g S) → va_S A s.heap H locs → lv_has ls 7 [(0, .ref h), (1, .int x1), (2, .int x2), (3, .int x3), (4, .int x4), (5, .int x5)] → W p l e ({ frames := 2, cells := 0, slots := 0, locals := 42 } : Room) s m #[Value.ref h, Value.int a1] below meth c H locs 0 0 Q (F0 m 348 ls [.int y0]) := by
    intro S x1 x2 x3 x4 x5 y0 H locs ls hE hp hP hD hS hl
    unfold b_X11_reasonOfMove_348 at hE
    unfold q_X11_reasonOfMove_348 at hp
    refine lv_istore (lv' := [(6, .int y0), (0, .ref h), (1, .int x1), (2, .int x2), (3, .int x3), (4, .int x4), (5, .int x5)]) hx hb dX11_reasonOfMove_348 hl (by decide) rfl (fun ls hl => ?_)
    refine lv_iload hx hb dX11_reasonOfMove_350 (lv_at hl 0 rfl) ?_
    refine lv_iconst (v := (-1)) hx hb dX11_reasonOfMove_352 (by decide) ?_
    refine lv_icmp_eq (tgt := 395) hx hb dX11_reasonOfMove_353 (by decide) (fun c36 => ?_) (fun c36 => ?_)
    · rw [if_pos c36] at hE hp
      exact B_395 S x1 x2 x3 x4 _ _ _ hE hp hP hD hS (lv_sub hl [1, 2, 3, 4, 5] rfl)
    · rw [if_neg c36] at hE hp
      refine lv_aload_n hx hb dX11_reasonOfMove_356 rfl (lv_at hl 1 rfl) ?_
      refine va_get (D := G) (ci := 8) (v := .ref (g 19)) (C := RX11) (T := TX11) (N := 42) hx hb hts iX11 hown hK hP 0 rfl rfl 19 (by decide) (hw (.fieldLink RX11 37 "MotionFloorModel$Hall" "words" "[I") (List.mem_of_getElem? (i := 12) rfl)) (fun _ h9 => h9) rfl dX11_reasonOfMove_357 ?_
      refine lv_iload hx hb dX11_reasonOfMove_360 (lv_at hl 0 rfl) ?_
      obtain ⟨hy37, hp⟩ := hp
      refine va_iald hx hb hK hP 9 0 rfl rfl hy37 dX11_reasonOfMove_362 ?_
      refine lv_iload hx hb dX11_reasonOfMove_363 (lv_at hl 6 rfl) ?_
      refine lv_iadd hx hb dX11_reasonOfMove_365 ?_
      refine lv_aload_n hx hb dX11_reasonOfMove_366 rfl (lv_at hl 1 rfl) ?_
      refine va_get (D := G) (ci := 8) (v := .ref (g 21)) (C := RX11) (T := TX11) (N := 42) hx hb hts iX11 hown hK hP 0 rfl rfl 21 (by decide) (hw (.fieldLink RX11 43 "MotionFloorModel$Hall" "to" "[I") (List.mem_of_getElem? (i := 16) rfl)) (fun _ h9 => h9) rfl dX11_reasonOfMove_367 ?_
      refine lv_aload_n hx hb dX11_reasonOfMove_370 rfl (lv_at hl 1 rfl) ?_
      obtain ⟨hy38, hp⟩ := hp
      refine hGoi (va_runV (As := []) (rest := [.ref (g 21), .int ((S.2 19 y0.toNatClampNeg) + x5)]) ⟨hx, hb, hml, hown, hts⟩ (c_X11_top l G K h g S _) (cwV 0 hts (wGV t_ (mw (.methodLink RX11 155 yX11_top) (List.mem_of_getElem? (i := 13) rfl)) (mw (.instanceMethod yX11_top) (List.mem_of_getElem? (i := 14) rfl)) (mw (.selects RX11 yX11_top yX11_top) (List.mem_of_getElem? (i := 15) rfl)) (mw (.initialized RX11) (List.mem_of_getElem? (i := 11) rfl)) j_X11_top) rfl rfl rfl (by decide +kernel) ⟨Nat.le_of_ble_eq_true rfl, Nat.le_of_ble_eq_true rfl⟩) (hPV hK hTE hP hD hy38) rfl rfl hl.1 rfl (lv_room (Nat.le_of_ble_eq_true rfl)) dX11_reasonOfMove_371 ⟨Nat.le_of_ble_eq_true rfl, Nat.le_of_ble_eq_true rfl⟩) hP hD hS hA (fun r40 u39 H locs hv hP hD hS => ?_)
      rw [← hv] at hE hp
      dsimp only at hE hp
      unfold b_X11_reasonOfMove_a374 at hE
      unfold q_X11_reasonOfMove_a374 at hp
      obtain ⟨hy41, hp⟩ := hp
      refine va_iald hx hb hK hP 11 0 rfl rfl hy41 dX11_reasonOfMove_374 ?_
      refine lv_aload_n hx hb dX11_reasonOfMove_375 rfl (lv_at hl 1 rfl) ?_
      refine va_get (D := G) (ci := 8) (v := .ref (g 20)) (C := RX11) (T := TX11) (N := 42) hx hb hts iX11 hown hK hP 0 rfl rfl 20 (by decide) (hw (.fieldLink RX11 40 "MotionFloorModel$Hall" "from" "[I") (List.mem_of_getElem? (i := 17) rfl)) (fun _ h9 => h9) rfl dX11_reasonOfMove_376 ?_
      refine lv_aload_n hx hb dX11_reasonOfMove_379 rfl (lv_at hl 1 rfl) ?_
      obtain ⟨hy42, hp⟩ := hp
      refine hGoi (va_runV (As := []) (rest := [.ref (g 20), .int (u39.2 21 r40.toNatClampNeg), .int ((S.2 19 y0.toNatClampNeg) + x5)]) ⟨hx, hb, hml, hown, hts⟩ (c_X11_top l G K h g u39 _) (cwV 0 hts (wGV t_ (mw (.methodLink RX11 155 yX11_top) (List.mem_of_getElem? (i := 13) rfl)) (mw (.instanceMethod yX11_top) (List.mem_of_getElem? (i := 14) rfl)) (mw (.selects RX11 yX11_top yX11_top) (List.mem_of_getElem? (i := 15) rfl)) (mw (.initialized RX11) (List.mem_of_getElem? (i := 11) rfl)) j_X11_top) rfl rfl rfl (by decide +kernel) ⟨Nat.le_of_ble_eq_true rfl, Nat.le_of_ble_eq_true rfl⟩) (hPV hK hTE hP hD hy42) rfl rfl hl.1 rfl (lv_room (Nat.le_of_ble_eq_true rfl)) dX11_reasonOfMove_380 ⟨Nat.le_of_ble_eq_true rfl, Nat.le_of_ble_eq_true rfl⟩) hP hD hS hA (fun r44 u43 H locs hv hP hD hS => ?_)
      rw [← hv] at hE hp
      dsimp only at hE hp
      unfold b_X11_reasonOfMove_a383 at hE
      unfold q_X11_reasonOfMove_a383 at hp
      obtain ⟨hy45, hp⟩ := hp
      refine va_iald hx hb hK hP 10 0 rfl rfl hy45 dX11_reasonOfMove_383 ?_
      refine lv_isub hx hb dX11_reasonOfMove_384 ?_
      refine lv_isub hx hb dX11_reasonOfMove_385 ?_
      refine lv_sipush (v := 400) hx hb dX11_reasonOfMove_386 (by decide) ?_
      refine lv_icmp_le (tgt := 395) hx hb dX11_reasonOfMove_389 (by decide) (fun c46 => ?_) (fun c46 => ?_)
      · rw [if_pos c46] at hE hp
        exact B_395 u43 x1 x2 x3 x4 _ _ _ hE hp hP hD hS (lv_sub hl [1, 2, 3, 4, 5] rfl)
      · rw [if_neg c46] at hE hp
        refine lv_bipush (v := 10) hx hb dX11_reasonOfMove_392 (by decide) ?_
        subst hQ
        exact W.iret (v := 10) hx hb hr (fun t ht hW => ⟨⟨10, u43, rfl, hE.trans hX.symm, by rw [ht]; exact hP, hD⟩, hS.F ht⟩) hS.2.2 dX11_reasonOfMove_394
  have B_259 : ∀ (S : HS) (x1 x2 x3 x4 : Int32) (H : Heap) (locs : List Loc) (ls : Array Slot), b_X11_reasonOfMove_259 S x1 x2 x3 x4 = X → q_X11_reasonOfMove_259 S x1 x2 x3 x4 → va_P G vwCl (hW K h g S) H → va_D A (hW K h g S) → va_S A s.heap H locs → lv_has ls 7 [(0, .ref h), (1, .int x1), (2, .int x2), (3, .int x3), (4, .int x4)] → W p l e ({ frames := 2, cells := 0, slots := 0, locals := 42 } : Room) s m #[Value.ref h, Value.int a1] below meth c H locs 0 0 Q (F0 m 259 ls []) := by
    intro S x1 x2 x3 x4 H locs ls hE hp hP hD hS hl
    unfold b_X11_reasonOfMove_259 at hE
    unfold q_X11_reasonOfMove_259 at hp
    refine lv_aload_n hx hb dX11_reasonOfMove_259 rfl (lv_at hl 0 rfl) ?_
    refine va_get (D := G) (ci := 8) (v := .int (S.1 36)) (C := RX11) (T := TX11) (N := 42) hx hb hts iX11 hown hK hP 0 rfl rfl 36 (by decide) (hw (.fieldLink RX11 151 "MotionFloorModel$Hall" "draftTabled" "Z") (List.mem_of_getElem? (i := 2) rfl)) (fun _ h9 => h9) rfl dX11_reasonOfMove_260 ?_
    refine lv_if_eq (tgt := 268) hx hb dX11_reasonOfMove_263 (by decide) (fun c16 => ?_) (fun c16 => ?_)
    · rw [if_pos c16] at hE hp
      refine lv_aload_n hx hb dX11_reasonOfMove_268 rfl (lv_at hl 0 rfl) ?_
      refine va_get (D := G) (ci := 8) (v := .int (S.1 6)) (C := RX11) (T := TX11) (N := 42) hx hb hts iX11 hown hK hP 0 rfl rfl 6 (by decide) (hw (.fieldLink RX11 115 "MotionFloorModel$Hall" "pending" "I") (List.mem_of_getElem? (i := 4) rfl)) (fun _ h9 => h9) rfl dX11_reasonOfMove_269 ?_
      refine lv_bipush (v := 9) hx hb dX11_reasonOfMove_272 (by decide) ?_
      refine lv_icmp_ne (tgt := 280) hx hb dX11_reasonOfMove_274 (by decide) (fun c17 => ?_) (fun c17 => ?_)
      · rw [if_neg c17] at hE hp
        refine lv_iload hx hb dX11_reasonOfMove_280 (lv_at hl 4 rfl) ?_
        refine lv_if_eq (tgt := 395) hx hb dX11_reasonOfMove_282 (by decide) (fun c18 => ?_) (fun c18 => ?_)
        · rw [if_pos c18] at hE hp
          exact B_395 S x1 x2 x3 x4 _ _ _ hE hp hP hD hS (lv_sub hl [0, 1, 2, 3, 4] rfl)
        · rw [if_neg c18] at hE hp
          refine lv_aload_n hx hb dX11_reasonOfMove_285 rfl (lv_at hl 0 rfl) ?_
          refine va_get (D := G) (ci := 8) (v := .ref (g 19)) (C := RX11) (T := TX11) (N := 42) hx hb hts iX11 hown hK hP 0 rfl rfl 19 (by decide) (hw (.fieldLink RX11 37 "MotionFloorModel$Hall" "words" "[I") (List.mem_of_getElem? (i := 12) rfl)) (fun _ h9 => h9) rfl dX11_reasonOfMove_286 ?_
          refine lv_aload_n hx hb dX11_reasonOfMove_289 rfl (lv_at hl 0 rfl) ?_
          obtain ⟨hy27, hp⟩ := hp
          refine hGoi (va_runV (As := []) (rest := [.ref (g 19)]) ⟨hx, hb, hml, hown, hts⟩ (c_X11_top l G K h g S _) (cwV 0 hts (wGV t_ (mw (.methodLink RX11 155 yX11_top) (List.mem_of_getElem? (i := 13) rfl)) (mw (.instanceMethod yX11_top) (List.mem_of_getElem? (i := 14) rfl)) (mw (.selects RX11 yX11_top yX11_top) (List.mem_of_getElem? (i := 15) rfl)) (mw (.initialized RX11) (List.mem_of_getElem? (i := 11) rfl)) j_X11_top) rfl rfl rfl (by decide +kernel) ⟨Nat.le_of_ble_eq_true rfl, Nat.le_of_ble_eq_true rfl⟩) (hPV hK hTE hP hD hy27) rfl rfl hl.1 rfl (lv_room (Nat.le_of_ble_eq_true rfl)) dX11_reasonOfMove_290 ⟨Nat.le_of_ble_eq_true rfl, Nat.le_of_ble_eq_true rfl⟩) hP hD hS hA (fun r29 u28 H locs hv hP hD hS => ?_)
          rw [← hv] at hE hp
          dsimp only at hE hp
          unfold b_X11_reasonOfMove_a293 at hE
          unfold q_X11_reasonOfMove_a293 at hp
          obtain ⟨hy30, hp⟩ := hp
          refine va_iald hx hb hK hP 9 0 rfl rfl hy30 dX11_reasonOfMove_293 ?_
          refine lv_aload_n hx hb dX11_reasonOfMove_294 rfl (lv_at hl 0 rfl) ?_
          refine va_get (D := G) (ci := 8) (v := .ref (g 19)) (C := RX11) (T := TX11) (N := 42) hx hb hts iX11 hown hK hP 0 rfl rfl 19 (by decide) (hw (.fieldLink RX11 37 "MotionFloorModel$Hall" "words" "[I") (List.mem_of_getElem? (i := 12) rfl)) (fun _ h9 => h9) rfl dX11_reasonOfMove_295 ?_
          refine lv_iload_n hx hb dX11_reasonOfMove_298 rfl (lv_at hl 2 rfl) ?_
          obtain ⟨hy31, hp⟩ := hp
          refine va_iald hx hb hK hP 9 0 rfl rfl hy31 dX11_reasonOfMove_299 ?_
          refine lv_iadd hx hb dX11_reasonOfMove_300 ?_
          refine lv_aload_n hx hb dX11_reasonOfMove_301 rfl (lv_at hl 0 rfl) ?_
          refine va_get (D := G) (ci := 8) (v := .ref (g 21)) (C := RX11) (T := TX11) (N := 42) hx hb hts iX11 hown hK hP 0 rfl rfl 21 (by decide) (hw (.fieldLink RX11 43 "MotionFloorModel$Hall" "to" "[I") (List.mem_of_getElem? (i := 16) rfl)) (fun _ h9 => h9) rfl dX11_reasonOfMove_302 ?_
          refine lv_iload_n hx hb dX11_reasonOfMove_305 rfl (lv_at hl 2 rfl) ?_
          obtain ⟨hy32, hp⟩ := hp
          refine va_iald hx hb hK hP 11 0 rfl rfl hy32 dX11_reasonOfMove_306 ?_
          refine lv_aload_n hx hb dX11_reasonOfMove_307 rfl (lv_at hl 0 rfl) ?_
          refine va_get (D := G) (ci := 8) (v := .ref (g 20)) (C := RX11) (T := TX11) (N := 42) hx hb hts iX11 hown hK hP 0 rfl rfl 20 (by decide) (hw (.fieldLink RX11 40 "MotionFloorModel$Hall" "from" "[I") (List.mem_of_getElem? (i := 17) rfl)) (fun _ h9 => h9) rfl dX11_reasonOfMove_308 ?_
          refine lv_iload_n hx hb dX11_reasonOfMove_311 rfl (lv_at hl 2 rfl) ?_
          obtain ⟨hy33, hp⟩ := hp
          refine va_iald hx hb hK hP 10 0 rfl rfl hy33 dX11_reasonOfMove_312 ?_
          refine lv_isub hx hb dX11_reasonOfMove_313 ?_
          refine lv_isub hx hb dX11_reasonOfMove_314 ?_
          refine lv_istore (lv' := [(5, .int (((u28.2 19 r29.toNatClampNeg) + (u28.2 19 x2.toNatClampNeg)) - ((u28.2 21 x2.toNatClampNeg) - (u28.2 20 x2.toNatClampNeg)))), (0, .ref h), (1, .int x1), (2, .int x2), (3, .int x3), (4, .int x4)]) hx hb dX11_reasonOfMove_315 hl (by decide) rfl (fun ls hl => ?_)
          refine lv_iload hx hb dX11_reasonOfMove_317 (lv_at hl 0 rfl) ?_
          refine lv_sipush (v := 400) hx hb dX11_reasonOfMove_319 (by decide) ?_
          refine lv_icmp_le (tgt := 328) hx hb dX11_reasonOfMove_322 (by decide) (fun c34 => ?_) (fun c34 => ?_)
          · rw [if_pos c34] at hE hp
            refine lv_iload_n hx hb dX11_reasonOfMove_328 rfl (lv_at hl 4 rfl) ?_
            refine lv_iconst (v := 3) hx hb dX11_reasonOfMove_329 (by decide) ?_
            refine lv_icmp_ne (tgt := 347) hx hb dX11_reasonOfMove_330 (by decide) (fun c35 => ?_) (fun c35 => ?_)
            · rw [if_neg c35] at hE hp
              refine lv_iconst (v := (-1)) hx hb dX11_reasonOfMove_347 (by decide) ?_
              exact B_348 u28 x1 x2 x3 x4 (((u28.2 19 r29.toNatClampNeg) + (u28.2 19 x2.toNatClampNeg)) - ((u28.2 21 x2.toNatClampNeg) - (u28.2 20 x2.toNatClampNeg))) (-1) _ _ _ hE hp hP hD hS (lv_sub hl [1, 2, 3, 4, 5, 0] rfl)
            · rw [if_pos c35] at hE hp
              refine lv_aload_n hx hb dX11_reasonOfMove_333 rfl (lv_at hl 1 rfl) ?_
              refine va_get (D := G) (ci := 8) (v := .ref (g 31)) (C := RX11) (T := TX11) (N := 42) hx hb hts iX11 hown hK hP 0 rfl rfl 31 (by decide) (hw (.fieldLink RX11 72 "MotionFloorModel$Hall" "row" "[I") (List.mem_of_getElem? (i := 18) rfl)) (fun _ h9 => h9) rfl dX11_reasonOfMove_334 ?_
              refine lv_aload_n hx hb dX11_reasonOfMove_337 rfl (lv_at hl 1 rfl) ?_
              refine va_get (D := G) (ci := 8) (v := .int (u28.1 6)) (C := RX11) (T := TX11) (N := 42) hx hb hts iX11 hown hK hP 0 rfl rfl 6 (by decide) (hw (.fieldLink RX11 115 "MotionFloorModel$Hall" "pending" "I") (List.mem_of_getElem? (i := 4) rfl)) (fun _ h9 => h9) rfl dX11_reasonOfMove_338 ?_
              refine lv_iconst (v := 2) hx hb dX11_reasonOfMove_341 (by decide) ?_
              refine lv_isub hx hb dX11_reasonOfMove_342 ?_
              obtain ⟨hy55, hp⟩ := hp
              refine va_iald hx hb hK hP 20 0 rfl rfl hy55 dX11_reasonOfMove_343 ?_
              refine lv_goto (tgt := 348) hx hb dX11_reasonOfMove_344 (by decide) ?_
              exact B_348 u28 x1 x2 x3 x4 (((u28.2 19 r29.toNatClampNeg) + (u28.2 19 x2.toNatClampNeg)) - ((u28.2 21 x2.toNatClampNeg) - (u28.2 20 x2.toNatClampNeg))) (u28.2 31 ((u28.1 6) - 2).toNatClampNeg) _ _ _ hE hp hP hD hS (lv_sub hl [1, 2, 3, 4, 5, 0] rfl)
          · rw [if_neg c34] at hE hp
            refine lv_bipush (v := 10) hx hb dX11_reasonOfMove_325 (by decide) ?_
            subst hQ
            exact W.iret (v := 10) hx hb hr (fun t ht hW => ⟨⟨10, u28, rfl, hE.trans hX.symm, by rw [ht]; exact hP, hD⟩, hS.F ht⟩) hS.2.2 dX11_reasonOfMove_327
      · rw [if_pos c17] at hE hp
        refine lv_bipush (v := 10) hx hb dX11_reasonOfMove_277 (by decide) ?_
        subst hQ
        exact W.iret (v := 10) hx hb hr (fun t ht hW => ⟨⟨10, S, rfl, hE.trans hX.symm, by rw [ht]; exact hP, hD⟩, hS.F ht⟩) hS.2.2 dX11_reasonOfMove_279
    · rw [if_neg c16] at hE hp
      refine lv_iconst (v := 0) hx hb dX11_reasonOfMove_266 (by decide) ?_
      subst hQ
      exact W.iret (v := 0) hx hb hr (fun t ht hW => ⟨⟨0, S, rfl, hE.trans hX.symm, by rw [ht]; exact hP, hD⟩, hS.F ht⟩) hS.2.2 dX11_reasonOfMove_267
  have B_257 : ∀ (S : HS) (x1 x2 x3 x4 : Int32) (H : Heap) (locs : List Loc) (ls : Array Slot), b_X11_reasonOfMove_257 S x1 x2 x3 x4 = X → q_X11_reasonOfMove_257 S x1 x2 x3 x4 → va_P G vwCl (hW K h g S) H → va_D A (hW K h g S) → va_S A s.heap H locs → lv_has ls 7 [(0, .ref h), (1, .int x1), (2, .int x2), (3, .int x3), (4, .int x4)] → W p l e ({ frames := 2, cells := 0, slots := 0, locals := 42 } : Room) s m #[Value.ref h, Value.int a1] below meth c H locs 0 0 Q (F0 m 257 ls []) := by
    intro S x1 x2 x3 x4 H locs ls hE hp hP hD hS hl
    unfold b_X11_reasonOfMove_257 at hE
    unfold q_X11_reasonOfMove_257 at hp
    refine lv_iconst (v := 5) hx hb dX11_reasonOfMove_257 (by decide) ?_
    subst hQ
    exact W.iret (v := 5) hx hb hr (fun t ht hW => ⟨⟨5, S, rfl, hE.trans hX.symm, by rw [ht]; exact hP, hD⟩, hS.F ht⟩) hS.2.2 dX11_reasonOfMove_258
  have B_239 : ∀ (S : HS) (x1 x2 x3 x4 : Int32) (H : Heap) (locs : List Loc) (ls : Array Slot), b_X11_reasonOfMove_239 S x1 x2 x3 x4 = X → q_X11_reasonOfMove_239 S x1 x2 x3 x4 → va_P G vwCl (hW K h g S) H → va_D A (hW K h g S) → va_S A s.heap H locs → lv_has ls 7 [(0, .ref h), (1, .int x1), (2, .int x2), (3, .int x3), (4, .int x4)] → W p l e ({ frames := 2, cells := 0, slots := 0, locals := 42 } : Room) s m #[Value.ref h, Value.int a1] below meth c H locs 0 0 Q (F0 m 239 ls []) := by
    intro S x1 x2 x3 x4 H locs ls hE hp hP hD hS hl
    unfold b_X11_reasonOfMove_239 at hE
    unfold q_X11_reasonOfMove_239 at hp
    refine lv_aload_n hx hb dX11_reasonOfMove_239 rfl (lv_at hl 0 rfl) ?_
    refine va_get (D := G) (ci := 8) (v := .ref (g 21)) (C := RX11) (T := TX11) (N := 42) hx hb hts iX11 hown hK hP 0 rfl rfl 21 (by decide) (hw (.fieldLink RX11 43 "MotionFloorModel$Hall" "to" "[I") (List.mem_of_getElem? (i := 16) rfl)) (fun _ h9 => h9) rfl dX11_reasonOfMove_240 ?_
    refine lv_iload_n hx hb dX11_reasonOfMove_243 rfl (lv_at hl 2 rfl) ?_
    obtain ⟨hy67, hp⟩ := hp
    refine va_iald hx hb hK hP 11 0 rfl rfl hy67 dX11_reasonOfMove_244 ?_
    refine lv_aload_n hx hb dX11_reasonOfMove_245 rfl (lv_at hl 0 rfl) ?_
    refine va_get (D := G) (ci := 8) (v := .ref (g 19)) (C := RX11) (T := TX11) (N := 42) hx hb hts iX11 hown hK hP 0 rfl rfl 19 (by decide) (hw (.fieldLink RX11 37 "MotionFloorModel$Hall" "words" "[I") (List.mem_of_getElem? (i := 12) rfl)) (fun _ h9 => h9) rfl dX11_reasonOfMove_246 ?_
    refine lv_aload_n hx hb dX11_reasonOfMove_249 rfl (lv_at hl 0 rfl) ?_
    obtain ⟨hy68, hp⟩ := hp
    refine hGoi (va_runV (As := []) (rest := [.ref (g 19), .int (S.2 21 x2.toNatClampNeg)]) ⟨hx, hb, hml, hown, hts⟩ (c_X11_top l G K h g S _) (cwV 0 hts (wGV t_ (mw (.methodLink RX11 155 yX11_top) (List.mem_of_getElem? (i := 13) rfl)) (mw (.instanceMethod yX11_top) (List.mem_of_getElem? (i := 14) rfl)) (mw (.selects RX11 yX11_top yX11_top) (List.mem_of_getElem? (i := 15) rfl)) (mw (.initialized RX11) (List.mem_of_getElem? (i := 11) rfl)) j_X11_top) rfl rfl rfl (by decide +kernel) ⟨Nat.le_of_ble_eq_true rfl, Nat.le_of_ble_eq_true rfl⟩) (hPV hK hTE hP hD hy68) rfl rfl hl.1 rfl (lv_room (Nat.le_of_ble_eq_true rfl)) dX11_reasonOfMove_250 ⟨Nat.le_of_ble_eq_true rfl, Nat.le_of_ble_eq_true rfl⟩) hP hD hS hA (fun r70 u69 H locs hv hP hD hS => ?_)
    rw [← hv] at hE hp
    dsimp only at hE hp
    unfold b_X11_reasonOfMove_a253 at hE
    unfold q_X11_reasonOfMove_a253 at hp
    obtain ⟨hy71, hp⟩ := hp
    refine va_iald hx hb hK hP 9 0 rfl rfl hy71 dX11_reasonOfMove_253 ?_
    refine lv_icmp_le (tgt := 259) hx hb dX11_reasonOfMove_254 (by decide) (fun c72 => ?_) (fun c72 => ?_)
    · rw [if_pos c72] at hE hp
      exact B_259 u69 x1 x2 x3 x4 _ _ _ hE hp hP hD hS (lv_sub hl [0, 1, 2, 3, 4] rfl)
    · rw [if_neg c72] at hE hp
      exact B_257 u69 x1 x2 x3 x4 _ _ _ hE hp hP hD hS (lv_sub hl [0, 1, 2, 3, 4] rfl)
  have B_196 : ∀ (S : HS) (x1 x2 x3 y0 : Int32) (H : Heap) (locs : List Loc) (ls : Array Slot), b_X11_reasonOfMove_196 S x1 x2 x3 y0 = X → q_X11_reasonOfMove_196 S x1 x2 x3 y0 → va_P G vwCl (hW K h g S) H → va_D A (hW K h g S) → va_S A s.heap H locs → lv_has ls 7 [(0, .ref h), (1, .int x1), (2, .int x2), (3, .int x3)] → W p l e ({ frames := 2, cells := 0, slots := 0, locals := 42 } : Room) s m #[Value.ref h, Value.int a1] below meth c H locs 0 0 Q (F0 m 196 ls [.int y0]) := by
    intro S x1 x2 x3 y0 H locs ls hE hp hP hD hS hl
    unfold b_X11_reasonOfMove_196 at hE
    unfold q_X11_reasonOfMove_196 at hp
    refine lv_istore (lv' := [(4, .int y0), (0, .ref h), (1, .int x1), (2, .int x2), (3, .int x3)]) hx hb dX11_reasonOfMove_196 hl (by decide) rfl (fun ls hl => ?_)
    refine lv_iload hx hb dX11_reasonOfMove_198 (lv_at hl 0 rfl) ?_
    refine lv_if_eq (tgt := 259) hx hb dX11_reasonOfMove_200 (by decide) (fun c15 => ?_) (fun c15 => ?_)
    · rw [if_pos c15] at hE hp
      exact B_259 S x1 x2 x3 y0 _ _ _ hE hp hP hD hS (lv_sub hl [1, 2, 3, 4, 0] rfl)
    · rw [if_neg c15] at hE hp
      refine lv_aload_n hx hb dX11_reasonOfMove_203 rfl (lv_at hl 1 rfl) ?_
      refine va_get (D := G) (ci := 8) (v := .ref (g 26)) (C := RX11) (T := TX11) (N := 42) hx hb hts iX11 hown hK hP 0 rfl rfl 26 (by decide) (hw (.fieldLink RX11 58 "MotionFloorModel$Hall" "outside" "[Z") (List.mem_of_getElem? (i := 19) rfl)) (fun _ h9 => h9) rfl dX11_reasonOfMove_204 ?_
      refine lv_iload_n hx hb dX11_reasonOfMove_207 rfl (lv_at hl 3 rfl) ?_
      obtain ⟨hy63, hp⟩ := hp
      refine va_zald hx hb hK hP 16 1 rfl rfl hy63 dX11_reasonOfMove_208 ?_
      refine lv_if_ne (tgt := 257) hx hb dX11_reasonOfMove_209 (by decide) (fun c64 => ?_) (fun c64 => ?_)
      · rw [if_neg c64] at hE hp
        exact B_257 S x1 x2 x3 y0 _ _ _ hE hp hP hD hS (lv_sub hl [1, 2, 3, 4, 0] rfl)
      · rw [if_pos c64] at hE hp
        refine lv_aload_n hx hb dX11_reasonOfMove_212 rfl (lv_at hl 1 rfl) ?_
        refine va_get (D := G) (ci := 8) (v := .ref (g 25)) (C := RX11) (T := TX11) (N := 42) hx hb hts iX11 hown hK hP 0 rfl rfl 25 (by decide) (hw (.fieldLink RX11 55 "MotionFloorModel$Hall" "laid" "[Z") (List.mem_of_getElem? (i := 20) rfl)) (fun _ h9 => h9) rfl dX11_reasonOfMove_213 ?_
        refine lv_iload_n hx hb dX11_reasonOfMove_216 rfl (lv_at hl 3 rfl) ?_
        obtain ⟨hy65, hp⟩ := hp
        refine va_zald hx hb hK hP 15 1 rfl rfl hy65 dX11_reasonOfMove_217 ?_
        refine lv_if_eq (tgt := 239) hx hb dX11_reasonOfMove_218 (by decide) (fun c66 => ?_) (fun c66 => ?_)
        · rw [if_pos c66] at hE hp
          exact B_239 S x1 x2 x3 y0 _ _ _ hE hp hP hD hS (lv_sub hl [1, 2, 3, 4, 0] rfl)
        · rw [if_neg c66] at hE hp
          refine lv_aload_n hx hb dX11_reasonOfMove_221 rfl (lv_at hl 1 rfl) ?_
          refine va_get (D := G) (ci := 8) (v := .ref (g 23)) (C := RX11) (T := TX11) (N := 42) hx hb hts iX11 hown hK hP 0 rfl rfl 23 (by decide) (hw (.fieldLink RX11 49 "MotionFloorModel$Hall" "subject" "[I") (List.mem_of_getElem? (i := 21) rfl)) (fun _ h9 => h9) rfl dX11_reasonOfMove_222 ?_
          refine lv_iload_n hx hb dX11_reasonOfMove_225 rfl (lv_at hl 3 rfl) ?_
          obtain ⟨hy75, hp⟩ := hp
          refine va_iald hx hb hK hP 13 0 rfl rfl hy75 dX11_reasonOfMove_226 ?_
          refine lv_aload_n hx hb dX11_reasonOfMove_227 rfl (lv_at hl 1 rfl) ?_
          refine va_get (D := G) (ci := 8) (v := .ref (g 22)) (C := RX11) (T := TX11) (N := 42) hx hb hts iX11 hown hK hP 0 rfl rfl 22 (by decide) (hw (.fieldLink RX11 46 "MotionFloorModel$Hall" "self" "[I") (List.mem_of_getElem? (i := 22) rfl)) (fun _ h9 => h9) rfl dX11_reasonOfMove_228 ?_
          refine lv_aload_n hx hb dX11_reasonOfMove_231 rfl (lv_at hl 1 rfl) ?_
          obtain ⟨hy76, hp⟩ := hp
          refine hGoi (va_runV (As := []) (rest := [.ref (g 22), .int (S.2 23 x2.toNatClampNeg)]) ⟨hx, hb, hml, hown, hts⟩ (c_X11_top l G K h g S _) (cwV 0 hts (wGV t_ (mw (.methodLink RX11 155 yX11_top) (List.mem_of_getElem? (i := 13) rfl)) (mw (.instanceMethod yX11_top) (List.mem_of_getElem? (i := 14) rfl)) (mw (.selects RX11 yX11_top yX11_top) (List.mem_of_getElem? (i := 15) rfl)) (mw (.initialized RX11) (List.mem_of_getElem? (i := 11) rfl)) j_X11_top) rfl rfl rfl (by decide +kernel) ⟨Nat.le_of_ble_eq_true rfl, Nat.le_of_ble_eq_true rfl⟩) (hPV hK hTE hP hD hy76) rfl rfl hl.1 rfl (lv_room (Nat.le_of_ble_eq_true rfl)) dX11_reasonOfMove_232 ⟨Nat.le_of_ble_eq_true rfl, Nat.le_of_ble_eq_true rfl⟩) hP hD hS hA (fun r78 u77 H locs hv hP hD hS => ?_)
          rw [← hv] at hE hp
          dsimp only at hE hp
          unfold b_X11_reasonOfMove_a235 at hE
          unfold q_X11_reasonOfMove_a235 at hp
          obtain ⟨hy79, hp⟩ := hp
          refine va_iald hx hb hK hP 12 0 rfl rfl hy79 dX11_reasonOfMove_235 ?_
          refine lv_icmp_ne (tgt := 257) hx hb dX11_reasonOfMove_236 (by decide) (fun c80 => ?_) (fun c80 => ?_)
          · rw [if_neg c80] at hE hp
            exact B_257 u77 x1 x2 x3 y0 _ _ _ hE hp hP hD hS (lv_sub hl [1, 2, 3, 4, 0] rfl)
          · rw [if_pos c80] at hE hp
            exact B_239 u77 x1 x2 x3 y0 _ _ _ hE hp hP hD hS (lv_sub hl [1, 2, 3, 4, 0] rfl)
  have B_195 : ∀ (S : HS) (x1 x2 x3 : Int32) (H : Heap) (locs : List Loc) (ls : Array Slot), b_X11_reasonOfMove_195 S x1 x2 x3 = X → q_X11_reasonOfMove_195 S x1 x2 x3 → va_P G vwCl (hW K h g S) H → va_D A (hW K h g S) → va_S A s.heap H locs → lv_has ls 7 [(0, .ref h), (1, .int x1), (2, .int x2), (3, .int x3)] → W p l e ({ frames := 2, cells := 0, slots := 0, locals := 42 } : Room) s m #[Value.ref h, Value.int a1] below meth c H locs 0 0 Q (F0 m 195 ls []) := by
    intro S x1 x2 x3 H locs ls hE hp hP hD hS hl
    unfold b_X11_reasonOfMove_195 at hE
    unfold q_X11_reasonOfMove_195 at hp
    refine lv_iconst (v := 0) hx hb dX11_reasonOfMove_195 (by decide) ?_
    exact B_196 S x1 x2 x3 0 _ _ _ hE hp hP hD hS (lv_sub hl [0, 1, 2, 3] rfl)
  have B_191 : ∀ (S : HS) (x1 x2 x3 : Int32) (H : Heap) (locs : List Loc) (ls : Array Slot), b_X11_reasonOfMove_191 S x1 x2 x3 = X → q_X11_reasonOfMove_191 S x1 x2 x3 → va_P G vwCl (hW K h g S) H → va_D A (hW K h g S) → va_S A s.heap H locs → lv_has ls 7 [(0, .ref h), (1, .int x1), (2, .int x2), (3, .int x3)] → W p l e ({ frames := 2, cells := 0, slots := 0, locals := 42 } : Room) s m #[Value.ref h, Value.int a1] below meth c H locs 0 0 Q (F0 m 191 ls []) := by
    intro S x1 x2 x3 H locs ls hE hp hP hD hS hl
    unfold b_X11_reasonOfMove_191 at hE
    unfold q_X11_reasonOfMove_191 at hp
    refine lv_iconst (v := 1) hx hb dX11_reasonOfMove_191 (by decide) ?_
    refine lv_goto (tgt := 196) hx hb dX11_reasonOfMove_192 (by decide) ?_
    exact B_196 S x1 x2 x3 1 _ _ _ hE hp hP hD hS (lv_sub hl [0, 1, 2, 3] rfl)
  have B_161 : ∀ (S : HS) (x1 x2 x3 : Int32) (H : Heap) (locs : List Loc) (ls : Array Slot), b_X11_reasonOfMove_161 S x1 x2 x3 = X → q_X11_reasonOfMove_161 S x1 x2 x3 → va_P G vwCl (hW K h g S) H → va_D A (hW K h g S) → va_S A s.heap H locs → lv_has ls 7 [(0, .ref h), (1, .int x1), (2, .int x2), (3, .int x3)] → W p l e ({ frames := 2, cells := 0, slots := 0, locals := 42 } : Room) s m #[Value.ref h, Value.int a1] below meth c H locs 0 0 Q (F0 m 161 ls []) := by
    intro S x1 x2 x3 H locs ls hE hp hP hD hS hl
    unfold b_X11_reasonOfMove_161 at hE
    unfold q_X11_reasonOfMove_161 at hp
    refine lv_aload_n hx hb dX11_reasonOfMove_161 rfl (lv_at hl 0 rfl) ?_
    refine va_get (D := G) (ci := 8) (v := .int (S.1 1)) (C := RX11) (T := TX11) (N := 42) hx hb hts iX11 hown hK hP 0 rfl rfl 1 (by decide) (hw (.fieldLink RX11 100 "MotionFloorModel$Hall" "there" "I") (List.mem_of_getElem? (i := 6) rfl)) (fun _ h9 => h9) rfl dX11_reasonOfMove_162 ?_
    refine lv_aload_n hx hb dX11_reasonOfMove_165 rfl (lv_at hl 0 rfl) ?_
    refine va_get (D := G) (ci := 8) (v := .int (S.1 3)) (C := RX11) (T := TX11) (N := 42) hx hb hts iX11 hown hK hP 0 rfl rfl 3 (by decide) (hw (.fieldLink RX11 106 "MotionFloorModel$Hall" "quorum" "I") (List.mem_of_getElem? (i := 7) rfl)) (fun _ h9 => h9) rfl dX11_reasonOfMove_166 ?_
    refine lv_icmp_ge (tgt := 174) hx hb dX11_reasonOfMove_169 (by decide) (fun c13 => ?_) (fun c13 => ?_)
    · rw [if_pos c13] at hE hp
      refine lv_aload_n hx hb dX11_reasonOfMove_174 rfl (lv_at hl 0 rfl) ?_
      refine va_get (D := G) (ci := 8) (v := .int (S.1 36)) (C := RX11) (T := TX11) (N := 42) hx hb hts iX11 hown hK hP 0 rfl rfl 36 (by decide) (hw (.fieldLink RX11 151 "MotionFloorModel$Hall" "draftTabled" "Z") (List.mem_of_getElem? (i := 2) rfl)) (fun _ h9 => h9) rfl dX11_reasonOfMove_175 ?_
      refine lv_if_ne (tgt := 195) hx hb dX11_reasonOfMove_178 (by decide) (fun c14 => ?_) (fun c14 => ?_)
      · rw [if_neg c14] at hE hp
        exact B_195 S x1 x2 x3 _ _ _ hE hp hP hD hS (lv_sub hl [0, 1, 2, 3] rfl)
      · rw [if_pos c14] at hE hp
        refine lv_iload_n hx hb dX11_reasonOfMove_181 rfl (lv_at hl 3 rfl) ?_
        refine lv_iconst (v := 2) hx hb dX11_reasonOfMove_182 (by decide) ?_
        refine lv_icmp_eq (tgt := 191) hx hb dX11_reasonOfMove_183 (by decide) (fun c83 => ?_) (fun c83 => ?_)
        · rw [if_pos c83] at hE hp
          exact B_191 S x1 x2 x3 _ _ _ hE hp hP hD hS (lv_sub hl [0, 1, 2, 3] rfl)
        · rw [if_neg c83] at hE hp
          refine lv_iload_n hx hb dX11_reasonOfMove_186 rfl (lv_at hl 3 rfl) ?_
          refine lv_iconst (v := 3) hx hb dX11_reasonOfMove_187 (by decide) ?_
          refine lv_icmp_ne (tgt := 195) hx hb dX11_reasonOfMove_188 (by decide) (fun c84 => ?_) (fun c84 => ?_)
          · rw [if_neg c84] at hE hp
            exact B_195 S x1 x2 x3 _ _ _ hE hp hP hD hS (lv_sub hl [0, 1, 2, 3] rfl)
          · rw [if_pos c84] at hE hp
            exact B_191 S x1 x2 x3 _ _ _ hE hp hP hD hS (lv_sub hl [0, 1, 2, 3] rfl)
    · rw [if_neg c13] at hE hp
      refine lv_iconst (v := 4) hx hb dX11_reasonOfMove_172 (by decide) ?_
      subst hQ
      exact W.iret (v := 4) hx hb hr (fun t ht hW => ⟨⟨4, S, rfl, hE.trans hX.symm, by rw [ht]; exact hP, hD⟩, hS.F ht⟩) hS.2.2 dX11_reasonOfMove_173
  have B_127 : ∀ (S : HS) (x1 x2 x3 : Int32) (H : Heap) (locs : List Loc) (ls : Array Slot), b_X11_reasonOfMove_127 S x1 x2 x3 = X → q_X11_reasonOfMove_127 S x1 x2 x3 → va_P G vwCl (hW K h g S) H → va_D A (hW K h g S) → va_S A s.heap H locs → lv_has ls 7 [(0, .ref h), (1, .int x1), (2, .int x2), (3, .int x3)] → W p l e ({ frames := 2, cells := 0, slots := 0, locals := 42 } : Room) s m #[Value.ref h, Value.int a1] below meth c H locs 0 0 Q (F0 m 127 ls []) := by
    intro S x1 x2 x3 H locs ls hE hp hP hD hS hl
    unfold b_X11_reasonOfMove_127 at hE
    unfold q_X11_reasonOfMove_127 at hp
    refine lv_aload_n hx hb dX11_reasonOfMove_127 rfl (lv_at hl 0 rfl) ?_
    refine va_get (D := G) (ci := 8) (v := .int (S.1 5)) (C := RX11) (T := TX11) (N := 42) hx hb hts iX11 hown hK hP 0 rfl rfl 5 (by decide) (hw (.fieldLink RX11 112 "MotionFloorModel$Hall" "floor" "I") (List.mem_of_getElem? (i := 5) rfl)) (fun _ h9 => h9) rfl dX11_reasonOfMove_128 ?_
    refine lv_iconst (v := (-1)) hx hb dX11_reasonOfMove_131 (by decide) ?_
    refine lv_icmp_eq (tgt := 143) hx hb dX11_reasonOfMove_132 (by decide) (fun c10 => ?_) (fun c10 => ?_)
    · rw [if_pos c10] at hE hp
      exact B_143 S x1 x2 x3 _ _ _ hE hp hP hD hS (lv_sub hl [0, 1, 2, 3] rfl)
    · rw [if_neg c10] at hE hp
      refine lv_aload_n hx hb dX11_reasonOfMove_135 rfl (lv_at hl 0 rfl) ?_
      refine va_get (D := G) (ci := 8) (v := .int (S.1 5)) (C := RX11) (T := TX11) (N := 42) hx hb hts iX11 hown hK hP 0 rfl rfl 5 (by decide) (hw (.fieldLink RX11 112 "MotionFloorModel$Hall" "floor" "I") (List.mem_of_getElem? (i := 5) rfl)) (fun _ h9 => h9) rfl dX11_reasonOfMove_136 ?_
      refine lv_iload_n hx hb dX11_reasonOfMove_139 rfl (lv_at hl 1 rfl) ?_
      refine lv_icmp_eq (tgt := 145) hx hb dX11_reasonOfMove_140 (by decide) (fun c11 => ?_) (fun c11 => ?_)
      · rw [if_pos c11] at hE hp
        refine lv_aload_n hx hb dX11_reasonOfMove_145 rfl (lv_at hl 0 rfl) ?_
        refine va_get (D := G) (ci := 8) (v := .int (S.1 6)) (C := RX11) (T := TX11) (N := 42) hx hb hts iX11 hown hK hP 0 rfl rfl 6 (by decide) (hw (.fieldLink RX11 115 "MotionFloorModel$Hall" "pending" "I") (List.mem_of_getElem? (i := 4) rfl)) (fun _ h9 => h9) rfl dX11_reasonOfMove_146 ?_
        refine lv_if_le (tgt := 161) hx hb dX11_reasonOfMove_149 (by decide) (fun c12 => ?_) (fun c12 => ?_)
        · rw [if_pos c12] at hE hp
          exact B_161 S x1 x2 x3 _ _ _ hE hp hP hD hS (lv_sub hl [0, 1, 2, 3] rfl)
        · rw [if_neg c12] at hE hp
          refine lv_aload_n hx hb dX11_reasonOfMove_152 rfl (lv_at hl 0 rfl) ?_
          obtain ⟨hy85, hp⟩ := hp
          refine hGoi (va_runV (As := []) (rest := []) ⟨hx, hb, hml, hown, hts⟩ (c_X11_hasSeconder l G K h g S _) (cwV 0 hts (wGV t_ (mw (.methodLink RX11 159 yX11_hasSeconder) (List.mem_of_getElem? (i := 23) rfl)) (mw (.instanceMethod yX11_hasSeconder) (List.mem_of_getElem? (i := 24) rfl)) (mw (.selects RX11 yX11_hasSeconder yX11_hasSeconder) (List.mem_of_getElem? (i := 25) rfl)) (mw (.initialized RX11) (List.mem_of_getElem? (i := 11) rfl)) j_X11_hasSeconder) rfl rfl rfl (by decide +kernel) ⟨Nat.le_of_ble_eq_true rfl, Nat.le_of_ble_eq_true rfl⟩) (hPV hK hTE hP hD hy85) rfl rfl hl.1 rfl (lv_room (Nat.le_of_ble_eq_true rfl)) dX11_reasonOfMove_153 ⟨Nat.le_of_ble_eq_true rfl, Nat.le_of_ble_eq_true rfl⟩) hP hD hS hA (fun r87 u86 H locs hv hP hD hS => ?_)
          rw [← hv] at hE hp
          dsimp only at hE hp
          unfold b_X11_reasonOfMove_a156 at hE
          unfold q_X11_reasonOfMove_a156 at hp
          refine lv_if_ne (tgt := 161) hx hb dX11_reasonOfMove_156 (by decide) (fun c88 => ?_) (fun c88 => ?_)
          · rw [if_neg c88] at hE hp
            exact B_161 u86 x1 x2 x3 _ _ _ hE hp hP hD hS (lv_sub hl [0, 1, 2, 3] rfl)
          · rw [if_pos c88] at hE hp
            refine lv_iconst (v := 3) hx hb dX11_reasonOfMove_159 (by decide) ?_
            subst hQ
            exact W.iret (v := 3) hx hb hr (fun t ht hW => ⟨⟨3, u86, rfl, hE.trans hX.symm, by rw [ht]; exact hP, hD⟩, hS.F ht⟩) hS.2.2 dX11_reasonOfMove_160
      · rw [if_neg c11] at hE hp
        exact B_143 S x1 x2 x3 _ _ _ hE hp hP hD hS (lv_sub hl [0, 1, 2, 3] rfl)
  have L_70 : ∀ (n : Nat) (S : HS) (x1 x2 x3 x4 x5 : Int32) (H : Heap) (locs : List Loc) (ls : Array Slot), lp_X11_reasonOfMove_70 n S x1 x2 x3 x4 x5 = X → lq_X11_reasonOfMove_70 n S x1 x2 x3 x4 x5 → va_P G vwCl (hW K h g S) H → va_D A (hW K h g S) → va_S A s.heap H locs → lv_has ls 7 [(0, .ref h), (1, .int x1), (2, .int x2), (3, .int x3), (4, .int x4), (5, .int x5)] → W p l e ({ frames := 2, cells := 0, slots := 0, locals := 42 } : Room) s m #[Value.ref h, Value.int a1] below meth c H locs 0 0 Q (F0 m 70 ls []) := by
    intro n1
    induction n1 with
    | zero => intro S x1 x2 x3 x4 x5 H locs ls hE hp; exact False.elim hp
    | succ n1 ih1 =>
      intro S x1 x2 x3 x4 x5 H locs ls hO1 hp hP hD hS hl
      rw [lp_X11_reasonOfMove_70] at hO1
      rw [lq_X11_reasonOfMove_70] at hp
      obtain ⟨hp, hq1⟩ := hp
      generalize hE : st_X11_reasonOfMove_70 S x1 x2 x3 x4 x5 = Y1 at hO1 hq1
      unfold st_X11_reasonOfMove_70 at hE
      unfold ps_X11_reasonOfMove_70 at hp
      have B_105 : ∀ (S : HS) (x1 x2 x3 x4 x5 y0 : Int32) (H : Heap) (locs : List Loc) (ls : Array Slot), b_X11_reasonOfMove_105 S x1 x2 x3 x4 x5 y0 = Y1 → q_X11_reasonOfMove_105 S x1 x2 x3 x4 x5 y0 → va_P G vwCl (hW K h g S) H → va_D A (hW K h g S) → va_S A s.heap H locs → lv_has ls 7 [(0, .ref h), (1, .int x1), (2, .int x2), (3, .int x3), (4, .int x4), (5, .int x5)] → W p l e ({ frames := 2, cells := 0, slots := 0, locals := 42 } : Room) s m #[Value.ref h, Value.int a1] below meth c H locs 0 0 Q (F0 m 105 ls [.int y0]) := by
        intro S x1 x2 x3 x4 x5 y0 H locs ls hE hp hP hD hS hl
        unfold b_X11_reasonOfMove_105 at hE
        unfold q_X11_reasonOfMove_105 at hp
        refine lv_istore (lv' := [(4, .int y0), (0, .ref h), (1, .int x1), (2, .int x2), (3, .int x3), (5, .int x5)]) hx hb dX11_reasonOfMove_105 hl (by decide) rfl (fun ls hl => ?_)
        refine lv_iinc (v := (x5 + 1)) (lv' := [(5, .int (x5 + 1)), (4, .int y0), (0, .ref h), (1, .int x1), (2, .int x2), (3, .int x3)]) hx hb dX11_reasonOfMove_107 hl (k := 5) rfl rfl (by decide) rfl (fun ls hl => ?_)
        refine lv_goto (tgt := 70) hx hb dX11_reasonOfMove_110 (by decide) ?_
        subst hE
        dsimp only at hO1 hq1
        exact ih1 S x1 x2 x3 y0 (x5 + 1) _ _ _ hO1 hq1 hP hD hS (lv_sub hl [2, 3, 4, 5, 1, 0] rfl)
      have B_100 : ∀ (S : HS) (x1 x2 x3 x4 x5 : Int32) (H : Heap) (locs : List Loc) (ls : Array Slot), b_X11_reasonOfMove_100 S x1 x2 x3 x4 x5 = Y1 → q_X11_reasonOfMove_100 S x1 x2 x3 x4 x5 → va_P G vwCl (hW K h g S) H → va_D A (hW K h g S) → va_S A s.heap H locs → lv_has ls 7 [(0, .ref h), (1, .int x1), (2, .int x2), (3, .int x3), (4, .int x4), (5, .int x5)] → W p l e ({ frames := 2, cells := 0, slots := 0, locals := 42 } : Room) s m #[Value.ref h, Value.int a1] below meth c H locs 0 0 Q (F0 m 100 ls []) := by
        intro S x1 x2 x3 x4 x5 H locs ls hE hp hP hD hS hl
        unfold b_X11_reasonOfMove_100 at hE
        unfold q_X11_reasonOfMove_100 at hp
        refine lv_iconst (v := 1) hx hb dX11_reasonOfMove_100 (by decide) ?_
        refine lv_goto (tgt := 105) hx hb dX11_reasonOfMove_101 (by decide) ?_
        exact B_105 S x1 x2 x3 x4 x5 1 _ _ _ hE hp hP hD hS (lv_sub hl [0, 1, 2, 3, 4, 5] rfl)
      refine lv_iload hx hb dX11_reasonOfMove_70 (lv_at hl 5 rfl) ?_
      refine lv_aload_n hx hb dX11_reasonOfMove_72 rfl (lv_at hl 0 rfl) ?_
      refine va_get (D := G) (ci := 8) (v := .int (S.1 6)) (C := RX11) (T := TX11) (N := 42) hx hb hts iX11 hown hK hP 0 rfl rfl 6 (by decide) (hw (.fieldLink RX11 115 "MotionFloorModel$Hall" "pending" "I") (List.mem_of_getElem? (i := 4) rfl)) (fun _ h9 => h9) rfl dX11_reasonOfMove_73 ?_
      refine lv_icmp_ge (tgt := 113) hx hb dX11_reasonOfMove_76 (by decide) (fun c7 => ?_) (fun c7 => ?_)
      · rw [if_pos c7] at hE hp
        subst hE
        have hE := hO1
        dsimp only at hE
        refine lv_aload_n hx hb dX11_reasonOfMove_113 rfl (lv_at hl 0 rfl) ?_
        refine va_get (D := G) (ci := 8) (v := .int (S.1 6)) (C := RX11) (T := TX11) (N := 42) hx hb hts iX11 hown hK hP 0 rfl rfl 6 (by decide) (hw (.fieldLink RX11 115 "MotionFloorModel$Hall" "pending" "I") (List.mem_of_getElem? (i := 4) rfl)) (fun _ h9 => h9) rfl dX11_reasonOfMove_114 ?_
        refine lv_if_eq (tgt := 125) hx hb dX11_reasonOfMove_117 (by decide) (fun c8 => ?_) (fun c8 => ?_)
        · rw [if_pos c8] at hE hp
          exact B_125 S x1 x2 x3 x4 x5 _ _ _ hE hp hP hD hS (lv_sub hl [0, 1, 2, 3, 4, 5] rfl)
        · rw [if_neg c8] at hE hp
          refine lv_iload hx hb dX11_reasonOfMove_120 (lv_at hl 4 rfl) ?_
          refine lv_if_eq (tgt := 127) hx hb dX11_reasonOfMove_122 (by decide) (fun c9 => ?_) (fun c9 => ?_)
          · rw [if_pos c9] at hE hp
            exact B_127 S x1 x2 x3 _ _ _ hE hp hP hD hS (lv_sub hl [0, 1, 2, 3] rfl)
          · rw [if_neg c9] at hE hp
            exact B_125 S x1 x2 x3 x4 x5 _ _ _ hE hp hP hD hS (lv_sub hl [0, 1, 2, 3, 4, 5] rfl)
      · rw [if_neg c7] at hE hp
        refine lv_iload hx hb dX11_reasonOfMove_79 (lv_at hl 4 rfl) ?_
        refine lv_if_ne (tgt := 100) hx hb dX11_reasonOfMove_81 (by decide) (fun c90 => ?_) (fun c90 => ?_)
        · rw [if_neg c90] at hE hp
          exact B_100 S x1 x2 x3 x4 x5 _ _ _ hE hp hP hD hS (lv_sub hl [0, 1, 2, 3, 4, 5] rfl)
        · rw [if_pos c90] at hE hp
          refine lv_aload_n hx hb dX11_reasonOfMove_84 rfl (lv_at hl 0 rfl) ?_
          refine va_get (D := G) (ci := 8) (v := .ref (g 14)) (C := RX11) (T := TX11) (N := 42) hx hb hts iX11 hown hK hP 0 rfl rfl 14 (by decide) (hw (.fieldLink RX11 22 "MotionFloorModel$Hall" "kind" "[I") (List.mem_of_getElem? (i := 3) rfl)) (fun _ h9 => h9) rfl dX11_reasonOfMove_85 ?_
          refine lv_aload_n hx hb dX11_reasonOfMove_88 rfl (lv_at hl 0 rfl) ?_
          refine va_get (D := G) (ci := 8) (v := .ref (g 31)) (C := RX11) (T := TX11) (N := 42) hx hb hts iX11 hown hK hP 0 rfl rfl 31 (by decide) (hw (.fieldLink RX11 72 "MotionFloorModel$Hall" "row" "[I") (List.mem_of_getElem? (i := 18) rfl)) (fun _ h9 => h9) rfl dX11_reasonOfMove_89 ?_
          refine lv_iload hx hb dX11_reasonOfMove_92 (lv_at hl 5 rfl) ?_
          obtain ⟨hy91, hp⟩ := hp
          refine va_iald hx hb hK hP 20 0 rfl rfl hy91 dX11_reasonOfMove_94 ?_
          obtain ⟨hy92, hp⟩ := hp
          refine va_iald hx hb hK hP 4 0 rfl rfl hy92 dX11_reasonOfMove_95 ?_
          refine lv_iload_n hx hb dX11_reasonOfMove_96 rfl (lv_at hl 3 rfl) ?_
          refine lv_icmp_lt (tgt := 104) hx hb dX11_reasonOfMove_97 (by decide) (fun c93 => ?_) (fun c93 => ?_)
          · rw [if_pos c93] at hE hp
            refine lv_iconst (v := 0) hx hb dX11_reasonOfMove_104 (by decide) ?_
            exact B_105 S x1 x2 x3 x4 x5 0 _ _ _ hE hp hP hD hS (lv_sub hl [0, 1, 2, 3, 4, 5] rfl)
          · rw [if_neg c93] at hE hp
            exact B_100 S x1 x2 x3 x4 x5 _ _ _ hE hp hP hD hS (lv_sub hl [0, 1, 2, 3, 4, 5] rfl)
  have B_34 : ∀ (S : HS) (x1 x2 y0 : Int32) (H : Heap) (locs : List Loc) (ls : Array Slot), b_X11_reasonOfMove_34 S x1 x2 y0 = X → q_X11_reasonOfMove_34 S x1 x2 y0 → va_P G vwCl (hW K h g S) H → va_D A (hW K h g S) → va_S A s.heap H locs → lv_has ls 7 [(0, .ref h), (1, .int x1), (2, .int x2)] → W p l e ({ frames := 2, cells := 0, slots := 0, locals := 42 } : Room) s m #[Value.ref h, Value.int a1] below meth c H locs 0 0 Q (F0 m 34 ls [.int y0]) := by
    intro S x1 x2 y0 H locs ls hE hp hP hD hS hl
    unfold b_X11_reasonOfMove_34 at hE
    unfold q_X11_reasonOfMove_34 at hp
    refine lv_istore_n (lv' := [(3, .int y0), (0, .ref h), (1, .int x1), (2, .int x2)]) hx hb dX11_reasonOfMove_34 rfl hl (by decide) rfl (fun ls hl => ?_)
    refine lv_iload_n hx hb dX11_reasonOfMove_35 rfl (lv_at hl 0 rfl) ?_
    refine lv_iconst (v := 1) hx hb dX11_reasonOfMove_36 (by decide) ?_
    refine lv_icmp_ne (tgt := 49) hx hb dX11_reasonOfMove_37 (by decide) (fun c5 => ?_) (fun c5 => ?_)
    · rw [if_neg c5] at hE hp
      refine lv_iload_n hx hb dX11_reasonOfMove_49 rfl (lv_at hl 0 rfl) ?_
      refine lv_iconst (v := 4) hx hb dX11_reasonOfMove_50 (by decide) ?_
      refine lv_icmp_ge (tgt := 64) hx hb dX11_reasonOfMove_51 (by decide) (fun c6 => ?_) (fun c6 => ?_)
      · rw [if_pos c6] at hE hp
        refine lv_iconst (v := 0) hx hb dX11_reasonOfMove_64 (by decide) ?_
        refine lv_istore (lv' := [(4, .int 0), (3, .int y0), (0, .ref h), (1, .int x1), (2, .int x2)]) hx hb dX11_reasonOfMove_65 hl (by decide) rfl (fun ls hl => ?_)
        refine lv_iconst (v := 0) hx hb dX11_reasonOfMove_67 (by decide) ?_
        refine lv_istore (lv' := [(5, .int 0), (4, .int 0), (3, .int y0), (0, .ref h), (1, .int x1), (2, .int x2)]) hx hb dX11_reasonOfMove_68 hl (by decide) rfl (fun ls hl => ?_)
        exact L_70 100000 S x1 x2 y0 0 0 _ _ _ hE hp hP hD hS (lv_sub hl [3, 4, 5, 2, 1, 0] rfl)
      · rw [if_neg c6] at hE hp
        refine lv_aload_n hx hb dX11_reasonOfMove_54 rfl (lv_at hl 1 rfl) ?_
        refine lv_iload_n hx hb dX11_reasonOfMove_55 rfl (lv_at hl 0 rfl) ?_
        obtain ⟨hy94, hp⟩ := hp
        refine hGoi (va_runV (As := [.int y0]) (rest := []) ⟨hx, hb, hml, hown, hts⟩ (c_X11_isAbout l G K h g S y0 _) (cwV 1 hts (wGV t_ (mw (.methodLink RX11 184 yX11_isAbout) (List.mem_of_getElem? (i := 26) rfl)) (mw (.instanceMethod yX11_isAbout) (List.mem_of_getElem? (i := 27) rfl)) (mw (.selects RX11 yX11_isAbout yX11_isAbout) (List.mem_of_getElem? (i := 28) rfl)) (mw (.initialized RX11) (List.mem_of_getElem? (i := 11) rfl)) j_X11_isAbout) rfl rfl rfl (by decide +kernel) ⟨Nat.le_of_ble_eq_true rfl, Nat.le_of_ble_eq_true rfl⟩) (hPV hK hTE hP hD hy94) rfl rfl hl.1 rfl (lv_room (Nat.le_of_ble_eq_true rfl)) dX11_reasonOfMove_56 ⟨Nat.le_of_ble_eq_true rfl, Nat.le_of_ble_eq_true rfl⟩) hP hD hS hA (fun r96 u95 H locs hv hP hD hS => ?_)
        rw [← hv] at hE hp
        dsimp only at hE hp
        unfold b_X11_reasonOfMove_a59 at hE
        unfold q_X11_reasonOfMove_a59 at hp
        refine lv_if_ne (tgt := 127) hx hb dX11_reasonOfMove_59 (by decide) (fun c97 => ?_) (fun c97 => ?_)
        · rw [if_neg c97] at hE hp
          exact B_127 u95 x1 x2 y0 _ _ _ hE hp hP hD hS (lv_sub hl [1, 2, 3, 0] rfl)
        · rw [if_pos c97] at hE hp
          refine lv_iconst (v := 1) hx hb dX11_reasonOfMove_62 (by decide) ?_
          subst hQ
          exact W.iret (v := 1) hx hb hr (fun t ht hW => ⟨⟨1, u95, rfl, hE.trans hX.symm, by rw [ht]; exact hP, hD⟩, hS.F ht⟩) hS.2.2 dX11_reasonOfMove_63
    · rw [if_pos c5] at hE hp
      refine lv_aload_n hx hb dX11_reasonOfMove_40 rfl (lv_at hl 1 rfl) ?_
      refine va_get (D := G) (ci := 8) (v := .int (S.1 6)) (C := RX11) (T := TX11) (N := 42) hx hb hts iX11 hown hK hP 0 rfl rfl 6 (by decide) (hw (.fieldLink RX11 115 "MotionFloorModel$Hall" "pending" "I") (List.mem_of_getElem? (i := 4) rfl)) (fun _ h9 => h9) rfl dX11_reasonOfMove_41 ?_
      refine lv_if_le (tgt := 127) hx hb dX11_reasonOfMove_44 (by decide) (fun c99 => ?_) (fun c99 => ?_)
      · rw [if_pos c99] at hE hp
        exact B_127 S x1 x2 y0 _ _ _ hE hp hP hD hS (lv_sub hl [1, 2, 3, 0] rfl)
      · rw [if_neg c99] at hE hp
        refine lv_iconst (v := 1) hx hb dX11_reasonOfMove_47 (by decide) ?_
        subst hQ
        exact W.iret (v := 1) hx hb hr (fun t ht hW => ⟨⟨1, S, rfl, hE.trans hX.symm, by rw [ht]; exact hP, hD⟩, hS.F ht⟩) hS.2.2 dX11_reasonOfMove_48
  have B_M : ∀ (S : HS) (x1 : Int32) (H : Heap) (locs : List Loc) (ls : Array Slot), f_X11_reasonOfMove S x1 = X → p_X11_reasonOfMove S x1 → va_P G vwCl (hW K h g S) H → va_D A (hW K h g S) → va_S A s.heap H locs → lv_has ls 7 [(0, .ref h), (1, .int x1)] → W p l e ({ frames := 2, cells := 0, slots := 0, locals := 42 } : Room) s m #[Value.ref h, Value.int a1] below meth c H locs 0 0 Q (F0 m 0 ls []) := by
    intro S x1 H locs ls hE hp hP hD hS hl
    unfold f_X11_reasonOfMove at hE
    unfold p_X11_reasonOfMove at hp
    refine lv_aload_n hx hb dX11_reasonOfMove_0 rfl (lv_at hl 0 rfl) ?_
    refine va_get (D := G) (ci := 8) (v := .int (S.1 35)) (C := RX11) (T := TX11) (N := 42) hx hb hts iX11 hown hK hP 0 rfl rfl 35 (by decide) (hw (.fieldLink RX11 130 "MotionFloorModel$Hall" "drafted" "I") (List.mem_of_getElem? (i := 0) rfl)) (fun _ h9 => h9) rfl dX11_reasonOfMove_1 ?_
    refine lv_if_ne (tgt := 10) hx hb dX11_reasonOfMove_4 (by decide) (fun c1 => ?_) (fun c1 => ?_)
    · rw [if_neg c1] at hE hp
      refine lv_aload_n hx hb dX11_reasonOfMove_10 rfl (lv_at hl 0 rfl) ?_
      refine va_get (D := G) (ci := 8) (v := .ref (g 32)) (C := RX11) (T := TX11) (N := 42) hx hb hts iX11 hown hK hP 0 rfl rfl 32 (by decide) (hw (.fieldLink RX11 75 "MotionFloorModel$Hall" "draft" "[I") (List.mem_of_getElem? (i := 1) rfl)) (fun _ h9 => h9) rfl dX11_reasonOfMove_11 ?_
      refine lv_iconst (v := 0) hx hb dX11_reasonOfMove_14 (by decide) ?_
      obtain ⟨hy2, hp⟩ := hp
      refine va_iald hx hb hK hP 21 0 rfl rfl hy2 dX11_reasonOfMove_15 ?_
      refine lv_istore_n (lv' := [(2, .int (S.2 32 (0 : Int32).toNatClampNeg)), (0, .ref h), (1, .int x1)]) hx hb dX11_reasonOfMove_16 rfl hl (by decide) rfl (fun ls hl => ?_)
      refine lv_aload_n hx hb dX11_reasonOfMove_17 rfl (lv_at hl 1 rfl) ?_
      refine va_get (D := G) (ci := 8) (v := .int (S.1 36)) (C := RX11) (T := TX11) (N := 42) hx hb hts iX11 hown hK hP 0 rfl rfl 36 (by decide) (hw (.fieldLink RX11 151 "MotionFloorModel$Hall" "draftTabled" "Z") (List.mem_of_getElem? (i := 2) rfl)) (fun _ h9 => h9) rfl dX11_reasonOfMove_18 ?_
      refine lv_if_eq (tgt := 28) hx hb dX11_reasonOfMove_21 (by decide) (fun c3 => ?_) (fun c3 => ?_)
      · rw [if_pos c3] at hE hp
        refine lv_aload_n hx hb dX11_reasonOfMove_28 rfl (lv_at hl 1 rfl) ?_
        refine va_get (D := G) (ci := 8) (v := .ref (g 14)) (C := RX11) (T := TX11) (N := 42) hx hb hts iX11 hown hK hP 0 rfl rfl 14 (by decide) (hw (.fieldLink RX11 22 "MotionFloorModel$Hall" "kind" "[I") (List.mem_of_getElem? (i := 3) rfl)) (fun _ h9 => h9) rfl dX11_reasonOfMove_29 ?_
        refine lv_iload_n hx hb dX11_reasonOfMove_32 rfl (lv_at hl 0 rfl) ?_
        obtain ⟨hy4, hp⟩ := hp
        refine va_iald hx hb hK hP 4 0 rfl rfl hy4 dX11_reasonOfMove_33 ?_
        exact B_34 S x1 (S.2 32 (0 : Int32).toNatClampNeg) (S.2 14 (S.2 32 (0 : Int32).toNatClampNeg).toNatClampNeg) _ _ _ hE hp hP hD hS (lv_sub hl [1, 2, 0] rfl)
      · rw [if_neg c3] at hE hp
        refine lv_iconst (v := 1) hx hb dX11_reasonOfMove_24 (by decide) ?_
        refine lv_goto (tgt := 34) hx hb dX11_reasonOfMove_25 (by decide) ?_
        exact B_34 S x1 (S.2 32 (0 : Int32).toNatClampNeg) 1 _ _ _ hE hp hP hD hS (lv_sub hl [1, 2, 0] rfl)
    · rw [if_pos c1] at hE hp
      refine lv_bipush (v := 11) hx hb dX11_reasonOfMove_7 (by decide) ?_
      subst hQ
      exact W.iret (v := 11) hx hb hr (fun t ht hW => ⟨⟨11, S, rfl, hE.trans hX.symm, by rw [ht]; exact hP, hD⟩, hS.F ht⟩) hS.2.2 dX11_reasonOfMove_9
  exact B_M S0 a1 _ _ _ hX hp hP hD hS hl
