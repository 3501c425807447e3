def b_X11_carries_61 (S : HS) (x1 x2 x3 y0 : Int32) : Int32 × HS := (y0, S)
def q_X11_carries_61 (S : HS) (x1 x2 x3 y0 : Int32) : Prop := (narrow .boolean (.int y0) = .int y0) ∧ True
def b_X11_carries_42 (S : HS) (x1 x2 x3 : Int32) : Int32 × HS := (b_X11_carries_61 S x1 x2 x3 0)
def q_X11_carries_42 (S : HS) (x1 x2 x3 : Int32) : Prop := (q_X11_carries_61 S x1 x2 x3 0)
def f_X11_carries (S : HS) (x1 x2 x3 : Int32) : Int32 × HS := if x1 = 1 then if x2 ≤ x3 then (b_X11_carries_61 S x1 x2 x3 0) else (b_X11_carries_61 S x1 x2 x3 1) else if x1 = 2 then if x2 ≤ 0 then (b_X11_carries_42 S x1 x2 x3) else if (3 * x2) < (2 * (x2 + x3)) then (b_X11_carries_42 S x1 x2 x3) else (b_X11_carries_61 S x1 x2 x3 1) else if (2 * x2) ≤ (S.1 0) then (b_X11_carries_61 S x1 x2 x3 0) else (b_X11_carries_61 S x1 x2 x3 1)
def p_X11_carries (S : HS) (x1 x2 x3 : Int32) : Prop := (if x1 = 1 then (if x2 ≤ x3 then (q_X11_carries_61 S x1 x2 x3 0) else (q_X11_carries_61 S x1 x2 x3 1)) else (if x1 = 2 then (if x2 ≤ 0 then (q_X11_carries_42 S x1 x2 x3) else (if (3 * x2) < (2 * (x2 + x3)) then (q_X11_carries_42 S x1 x2 x3) else (q_X11_carries_61 S x1 x2 x3 1))) else (if (2 * x2) ≤ (S.1 0) then (q_X11_carries_61 S x1 x2 x3 0) else (q_X11_carries_61 S x1 x2 x3 1))))
def e_X11_carries : List Cond := [.fieldLink RX11 96 "MotionFloorModel$Hall" "seats" "I"]
def v_X11_carries : List Cond := .code yX11_carries cX11_carries 4 (some .boolean) :: (e_X11_carries ++ (wsX110 ++ []))
theorem te_X11_carries : GoodIn lw_tbl e_X11_carries := wGc z48 (wG0)
theorem t_X11_carries : GoodIn lw_tbl v_X11_carries := wGc z150 (wGa te_X11_carries (wGa zcX11 (wG0)))
set_option maxHeartbeats 4000000 in
set_option maxRecDepth 100000 in
theorem c_X11_carries (l : Launch) (G : va_G) (K : Nat → ClassId) (h : Nat) (g : Nat → Nat) (S0 : HS) (a1 a2 a3 : Int32) (sz : Nat) : Met l yX11_carries v_X11_carries ({ frames := 0, cells := 0, slots := 0, locals := 0 }) (va_Pc [.ref h, .int a1, .int a2, .int a3] (hS G K h g sz S0 (p_X11_carries S0 a1 a2 a3))) (va_Qi (fun (r : Int32) (u : HS) => (r, u) = f_X11_carries S0 a1 a2 a3) (hB G K h g (va_A (hW K h g S0) sz)) (va_A (hW K h g S0) sz)) 0 0 (va_A (hW K h g S0) sz) := by
  refine Met.ofW (cc := cX11_carries) (maxL := 4) (ret := (some .boolean)) (by decide) rfl ?_
  intro p e s m args below meth c s₁ B hml hv
  obtain ⟨rfl, ⟨hsz, hP, hK, hD0, hTE⟩, hp⟩ := hv
  have hx := B.exec
  have hb := B.bytes
  have hr := B.returns
  have hts := atoms_spec (ws := v_X11_carries) B.pre
  have t_ := t_X11_carries
  have mw : ∀ w ∈ e_X11_carries, w ∈ v_X11_carries := fun w h => List.mem_cons_of_mem _ (List.mem_append_left _ h)
  have hw := fun w (h : w ∈ e_X11_carries) => hts w (mw w h)
  have iX11 : ∀ w ∈ wsX110, w ∈ v_X11_carries := fun w h => List.mem_cons_of_mem _ (List.mem_append_right _ (List.mem_append_left _ h))
  have hown : s.vm.findClass RX11 = some m.cls := findClass_of_methodNamed B.named
  have hlocks := B.notSynchronized
  subst hsz
  have hD := hD0.self (sz := s.heap.size)
  generalize hAe : va_A (hW K h g S0) s.heap.size = A at hD ⊢
  have hA : ∀ q : Nat, s.heap.size ≤ q → A q := fun q h => by rw [← hAe]; exact Or.inr h
  have hS : va_S A s.heap s.heap [] := va_S.rf
  have hl := lv_entry ([.ref h, .int a1, .int a2, .int a3]) (n := 4) (Nat.le_of_ble_eq_true rfl)
  rw [lg_entry_eq]
  generalize (lg_sl ([.ref h, .int a1, .int a2, .int a3]) ++ List.replicate (4 - (lg_sl ([.ref h, .int a1, .int a2, .int a3])).length) Slot.unset).toArray = ls at hl ⊢
  have hl : lv_has ls 4 [(0, .ref h), (1, .int a1), (2, .int a2), (3, .int a3)] := hl
  refine wGen (fun Q hQ => ?_)
  obtain ⟨X, hX⟩ : ∃ X, f_X11_carries S0 a1 a2 a3 = X := ⟨_, rfl⟩
  have B_61 : ∀ (S : HS) (x1 x2 x3 y0 : Int32) (H : Heap) (locs : List Loc) (ls : Array Slot), b_X11_carries_61 S x1 x2 x3 y0 = X → q_X11_carries_61 S x1 x2 x3 y0 → va_P G vwCl (hW K h g S) H → va_D A (hW K h g S) → va_S A s.heap H locs → lv_has ls 4 [(0, .ref h), (1, .int x1), (2, .int x2), (3, .int x3)] → W p l e ({ frames := 0, cells := 0, slots := 0, locals := 0 } : Room) s m #[Value.ref h, Value.int a1, Value.int a2, Value.int a3] below meth c H locs 0 0 Q (F0 m 61 ls [.int y0]) := by
    intro S x1 x2 x3 y0 H locs ls hE hp hP hD hS hl
    unfold b_X11_carries_61 at hE
    unfold q_X11_carries_61 at hp
    obtain ⟨hy4, hp⟩ := hp
    subst hQ
    exact W.zret (v := y0) (ty := .boolean) hx hb hr hy4 (fun t ht hW => ⟨⟨y0, S, rfl, hE.trans hX.symm, by rw [ht]; exact hP, hD⟩, hS.F ht⟩) hS.2.2 dX11_carries_61
  have B_42 : ∀ (S : HS) (x1 x2 x3 : Int32) (H : Heap) (locs : List Loc) (ls : Array Slot), b_X11_carries_42 S x1 x2 x3 = X → q_X11_carries_42 S x1 x2 x3 → va_P G vwCl (hW K h g S) H → va_D A (hW K h g S) → va_S A s.heap H locs → lv_has ls 4 [(0, .ref h), (1, .int x1), (2, .int x2), (3, .int x3)] → W p l e ({ frames := 0, cells := 0, slots := 0, locals := 0 } : Room) s m #[Value.ref h, Value.int a1, Value.int a2, Value.int a3] below meth c H locs 0 0 Q (F0 m 42 ls []) := by
    intro S x1 x2 x3 H locs ls hE hp hP hD hS hl
    unfold b_X11_carries_42 at hE
    unfold q_X11_carries_42 at hp
    refine lv_iconst (v := 0) hx hb dX11_carries_42 (by decide) ?_
    refine lv_goto (tgt := 61) hx hb dX11_carries_43 (by decide) ?_
    exact B_61 S x1 x2 x3 0 _ _ _ hE hp hP hD hS (lv_sub hl [0, 1, 2, 3] rfl)
  have B_M : ∀ (S : HS) (x1 x2 x3 : Int32) (H : Heap) (locs : List Loc) (ls : Array Slot), f_X11_carries S x1 x2 x3 = X → p_X11_carries S x1 x2 x3 → va_P G vwCl (hW K h g S) H → va_D A (hW K h g S) → va_S A s.heap H locs → lv_has ls 4 [(0, .ref h), (1, .int x1), (2, .int x2), (3, .int x3)] → W p l e ({ frames := 0, cells := 0, slots := 0, locals := 0 } : Room) s m #[Value.ref h, Value.int a1, Value.int a2, Value.int a3] below meth c H locs 0 0 Q (F0 m 0 ls []) := by
    intro S x1 x2 x3 H locs ls hE hp hP hD hS hl
    unfold f_X11_carries at hE
    unfold p_X11_carries at hp
    refine lv_iload_n hx hb dX11_carries_0 rfl (lv_at hl 1 rfl) ?_
    refine lv_iconst (v := 1) hx hb dX11_carries_1 (by decide) ?_
    refine lv_icmp_ne (tgt := 18) hx hb dX11_carries_2 (by decide) (fun c1 => ?_) (fun c1 => ?_)
    · rw [if_neg c1] at hE hp
      refine lv_iload_n hx hb dX11_carries_18 rfl (lv_at hl 1 rfl) ?_
      refine lv_iconst (v := 2) hx hb dX11_carries_19 (by decide) ?_
      refine lv_icmp_ne (tgt := 46) hx hb dX11_carries_20 (by decide) (fun c2 => ?_) (fun c2 => ?_)
      · rw [if_neg c2] at hE hp
        refine lv_iconst (v := 2) hx hb dX11_carries_46 (by decide) ?_
        refine lv_iload_n hx hb dX11_carries_47 rfl (lv_at hl 2 rfl) ?_
        refine lv_imul hx hb dX11_carries_48 ?_
        refine lv_aload_n hx hb dX11_carries_49 rfl (lv_at hl 0 rfl) ?_
        refine va_get (D := G) (ci := 8) (v := .int (S.1 0)) (C := RX11) (T := TX11) (N := 42) hx hb hts iX11 hown hK hP 0 rfl rfl 0 (by decide) (hw (.fieldLink RX11 96 "MotionFloorModel$Hall" "seats" "I") (List.mem_of_getElem? (i := 0) rfl)) (fun _ h9 => h9) rfl dX11_carries_50 ?_
        refine lv_icmp_le (tgt := 60) hx hb dX11_carries_53 (by decide) (fun c3 => ?_) (fun c3 => ?_)
        · rw [if_pos c3] at hE hp
          refine lv_iconst (v := 0) hx hb dX11_carries_60 (by decide) ?_
          exact B_61 S x1 x2 x3 0 _ _ _ hE hp hP hD hS (lv_sub hl [0, 1, 2, 3] rfl)
        · rw [if_neg c3] at hE hp
          refine lv_iconst (v := 1) hx hb dX11_carries_56 (by decide) ?_
          refine lv_goto (tgt := 61) hx hb dX11_carries_57 (by decide) ?_
          exact B_61 S x1 x2 x3 1 _ _ _ hE hp hP hD hS (lv_sub hl [0, 1, 2, 3] rfl)
      · rw [if_pos c2] at hE hp
        refine lv_iload_n hx hb dX11_carries_23 rfl (lv_at hl 2 rfl) ?_
        refine lv_if_le (tgt := 42) hx hb dX11_carries_24 (by decide) (fun c5 => ?_) (fun c5 => ?_)
        · rw [if_pos c5] at hE hp
          exact B_42 S x1 x2 x3 _ _ _ hE hp hP hD hS (lv_sub hl [0, 1, 2, 3] rfl)
        · rw [if_neg c5] at hE hp
          refine lv_iconst (v := 3) hx hb dX11_carries_27 (by decide) ?_
          refine lv_iload_n hx hb dX11_carries_28 rfl (lv_at hl 2 rfl) ?_
          refine lv_imul hx hb dX11_carries_29 ?_
          refine lv_iconst (v := 2) hx hb dX11_carries_30 (by decide) ?_
          refine lv_iload_n hx hb dX11_carries_31 rfl (lv_at hl 2 rfl) ?_
          refine lv_iload_n hx hb dX11_carries_32 rfl (lv_at hl 3 rfl) ?_
          refine lv_iadd hx hb dX11_carries_33 ?_
          refine lv_imul hx hb dX11_carries_34 ?_
          refine lv_icmp_lt (tgt := 42) hx hb dX11_carries_35 (by decide) (fun c6 => ?_) (fun c6 => ?_)
          · rw [if_pos c6] at hE hp
            exact B_42 S x1 x2 x3 _ _ _ hE hp hP hD hS (lv_sub hl [0, 1, 2, 3] rfl)
          · rw [if_neg c6] at hE hp
            refine lv_iconst (v := 1) hx hb dX11_carries_38 (by decide) ?_
            refine lv_goto (tgt := 61) hx hb dX11_carries_39 (by decide) ?_
            exact B_61 S x1 x2 x3 1 _ _ _ hE hp hP hD hS (lv_sub hl [0, 1, 2, 3] rfl)
    · rw [if_pos c1] at hE hp
      refine lv_iload_n hx hb dX11_carries_5 rfl (lv_at hl 2 rfl) ?_
      refine lv_iload_n hx hb dX11_carries_6 rfl (lv_at hl 3 rfl) ?_
      refine lv_icmp_le (tgt := 14) hx hb dX11_carries_7 (by decide) (fun c7 => ?_) (fun c7 => ?_)
      · rw [if_pos c7] at hE hp
        refine lv_iconst (v := 0) hx hb dX11_carries_14 (by decide) ?_
        refine lv_goto (tgt := 61) hx hb dX11_carries_15 (by decide) ?_
        exact B_61 S x1 x2 x3 0 _ _ _ hE hp hP hD hS (lv_sub hl [0, 1, 2, 3] rfl)
      · rw [if_neg c7] at hE hp
        refine lv_iconst (v := 1) hx hb dX11_carries_10 (by decide) ?_
        refine lv_goto (tgt := 61) hx hb dX11_carries_11 (by decide) ?_
        exact B_61 S x1 x2 x3 1 _ _ _ hE hp hP hD hS (lv_sub hl [0, 1, 2, 3] rfl)
  exact B_M S0 a1 a2 a3 _ _ _ hX hp hP hD hS hl
def b_X11_carried_373 (S : HS) (x1 x2 : Int32) : Int32 × HS := (0, S)
def q_X11_carried_373 (S : HS) (x1 x2 : Int32) : Prop := True
def b_X11_carried_a108 (S : HS) (x1 x2 x3 : Int32) : Int32 × HS := (b_X11_carried_373 S x1 x2)
def q_X11_carried_a108 (S : HS) (x1 x2 x3 : Int32) : Prop := (q_X11_carried_373 S x1 x2)
def st_X11_carried_70 (S : HS) (x1 x2 x3 : Int32) : (Int32 × HS) ⊕ (HS × Int32 × Int32 × Int32) := if (S.2 19 x1.toNatClampNeg) ≤ x3 then Sum.inl ((b_X11_carried_a108 (f_X11_goes S ).2 x1 x2 x3)) else Sum.inr ((sA S 38 x3.toNatClampNeg (S.2 28 ((400 * x1) + x3).toNatClampNeg)), x1, x2, (x3 + 1))
def ps_X11_carried_70 (S : HS) (x1 x2 x3 : Int32) : Prop := (vp_in x1 90) ∧ (if (S.2 19 x1.toNatClampNeg) ≤ x3 then (p_X11_goes S ) ∧ (q_X11_carried_a108 (f_X11_goes S ).2 x1 x2 x3) else (vp_in ((400 * x1) + x3) 36000) ∧ (vp_in x3 400) ∧ True)
def lp_X11_carried_70 : Nat → HS → Int32 → Int32 → Int32 → Int32 × HS
  | 0, S, _, _, _ => (0, S)
  | n + 1, S, x1, x2, x3 => match st_X11_carried_70 S x1 x2 x3 with
    | Sum.inl r => r
    | Sum.inr q => lp_X11_carried_70 n q.1 q.2.1 q.2.2.1 q.2.2.2
def lq_X11_carried_70 : Nat → HS → Int32 → Int32 → Int32 → Prop
  | 0, _, _, _, _ => False
  | n + 1, S, x1, x2, x3 => ps_X11_carried_70 S x1 x2 x3 ∧ (match st_X11_carried_70 S x1 x2 x3 with
    | Sum.inl _ => True
    | Sum.inr q => lq_X11_carried_70 n q.1 q.2.1 q.2.2.1 q.2.2.2)
def b_X11_carried_a131 (S : HS) (x1 x2 : Int32) : Int32 × HS := (b_X11_carried_373 S x1 x2)
def q_X11_carried_a131 (S : HS) (x1 x2 : Int32) : Prop := (q_X11_carried_373 S x1 x2)
def b_X11_carried_a127 (S : HS) (x1 x2 : Int32) : Int32 × HS := (b_X11_carried_a131 (f_X11_goes S ).2 x1 x2)
def q_X11_carried_a127 (S : HS) (x1 x2 : Int32) : Prop := (p_X11_goes S ) ∧ (q_X11_carried_a131 (f_X11_goes S ).2 x1 x2)
def b_X11_carried_111 (S : HS) (x1 x2 : Int32) : Int32 × HS := (b_X11_carried_a127 (f_X11_change S (S.2 31 ((S.1 6) - 2).toNatClampNeg) x1).2 x1 x2)
def q_X11_carried_111 (S : HS) (x1 x2 : Int32) : Prop := (vp_in ((S.1 6) - 2) 9) ∧ (p_X11_change S (S.2 31 ((S.1 6) - 2).toNatClampNeg) x1) ∧ (q_X11_carried_a127 (f_X11_change S (S.2 31 ((S.1 6) - 2).toNatClampNeg) x1).2 x1 x2)
def b_X11_carried_a146 (S : HS) (x1 x2 y0 : Int32) : Int32 × HS := (b_X11_carried_373 (sA S 24 y0.toNatClampNeg (vp_nar .boolean 1)) x1 x2)
def q_X11_carried_a146 (S : HS) (x1 x2 y0 : Int32) : Prop := (vp_in y0 90) ∧ (q_X11_carried_373 (sA S 24 y0.toNatClampNeg (vp_nar .boolean 1)) x1 x2)
def b_X11_carried_a138 (S : HS) (x1 x2 : Int32) : Int32 × HS := (b_X11_carried_a146 (f_X11_top S ).2 x1 x2 (f_X11_top S ).1)
def q_X11_carried_a138 (S : HS) (x1 x2 : Int32) : Prop := (p_X11_top S ) ∧ (q_X11_carried_a146 (f_X11_top S ).2 x1 x2 (f_X11_top S ).1)
def st_X11_carried_198 (S : HS) (x1 x2 x3 x4 : Int32) : (Int32 × HS) ⊕ (HS × Int32 × Int32 × Int32 × Int32) := if (S.1 6) ≤ x4 then Sum.inl ((b_X11_carried_373 (sI (sA (sA S 34 x3.toNatClampNeg (S.1 6)) 37 x3.toNatClampNeg (vp_nar .boolean 1)) 6 0) x1 x2)) else Sum.inr ((sA S 33 ((9 * x3) + x4).toNatClampNeg (S.2 31 x4.toNatClampNeg)), x1, x2, x3, (x4 + 1))
def ps_X11_carried_198 (S : HS) (x1 x2 x3 x4 : Int32) : Prop := (if (S.1 6) ≤ x4 then (vp_in x3 8) ∧ (vp_in x3 8) ∧ (q_X11_carried_373 (sI (sA (sA S 34 x3.toNatClampNeg (S.1 6)) 37 x3.toNatClampNeg (vp_nar .boolean 1)) 6 0) x1 x2) else (vp_in x4 9) ∧ (vp_in ((9 * x3) + x4) 72) ∧ True)
def lp_X11_carried_198 : Nat → HS → Int32 → Int32 → Int32 → Int32 → Int32 × HS
  | 0, S, _, _, _, _ => (0, S)
  | n + 1, S, x1, x2, x3, x4 => match st_X11_carried_198 S x1 x2 x3 x4 with
    | Sum.inl r => r
    | Sum.inr q => lp_X11_carried_198 n q.1 q.2.1 q.2.2.1 q.2.2.2.1 q.2.2.2.2
def lq_X11_carried_198 : Nat → HS → Int32 → Int32 → Int32 → Int32 → Prop
  | 0, _, _, _, _, _ => False
  | n + 1, S, x1, x2, x3, x4 => ps_X11_carried_198 S x1 x2 x3 x4 ∧ (match st_X11_carried_198 S x1 x2 x3 x4 with
    | Sum.inl _ => True
    | Sum.inr q => lq_X11_carried_198 n q.1 q.2.1 q.2.2.1 q.2.2.2.1 q.2.2.2.2)
def b_X11_carried_a194 (S : HS) (x1 x2 y0 : Int32) : Int32 × HS := (lp_X11_carried_198 100000 S x1 x2 y0 0)
def q_X11_carried_a194 (S : HS) (x1 x2 y0 : Int32) : Prop := (lq_X11_carried_198 100000 S x1 x2 y0 0)
def b_X11_carried_a190 (S : HS) (x1 x2 : Int32) : Int32 × HS := (b_X11_carried_a194 (f_X11_free S ).2 x1 x2 (f_X11_free S ).1)
def q_X11_carried_a190 (S : HS) (x1 x2 : Int32) : Prop := (p_X11_free S ) ∧ (q_X11_carried_a194 (f_X11_free S ).2 x1 x2 (f_X11_free S ).1)
def st_X11_carried_157 (S : HS) (x1 x2 x3 : Int32) : (Int32 × HS) ⊕ (HS × Int32 × Int32 × Int32) := if (S.1 0) ≤ x3 then Sum.inl ((b_X11_carried_373 (sI S 1 0) x1 x2)) else Sum.inr ((sA S 11 x3.toNatClampNeg (vp_nar .boolean 0)), x1, x2, (x3 + 1))
def ps_X11_carried_157 (S : HS) (x1 x2 x3 : Int32) : Prop := (if (S.1 0) ≤ x3 then (q_X11_carried_373 (sI S 1 0) x1 x2) else (vp_in x3 200) ∧ True)
def lp_X11_carried_157 : Nat → HS → Int32 → Int32 → Int32 → Int32 × HS
  | 0, S, _, _, _ => (0, S)
  | n + 1, S, x1, x2, x3 => match st_X11_carried_157 S x1 x2 x3 with
    | Sum.inl r => r
    | Sum.inr q => lp_X11_carried_157 n q.1 q.2.1 q.2.2.1 q.2.2.2
def lq_X11_carried_157 : Nat → HS → Int32 → Int32 → Int32 → Prop
  | 0, _, _, _, _ => False
  | n + 1, S, x1, x2, x3 => ps_X11_carried_157 S x1 x2 x3 ∧ (match st_X11_carried_157 S x1 x2 x3 with
    | Sum.inl _ => True
    | Sum.inr q => lq_X11_carried_157 n q.1 q.2.1 q.2.2.1 q.2.2.2)
def b_X11_carried_a155 (S : HS) (x1 x2 : Int32) : Int32 × HS := (lp_X11_carried_157 100000 S x1 x2 0)
def q_X11_carried_a155 (S : HS) (x1 x2 : Int32) : Prop := (lq_X11_carried_157 100000 S x1 x2 0)
def b_X11_carried_353 (S : HS) (x1 x2 x3 x4 y0 y1 : Int32) : Int32 × HS := if x2 = 4 then (b_X11_carried_373 (sA (sA (sA S 27 y1.toNatClampNeg (vp_nar .boolean y0)) 15 x3.toNatClampNeg (-1)) 16 x3.toNatClampNeg (-1)) x1 x2) else (b_X11_carried_373 (sA S 27 y1.toNatClampNeg (vp_nar .boolean y0)) x1 x2)
def q_X11_carried_353 (S : HS) (x1 x2 x3 x4 y0 y1 : Int32) : Prop := (vp_in y1 90) ∧ (if x2 = 4 then (vp_in x3 90) ∧ (vp_in x3 90) ∧ (q_X11_carried_373 (sA (sA (sA S 27 y1.toNatClampNeg (vp_nar .boolean y0)) 15 x3.toNatClampNeg (-1)) 16 x3.toNatClampNeg (-1)) x1 x2) else (q_X11_carried_373 (sA S 27 y1.toNatClampNeg (vp_nar .boolean y0)) x1 x2))
def b_X11_carried_337 (S : HS) (x1 x2 x3 x4 y0 y1 : Int32) : Int32 × HS := if x2 = 4 then (b_X11_carried_353 (sA S 25 y1.toNatClampNeg (vp_nar .boolean y0)) x1 x2 x3 x4 1 x3) else (b_X11_carried_353 (sA S 25 y1.toNatClampNeg (vp_nar .boolean y0)) x1 x2 x3 x4 0 x3)
def q_X11_carried_337 (S : HS) (x1 x2 x3 x4 y0 y1 : Int32) : Prop := (vp_in y1 90) ∧ (if x2 = 4 then (q_X11_carried_353 (sA S 25 y1.toNatClampNeg (vp_nar .boolean y0)) x1 x2 x3 x4 1 x3) else (q_X11_carried_353 (sA S 25 y1.toNatClampNeg (vp_nar .boolean y0)) x1 x2 x3 x4 0 x3))
def b_X11_carried_a322 (S : HS) (x1 x2 x3 x4 : Int32) : Int32 × HS := if x2 = 5 then (b_X11_carried_337 S x1 x2 x3 x4 1 x3) else (b_X11_carried_337 S x1 x2 x3 x4 0 x3)
def q_X11_carried_a322 (S : HS) (x1 x2 x3 x4 : Int32) : Prop := (if x2 = 5 then (q_X11_carried_337 S x1 x2 x3 x4 1 x3) else (q_X11_carried_337 S x1 x2 x3 x4 0 x3))
def b_X11_carried_a283 (S : HS) (x1 x2 x3 y0 : Int32) : Int32 × HS := (b_X11_carried_a322 (f_X11_anew (sI (sA (sA (sA S 33 (9 * y0).toNatClampNeg x3) 34 y0.toNatClampNeg 1) 37 y0.toNatClampNeg (vp_nar .boolean 0)) 6 0) x3).2 x1 x2 x3 y0)
def q_X11_carried_a283 (S : HS) (x1 x2 x3 y0 : Int32) : Prop := (vp_in (9 * y0) 72) ∧ (vp_in y0 8) ∧ (vp_in y0 8) ∧ (p_X11_anew (sI (sA (sA (sA S 33 (9 * y0).toNatClampNeg x3) 34 y0.toNatClampNeg 1) 37 y0.toNatClampNeg (vp_nar .boolean 0)) 6 0) x3) ∧ (q_X11_carried_a322 (f_X11_anew (sI (sA (sA (sA S 33 (9 * y0).toNatClampNeg x3) 34 y0.toNatClampNeg 1) 37 y0.toNatClampNeg (vp_nar .boolean 0)) 6 0) x3).2 x1 x2 x3 y0)
def b_X11_carried_a269 (S : HS) (x1 x2 : Int32) : (Int32 × HS) ⊕ (HS × Int32 × Int32) := Sum.inr (S, x1, x2)
def q_X11_carried_a269 (S : HS) (x1 x2 : Int32) : Prop := True
def st_X11_carried_257 (S : HS) (x1 x2 : Int32) : (Int32 × HS) ⊕ (HS × Int32 × Int32) := if (S.1 6) ≤ 1 then Sum.inl ((b_X11_carried_a283 (f_X11_free S ).2 x1 x2 (S.2 31 (0 : Int32).toNatClampNeg) (f_X11_free S ).1)) else (b_X11_carried_a269 (f_X11_goes S ).2 x1 x2)
def ps_X11_carried_257 (S : HS) (x1 x2 : Int32) : Prop := (if (S.1 6) ≤ 1 then (vp_in 0 9) ∧ (p_X11_free S ) ∧ (q_X11_carried_a283 (f_X11_free S ).2 x1 x2 (S.2 31 (0 : Int32).toNatClampNeg) (f_X11_free S ).1) else (p_X11_goes S ) ∧ (q_X11_carried_a269 (f_X11_goes S ).2 x1 x2))
def lp_X11_carried_257 : Nat → HS → Int32 → Int32 → Int32 × HS
  | 0, S, _, _ => (0, S)
  | n + 1, S, x1, x2 => match st_X11_carried_257 S x1 x2 with
    | Sum.inl r => r
    | Sum.inr q => lp_X11_carried_257 n q.1 q.2.1 q.2.2
def lq_X11_carried_257 : Nat → HS → Int32 → Int32 → Prop
  | 0, _, _, _ => False
  | n + 1, S, x1, x2 => ps_X11_carried_257 S x1 x2 ∧ (match st_X11_carried_257 S x1 x2 with
    | Sum.inl _ => True
    | Sum.inr q => lq_X11_carried_257 n q.1 q.2.1 q.2.2)
def f_X11_carried (S : HS) (x1 x2 : Int32) : Int32 × HS := if x2 = 1 then (lp_X11_carried_70 100000 (sI (sI S 9 ((S.1 9) + 1)) 39 ((sI S 9 ((S.1 9) + 1)).2 19 x1.toNatClampNeg)) x1 x2 0) else if x2 = 2 then (b_X11_carried_111 S x1 x2) else if x2 = 3 then (b_X11_carried_111 S x1 x2) else if x2 = 6 then (b_X11_carried_a138 (f_X11_goes S ).2 x1 x2) else if x2 = 7 then (b_X11_carried_a190 (f_X11_goes S ).2 x1 x2) else if x2 = 8 then (b_X11_carried_a155 (f_X11_goes S ).2 x1 x2) else (lp_X11_carried_257 100000 S x1 x2)
def p_X11_carried (S : HS) (x1 x2 : Int32) : Prop := (if x2 = 1 then (vp_in x1 90) ∧ (lq_X11_carried_70 100000 (sI (sI S 9 ((S.1 9) + 1)) 39 ((sI S 9 ((S.1 9) + 1)).2 19 x1.toNatClampNeg)) x1 x2 0) else (if x2 = 2 then (q_X11_carried_111 S x1 x2) else (if x2 = 3 then (q_X11_carried_111 S x1 x2) else (if x2 = 6 then (p_X11_goes S ) ∧ (q_X11_carried_a138 (f_X11_goes S ).2 x1 x2) else (if x2 = 7 then (p_X11_goes S ) ∧ (q_X11_carried_a190 (f_X11_goes S ).2 x1 x2) else (if x2 = 8 then (p_X11_goes S ) ∧ (q_X11_carried_a155 (f_X11_goes S ).2 x1 x2) else (lq_X11_carried_257 100000 S x1 x2)))))))
def e_X11_carried : List Cond := [.fieldLink RX11 124 "MotionFloorModel$Hall" "adopted" "I", .fieldLink RX11 37 "MotionFloorModel$Hall" "words" "[I", .fieldLink RX11 133 "MotionFloorModel$Hall" "lastWords" "I", .methodLink RX11 227 yX11_goes, .instanceMethod yX11_goes, .selects RX11 yX11_goes yX11_goes, .initialized RX11, .fieldLink RX11 87 "MotionFloorModel$Hall" "last" "[I", .fieldLink RX11 65 "MotionFloorModel$Hall" "text" "[I", .fieldLink RX11 72 "MotionFloorModel$Hall" "row" "[I", .fieldLink RX11 115 "MotionFloorModel$Hall" "pending" "I", .methodLink RX11 240 yX11_change, .instanceMethod yX11_change, .selects RX11 yX11_change yX11_change, .fieldLink RX11 52 "MotionFloorModel$Hall" "closed" "[Z", .methodLink RX11 155 yX11_top, .instanceMethod yX11_top, .selects RX11 yX11_top yX11_top, .methodLink RX11 193 yX11_free, .instanceMethod yX11_free, .selects RX11 yX11_free yX11_free, .fieldLink RX11 81 "MotionFloorModel$Hall" "lying" "[I", .fieldLink RX11 84 "MotionFloorModel$Hall" "tabled" "[Z", .fieldLink RX11 78 "MotionFloorModel$Hall" "desk" "[I", .fieldLink RX11 96 "MotionFloorModel$Hall" "seats" "I", .fieldLink RX11 100 "MotionFloorModel$Hall" "there" "I", .fieldLink RX11 9 "MotionFloorModel$Hall" "isThere" "[Z", .methodLink RX11 144 yX11_anew, .instanceMethod yX11_anew, .selects RX11 yX11_anew yX11_anew, .fieldLink RX11 55 "MotionFloorModel$Hall" "laid" "[Z", .fieldLink RX11 61 "MotionFloorModel$Hall" "letter" "[Z", .fieldLink RX11 25 "MotionFloorModel$Hall" "mover" "[I", .fieldLink RX11 28 "MotionFloorModel$Hall" "seconder" "[I"]
def v_X11_carried : List Cond := .code yX11_carried cX11_carried 5 none :: (e_X11_carried ++ (wsX110 ++ (v_X11_goes ++ (v_X11_change ++ (v_X11_top ++ (v_X11_free ++ (v_X11_anew ++ [])))))))
theorem te_X11_carried : GoodIn lw_tbl e_X11_carried := wGc z159 (wGc z76 (wGc z158 (wGc z157 (wGc z156 (wGc z155 (wGc z51 (wGc z154 (wGc z137 (wGc z57 (wGc z56 (wGc z153 (wGc z152 (wGc z151 (wGc z60 (wGc z91 (wGc z90 (wGc z89 (wGc z115 (wGc z114 (wGc z113 (wGc z81 (wGc z141 (wGc z140 (wGc z48 (wGc z117 (wGc z50 (wGc z69 (wGc z68 (wGc z67 (wGc z72 (wGc z70 (wGc z77 (wGc z66 (wG0))))))))))))))))))))))))))))))))))
theorem t_X11_carried : GoodIn lw_tbl v_X11_carried := wGc z160 (wGa te_X11_carried (wGa zcX11 (wGa t_X11_goes (wGa t_X11_change (wGa t_X11_top (wGa t_X11_free (wGa t_X11_anew (wG0))))))))
set_option maxHeartbeats 4000000 in
set_option maxRecDepth 100000 in
theorem c_X11_carried (l : Launch) (G : va_G) (K : Nat → ClassId) (h : Nat) (g : Nat → Nat) (S0 : HS) (a1 a2 : Int32) (sz : Nat) : Met l yX11_carried v_X11_carried ({ frames := 2, cells := 0, slots := 0, locals := 51 }) (va_Pc [.ref h, .int a1, .int a2] (hS G K h g sz S0 (p_X11_carried S0 a1 a2))) (va_Qv (fun u : HS => (0, u) = f_X11_carried S0 a1 a2) (hB G K h g (va_A (hW K h g S0) sz)) (va_A (hW K h g S0) sz)) 0 0 (va_A (hW K h g S0) sz) := by
  refine Met.ofW (cc := cX11_carried) (maxL := 5) (ret := none) (by decide) rfl ?_
  intro p e s m args below meth c s₁ B hml hv
  obtain ⟨rfl, ⟨hsz, hP, hK, hD0, hTE⟩, hp⟩ := hv
  have hx := B.exec
  have hb := B.bytes
  have hr := B.returns
  have hts := atoms_spec (ws := v_X11_carried) B.pre
  have t_ := t_X11_carried
  have mw : ∀ w ∈ e_X11_carried, w ∈ v_X11_carried := fun w h => List.mem_cons_of_mem _ (List.mem_append_left _ h)
  have hw := fun w (h : w ∈ e_X11_carried) => hts w (mw w h)
  have iX11 : ∀ w ∈ wsX110, w ∈ v_X11_carried := fun w h => List.mem_cons_of_mem _ (List.mem_append_right _ (List.mem_append_left _ h))
  have j_X11_goes : ∀ w ∈ v_X11_goes, w ∈ v_X11_carried := fun w h => List.mem_cons_of_mem _ (List.mem_append_right _ (List.mem_append_right _ (List.mem_append_left _ h)))
  have j_X11_change : ∀ w ∈ v_X11_change, w ∈ v_X11_carried := fun w h => List.mem_cons_of_mem _ (List.mem_append_right _ (List.mem_append_right _ (List.mem_append_right _ (List.mem_append_left _ h))))
  have j_X11_top : ∀ w ∈ v_X11_top, w ∈ v_X11_carried := fun w h => List.mem_cons_of_mem _ (List.mem_append_right _ (List.mem_append_right _ (List.mem_append_right _ (List.mem_append_right _ (List.mem_append_left _ h)))))
  have j_X11_free : ∀ w ∈ v_X11_free, w ∈ v_X11_carried := fun w h => List.mem_cons_of_mem _ (List.mem_append_right _ (List.mem_append_right _ (List.mem_append_right _ (List.mem_append_right _ (List.mem_append_right _ (List.mem_append_left _ h))))))
  have j_X11_anew : ∀ w ∈ v_X11_anew, w ∈ v_X11_carried := fun w h => List.mem_cons_of_mem _ (List.mem_append_right _ (List.mem_append_right _ (List.mem_append_right _ (List.mem_append_right _ (List.mem_append_right _ (List.mem_append_right _ (List.mem_append_left _ h)))))))
  have hown : s.vm.findClass RX11 = some m.cls := findClass_of_methodNamed B.named
  have hlocks := B.notSynchronized
  subst hsz
  have hD := hD0.self (sz := s.heap.size)
  generalize hAe : va_A (hW K h g S0) s.heap.size = A at hD ⊢
  have hA : ∀ q : Nat, s.heap.size ≤ q → A q := fun q h => by rw [← hAe]; exact Or.inr h
  have hS : va_S A s.heap s.heap [] := va_S.rf
  have hl := lv_entry ([.ref h, .int a1, .int a2]) (n := 5) (Nat.le_of_ble_eq_true rfl)
  rw [lg_entry_eq]
  generalize (lg_sl ([.ref h, .int a1, .int a2]) ++ List.replicate (5 - (lg_sl ([.ref h, .int a1, .int a2])).length) Slot.unset).toArray = ls at hl ⊢
  have hl : lv_has ls 5 [(0, .ref h), (1, .int a1), (2, .int a2)] := hl
  refine wGen (fun Q hQ => ?_)
  obtain ⟨X, hX⟩ : ∃ X, f_X11_carried S0 a1 a2 = X := ⟨_, rfl⟩
  have B_373 : ∀ (S : HS) (x1 x2 : Int32) (H : Heap) (locs : List Loc) (ls : Array Slot), b_X11_carried_373 S x1 x2 = X → q_X11_carried_373 S x1 x2 → va_P G vwCl (hW K h g S) H → va_D A (hW K h g S) → va_S A s.heap H locs → lv_has ls 5 [(0, .ref h), (1, .int x1), (2, .int x2)] → W p l e ({ frames := 2, cells := 0, slots := 0, locals := 51 } : Room) s m #[Value.ref h, Value.int a1, Value.int a2] below meth c H locs 0 0 Q (F0 m 373 ls []) := by
    intro S x1 x2 H locs ls hE hp hP hD hS hl
    unfold b_X11_carried_373 at hE
    unfold q_X11_carried_373 at hp
    subst hQ
    exact W.vret hx hb hr (fun t ht hW => ⟨⟨S, rfl, hE.trans hX.symm, by rw [ht]; exact hP, hD⟩, hS.F ht⟩) hS.2.2 dX11_carried_373
  have L_70 : ∀ (n : Nat) (S : HS) (x1 x2 x3 : Int32) (H : Heap) (locs : List Loc) (ls : Array Slot), lp_X11_carried_70 n S x1 x2 x3 = X → lq_X11_carried_70 n S x1 x2 x3 → va_P G vwCl (hW K h g S) H → va_D A (hW K h g S) → va_S A s.heap H locs → lv_has ls 5 [(0, .ref h), (1, .int x1), (2, .int x2), (3, .int x3)] → W p l e ({ frames := 2, cells := 0, slots := 0, locals := 51 } : Room) s m #[Value.ref h, Value.int a1, Value.int a2] below meth c H locs 0 0 Q (F0 m 70 ls []) := by
    intro n1
    induction n1 with
    | zero => intro S x1 x2 x3 H locs ls hE hp; exact False.elim hp
    | succ n1 ih1 =>
      intro S x1 x2 x3 H locs ls hO1 hp hP hD hS hl
      rw [lp_X11_carried_70] at hO1
      rw [lq_X11_carried_70] at hp
      obtain ⟨hp, hq1⟩ := hp
      generalize hE : st_X11_carried_70 S x1 x2 x3 = Y1 at hO1 hq1
      unfold st_X11_carried_70 at hE
      unfold ps_X11_carried_70 at hp
      refine lv_iload_n hx hb dX11_carried_70 rfl (lv_at hl 3 rfl) ?_
      refine lv_aload_n hx hb dX11_carried_71 rfl (lv_at hl 0 rfl) ?_
      refine va_get (D := G) (ci := 8) (v := .ref (g 19)) (C := RX11) (T := TX11) (N := 42) hx hb hts iX11 hown hK hP 0 rfl rfl 19 (by decide) (hw (.fieldLink RX11 37 "MotionFloorModel$Hall" "words" "[I") (List.mem_of_getElem? (i := 1) rfl)) (fun _ h9 => h9) rfl dX11_carried_72 ?_
      refine lv_iload_n hx hb dX11_carried_75 rfl (lv_at hl 1 rfl) ?_
      obtain ⟨hy2, hp⟩ := hp
      refine va_iald hx hb hK hP 9 0 rfl rfl hy2 dX11_carried_76 ?_
      refine lv_icmp_ge (tgt := 104) hx hb dX11_carried_77 (by decide) (fun c3 => ?_) (fun c3 => ?_)
      · rw [if_pos c3] at hE hp
        subst hE
        have hE := hO1
        dsimp only at hE
        refine lv_aload_n hx hb dX11_carried_104 rfl (lv_at hl 0 rfl) ?_
        obtain ⟨hy4, hp⟩ := hp
        refine hGov (va_runV (As := []) (rest := []) ⟨hx, hb, hml, hown, hts⟩ (c_X11_goes l G K h g S _) (cwV 0 hts (wGV t_ (mw (.methodLink RX11 227 yX11_goes) (List.mem_of_getElem? (i := 3) rfl)) (mw (.instanceMethod yX11_goes) (List.mem_of_getElem? (i := 4) rfl)) (mw (.selects RX11 yX11_goes yX11_goes) (List.mem_of_getElem? (i := 5) rfl)) (mw (.initialized RX11) (List.mem_of_getElem? (i := 6) rfl)) j_X11_goes) rfl rfl rfl (by decide +kernel) ⟨Nat.le_of_ble_eq_true rfl, Nat.le_of_ble_eq_true rfl⟩) (hPV hK hTE hP hD hy4) rfl rfl hl.1 rfl (lv_room (Nat.le_of_ble_eq_true rfl)) dX11_carried_105 ⟨Nat.le_of_ble_eq_true rfl, Nat.le_of_ble_eq_true rfl⟩) hP hD hS hA (fun u5 H locs hv hP hD hS => ?_)
        rw [← hv] at hE hp
        dsimp only at hE hp
        unfold b_X11_carried_a108 at hE
        unfold q_X11_carried_a108 at hp
        refine lv_goto (tgt := 373) hx hb dX11_carried_108 (by decide) ?_
        exact B_373 u5 x1 x2 _ _ _ hE hp hP hD hS (lv_sub hl [0, 1, 2] rfl)
      · rw [if_neg c3] at hE hp
        refine lv_aload_n hx hb dX11_carried_80 rfl (lv_at hl 0 rfl) ?_
        refine va_get (D := G) (ci := 8) (v := .ref (g 38)) (C := RX11) (T := TX11) (N := 42) hx hb hts iX11 hown hK hP 0 rfl rfl 38 (by decide) (hw (.fieldLink RX11 87 "MotionFloorModel$Hall" "last" "[I") (List.mem_of_getElem? (i := 7) rfl)) (fun _ h9 => h9) rfl dX11_carried_81 ?_
        refine lv_iload_n hx hb dX11_carried_84 rfl (lv_at hl 3 rfl) ?_
        refine lv_aload_n hx hb dX11_carried_85 rfl (lv_at hl 0 rfl) ?_
        refine va_get (D := G) (ci := 8) (v := .ref (g 28)) (C := RX11) (T := TX11) (N := 42) hx hb hts iX11 hown hK hP 0 rfl rfl 28 (by decide) (hw (.fieldLink RX11 65 "MotionFloorModel$Hall" "text" "[I") (List.mem_of_getElem? (i := 8) rfl)) (fun _ h9 => h9) rfl dX11_carried_86 ?_
        refine lv_sipush (v := 400) hx hb dX11_carried_89 (by decide) ?_
        refine lv_iload_n hx hb dX11_carried_92 rfl (lv_at hl 1 rfl) ?_
        refine lv_imul hx hb dX11_carried_93 ?_
        refine lv_iload_n hx hb dX11_carried_94 rfl (lv_at hl 3 rfl) ?_
        refine lv_iadd hx hb dX11_carried_95 ?_
        obtain ⟨hy7, hp⟩ := hp
        refine va_iald hx hb hK hP 18 0 rfl rfl hy7 dX11_carried_96 ?_
        obtain ⟨hy8, hp⟩ := hp
        refine va_iast hx hb hK hP hD hS 25 0 rfl rfl hy8 dX11_carried_97 (fun H locs hP hD hS => ?_)
        rw [sA_38] at hP hD
        refine lv_iinc (v := (x3 + 1)) (lv' := [(3, .int (x3 + 1)), (0, .ref h), (1, .int x1), (2, .int x2)]) hx hb dX11_carried_98 hl (k := 3) rfl rfl (by decide) rfl (fun ls hl => ?_)
        refine lv_goto (tgt := 70) hx hb dX11_carried_101 (by decide) ?_
        subst hE
        dsimp only at hO1 hq1
        exact ih1 (sA S 38 x3.toNatClampNeg (S.2 28 ((400 * x1) + x3).toNatClampNeg)) x1 x2 (x3 + 1) _ _ _ hO1 hq1 hP hD hS (lv_sub hl [1, 2, 3, 0] rfl)
  have B_111 : ∀ (S : HS) (x1 x2 : Int32) (H : Heap) (locs : List Loc) (ls : Array Slot), b_X11_carried_111 S x1 x2 = X → q_X11_carried_111 S x1 x2 → va_P G vwCl (hW K h g S) H → va_D A (hW K h g S) → va_S A s.heap H locs → lv_has ls 5 [(0, .ref h), (1, .int x1), (2, .int x2)] → W p l e ({ frames := 2, cells := 0, slots := 0, locals := 51 } : Room) s m #[Value.ref h, Value.int a1, Value.int a2] below meth c H locs 0 0 Q (F0 m 111 ls []) := by
    intro S x1 x2 H locs ls hE hp hP hD hS hl
    unfold b_X11_carried_111 at hE
    unfold q_X11_carried_111 at hp
    refine lv_aload_n hx hb dX11_carried_111 rfl (lv_at hl 0 rfl) ?_
    refine lv_aload_n hx hb dX11_carried_112 rfl (lv_at hl 0 rfl) ?_
    refine va_get (D := G) (ci := 8) (v := .ref (g 31)) (C := RX11) (T := TX11) (N := 42) hx hb hts iX11 hown hK hP 0 rfl rfl 31 (by decide) (hw (.fieldLink RX11 72 "MotionFloorModel$Hall" "row" "[I") (List.mem_of_getElem? (i := 9) rfl)) (fun _ h9 => h9) rfl dX11_carried_113 ?_
    refine lv_aload_n hx hb dX11_carried_116 rfl (lv_at hl 0 rfl) ?_
    refine va_get (D := G) (ci := 8) (v := .int (S.1 6)) (C := RX11) (T := TX11) (N := 42) hx hb hts iX11 hown hK hP 0 rfl rfl 6 (by decide) (hw (.fieldLink RX11 115 "MotionFloorModel$Hall" "pending" "I") (List.mem_of_getElem? (i := 10) rfl)) (fun _ h9 => h9) rfl dX11_carried_117 ?_
    refine lv_iconst (v := 2) hx hb dX11_carried_120 (by decide) ?_
    refine lv_isub hx hb dX11_carried_121 ?_
    obtain ⟨hy9, hp⟩ := hp
    refine va_iald hx hb hK hP 20 0 rfl rfl hy9 dX11_carried_122 ?_
    refine lv_iload_n hx hb dX11_carried_123 rfl (lv_at hl 1 rfl) ?_
    obtain ⟨hy10, hp⟩ := hp
    refine hGov (va_runV (As := [.int (S.2 31 ((S.1 6) - 2).toNatClampNeg), .int x1]) (rest := []) ⟨hx, hb, hml, hown, hts⟩ (c_X11_change l G K h g S (S.2 31 ((S.1 6) - 2).toNatClampNeg) x1 _) (cwV 2 hts (wGV t_ (mw (.methodLink RX11 240 yX11_change) (List.mem_of_getElem? (i := 11) rfl)) (mw (.instanceMethod yX11_change) (List.mem_of_getElem? (i := 12) rfl)) (mw (.selects RX11 yX11_change yX11_change) (List.mem_of_getElem? (i := 13) rfl)) (mw (.initialized RX11) (List.mem_of_getElem? (i := 6) rfl)) j_X11_change) rfl rfl rfl (by decide +kernel) ⟨Nat.le_of_ble_eq_true rfl, Nat.le_of_ble_eq_true rfl⟩) (hPV hK hTE hP hD hy10) rfl rfl hl.1 rfl (lv_room (Nat.le_of_ble_eq_true rfl)) dX11_carried_124 ⟨Nat.le_of_ble_eq_true rfl, Nat.le_of_ble_eq_true rfl⟩) hP hD hS hA (fun u11 H locs hv hP hD hS => ?_)
    rw [← hv] at hE hp
    dsimp only at hE hp
    unfold b_X11_carried_a127 at hE
    unfold q_X11_carried_a127 at hp
    refine lv_aload_n hx hb dX11_carried_127 rfl (lv_at hl 0 rfl) ?_
    obtain ⟨hy13, hp⟩ := hp
    refine hGov (va_runV (As := []) (rest := []) ⟨hx, hb, hml, hown, hts⟩ (c_X11_goes l G K h g u11 _) (cwV 0 hts (wGV t_ (mw (.methodLink RX11 227 yX11_goes) (List.mem_of_getElem? (i := 3) rfl)) (mw (.instanceMethod yX11_goes) (List.mem_of_getElem? (i := 4) rfl)) (mw (.selects RX11 yX11_goes yX11_goes) (List.mem_of_getElem? (i := 5) rfl)) (mw (.initialized RX11) (List.mem_of_getElem? (i := 6) rfl)) j_X11_goes) rfl rfl rfl (by decide +kernel) ⟨Nat.le_of_ble_eq_true rfl, Nat.le_of_ble_eq_true rfl⟩) (hPV hK hTE hP hD hy13) rfl rfl hl.1 rfl (lv_room (Nat.le_of_ble_eq_true rfl)) dX11_carried_128 ⟨Nat.le_of_ble_eq_true rfl, Nat.le_of_ble_eq_true rfl⟩) hP hD hS hA (fun u14 H locs hv hP hD hS => ?_)
    rw [← hv] at hE hp
    dsimp only at hE hp
    unfold b_X11_carried_a131 at hE
    unfold q_X11_carried_a131 at hp
    refine lv_goto (tgt := 373) hx hb dX11_carried_131 (by decide) ?_
    exact B_373 u14 x1 x2 _ _ _ hE hp hP hD hS (lv_sub hl [0, 1, 2] rfl)
  have L_198 : ∀ (n : Nat) (S : HS) (x1 x2 x3 x4 : Int32) (H : Heap) (locs : List Loc) (ls : Array Slot), lp_X11_carried_198 n S x1 x2 x3 x4 = X → lq_X11_carried_198 n S x1 x2 x3 x4 → va_P G vwCl (hW K h g S) H → va_D A (hW K h g S) → va_S A s.heap H locs → lv_has ls 5 [(0, .ref h), (1, .int x1), (2, .int x2), (3, .int x3), (4, .int x4)] → W p l e ({ frames := 2, cells := 0, slots := 0, locals := 51 } : Room) s m #[Value.ref h, Value.int a1, Value.int a2] below meth c H locs 0 0 Q (F0 m 198 ls []) := by
    intro n1
    induction n1 with
    | zero => intro S x1 x2 x3 x4 H locs ls hE hp; exact False.elim hp
    | succ n1 ih1 =>
      intro S x1 x2 x3 x4 H locs ls hO1 hp hP hD hS hl
      rw [lp_X11_carried_198] at hO1
      rw [lq_X11_carried_198] at hp
      obtain ⟨hp, hq1⟩ := hp
      generalize hE : st_X11_carried_198 S x1 x2 x3 x4 = Y1 at hO1 hq1
      unfold st_X11_carried_198 at hE
      unfold ps_X11_carried_198 at hp
      refine lv_iload hx hb dX11_carried_198 (lv_at hl 4 rfl) ?_
      refine lv_aload_n hx hb dX11_carried_200 rfl (lv_at hl 0 rfl) ?_
      refine va_get (D := G) (ci := 8) (v := .int (S.1 6)) (C := RX11) (T := TX11) (N := 42) hx hb hts iX11 hown hK hP 0 rfl rfl 6 (by decide) (hw (.fieldLink RX11 115 "MotionFloorModel$Hall" "pending" "I") (List.mem_of_getElem? (i := 10) rfl)) (fun _ h9 => h9) rfl dX11_carried_201 ?_
      refine lv_icmp_ge (tgt := 232) hx hb dX11_carried_204 (by decide) (fun c37 => ?_) (fun c37 => ?_)
      · rw [if_pos c37] at hE hp
        subst hE
        have hE := hO1
        dsimp only at hE
        refine lv_aload_n hx hb dX11_carried_232 rfl (lv_at hl 0 rfl) ?_
        refine va_get (D := G) (ci := 8) (v := .ref (g 34)) (C := RX11) (T := TX11) (N := 42) hx hb hts iX11 hown hK hP 0 rfl rfl 34 (by decide) (hw (.fieldLink RX11 81 "MotionFloorModel$Hall" "lying" "[I") (List.mem_of_getElem? (i := 21) rfl)) (fun _ h9 => h9) rfl dX11_carried_233 ?_
        refine lv_iload_n hx hb dX11_carried_236 rfl (lv_at hl 3 rfl) ?_
        refine lv_aload_n hx hb dX11_carried_237 rfl (lv_at hl 0 rfl) ?_
        refine va_get (D := G) (ci := 8) (v := .int (S.1 6)) (C := RX11) (T := TX11) (N := 42) hx hb hts iX11 hown hK hP 0 rfl rfl 6 (by decide) (hw (.fieldLink RX11 115 "MotionFloorModel$Hall" "pending" "I") (List.mem_of_getElem? (i := 10) rfl)) (fun _ h9 => h9) rfl dX11_carried_238 ?_
        obtain ⟨hy38, hp⟩ := hp
        refine va_iast hx hb hK hP hD hS 23 0 rfl rfl hy38 dX11_carried_241 (fun H locs hP hD hS => ?_)
        rw [sA_34] at hP hD
        refine lv_aload_n hx hb dX11_carried_242 rfl (lv_at hl 0 rfl) ?_
        refine va_get (D := G) (ci := 8) (v := .ref (g 37)) (C := RX11) (T := TX11) (N := 42) hx hb hts iX11 hown hK hP 0 rfl rfl 37 (by decide) (hw (.fieldLink RX11 84 "MotionFloorModel$Hall" "tabled" "[Z") (List.mem_of_getElem? (i := 22) rfl)) (fun _ h9 => h9) rfl dX11_carried_243 ?_
        refine lv_iload_n hx hb dX11_carried_246 rfl (lv_at hl 3 rfl) ?_
        refine lv_iconst (v := 1) hx hb dX11_carried_247 (by decide) ?_
        obtain ⟨hy39, hp⟩ := hp
        refine va_zast hx hb hK hP hD hS 24 1 rfl rfl hy39 dX11_carried_248 (fun H locs hP hD hS => ?_)
        rw [sA_37] at hP hD
        refine lv_aload_n hx hb dX11_carried_249 rfl (lv_at hl 0 rfl) ?_
        refine lv_iconst (v := 0) hx hb dX11_carried_250 (by decide) ?_
        refine va_put (D := G) (ci := 8) (v := .int 0) (ty := .int) (C := RX11) (T := TX11) (N := 42) hx hb hts iX11 tyX11 tyX11_ok nmX11 hown hK hP hD hS 0 rfl rfl 6 (by decide) (hw (.fieldLink RX11 115 "MotionFloorModel$Hall" "pending" "I") (List.mem_of_getElem? (i := 10) rfl)) (fun _ h9 => h9) rfl (by decide +kernel) rfl rfl (Nat.le_of_ble_eq_true rfl) dX11_carried_251 (fun H locs hP hD hS => ?_)
        rw [sI_6] at hP hD
        refine lv_goto (tgt := 373) hx hb dX11_carried_254 (by decide) ?_
        exact B_373 (sI (sA (sA S 34 x3.toNatClampNeg (S.1 6)) 37 x3.toNatClampNeg (vp_nar .boolean 1)) 6 0) x1 x2 _ _ _ hE hp hP hD hS (lv_sub hl [0, 1, 2] rfl)
      · rw [if_neg c37] at hE hp
        refine lv_aload_n hx hb dX11_carried_207 rfl (lv_at hl 0 rfl) ?_
        refine va_get (D := G) (ci := 8) (v := .ref (g 33)) (C := RX11) (T := TX11) (N := 42) hx hb hts iX11 hown hK hP 0 rfl rfl 33 (by decide) (hw (.fieldLink RX11 78 "MotionFloorModel$Hall" "desk" "[I") (List.mem_of_getElem? (i := 23) rfl)) (fun _ h9 => h9) rfl dX11_carried_208 ?_
        refine lv_bipush (v := 9) hx hb dX11_carried_211 (by decide) ?_
        refine lv_iload_n hx hb dX11_carried_213 rfl (lv_at hl 3 rfl) ?_
        refine lv_imul hx hb dX11_carried_214 ?_
        refine lv_iload hx hb dX11_carried_215 (lv_at hl 4 rfl) ?_
        refine lv_iadd hx hb dX11_carried_217 ?_
        refine lv_aload_n hx hb dX11_carried_218 rfl (lv_at hl 0 rfl) ?_
        refine va_get (D := G) (ci := 8) (v := .ref (g 31)) (C := RX11) (T := TX11) (N := 42) hx hb hts iX11 hown hK hP 0 rfl rfl 31 (by decide) (hw (.fieldLink RX11 72 "MotionFloorModel$Hall" "row" "[I") (List.mem_of_getElem? (i := 9) rfl)) (fun _ h9 => h9) rfl dX11_carried_219 ?_
        refine lv_iload hx hb dX11_carried_222 (lv_at hl 4 rfl) ?_
        obtain ⟨hy40, hp⟩ := hp
        refine va_iald hx hb hK hP 20 0 rfl rfl hy40 dX11_carried_224 ?_
        obtain ⟨hy41, hp⟩ := hp
        refine va_iast hx hb hK hP hD hS 22 0 rfl rfl hy41 dX11_carried_225 (fun H locs hP hD hS => ?_)
        rw [sA_33] at hP hD
        refine lv_iinc (v := (x4 + 1)) (lv' := [(4, .int (x4 + 1)), (0, .ref h), (1, .int x1), (2, .int x2), (3, .int x3)]) hx hb dX11_carried_226 hl (k := 4) rfl rfl (by decide) rfl (fun ls hl => ?_)
        refine lv_goto (tgt := 198) hx hb dX11_carried_229 (by decide) ?_
        subst hE
        dsimp only at hO1 hq1
        exact ih1 (sA S 33 ((9 * x3) + x4).toNatClampNeg (S.2 31 x4.toNatClampNeg)) x1 x2 x3 (x4 + 1) _ _ _ hO1 hq1 hP hD hS (lv_sub hl [1, 2, 3, 4, 0] rfl)
  have L_157 : ∀ (n : Nat) (S : HS) (x1 x2 x3 : Int32) (H : Heap) (locs : List Loc) (ls : Array Slot), lp_X11_carried_157 n S x1 x2 x3 = X → lq_X11_carried_157 n S x1 x2 x3 → va_P G vwCl (hW K h g S) H → va_D A (hW K h g S) → va_S A s.heap H locs → lv_has ls 5 [(0, .ref h), (1, .int x1), (2, .int x2), (3, .int x3)] → W p l e ({ frames := 2, cells := 0, slots := 0, locals := 51 } : Room) s m #[Value.ref h, Value.int a1, Value.int a2] below meth c H locs 0 0 Q (F0 m 157 ls []) := by
    intro n1
    induction n1 with
    | zero => intro S x1 x2 x3 H locs ls hE hp; exact False.elim hp
    | succ n1 ih1 =>
      intro S x1 x2 x3 H locs ls hO1 hp hP hD hS hl
      rw [lp_X11_carried_157] at hO1
      rw [lq_X11_carried_157] at hp
      obtain ⟨hp, hq1⟩ := hp
      generalize hE : st_X11_carried_157 S x1 x2 x3 = Y1 at hO1 hq1
      unfold st_X11_carried_157 at hE
      unfold ps_X11_carried_157 at hp
      refine lv_iload_n hx hb dX11_carried_157 rfl (lv_at hl 3 rfl) ?_
      refine lv_aload_n hx hb dX11_carried_158 rfl (lv_at hl 0 rfl) ?_
      refine va_get (D := G) (ci := 8) (v := .int (S.1 0)) (C := RX11) (T := TX11) (N := 42) hx hb hts iX11 hown hK hP 0 rfl rfl 0 (by decide) (hw (.fieldLink RX11 96 "MotionFloorModel$Hall" "seats" "I") (List.mem_of_getElem? (i := 24) rfl)) (fun _ h9 => h9) rfl dX11_carried_159 ?_
      refine lv_icmp_ge (tgt := 178) hx hb dX11_carried_162 (by decide) (fun c48 => ?_) (fun c48 => ?_)
      · rw [if_pos c48] at hE hp
        subst hE
        have hE := hO1
        dsimp only at hE
        refine lv_aload_n hx hb dX11_carried_178 rfl (lv_at hl 0 rfl) ?_
        refine lv_iconst (v := 0) hx hb dX11_carried_179 (by decide) ?_
        refine va_put (D := G) (ci := 8) (v := .int 0) (ty := .int) (C := RX11) (T := TX11) (N := 42) hx hb hts iX11 tyX11 tyX11_ok nmX11 hown hK hP hD hS 0 rfl rfl 1 (by decide) (hw (.fieldLink RX11 100 "MotionFloorModel$Hall" "there" "I") (List.mem_of_getElem? (i := 25) rfl)) (fun _ h9 => h9) rfl (by decide +kernel) rfl rfl (Nat.le_of_ble_eq_true rfl) dX11_carried_180 (fun H locs hP hD hS => ?_)
        rw [sI_1] at hP hD
        refine lv_goto (tgt := 373) hx hb dX11_carried_183 (by decide) ?_
        exact B_373 (sI S 1 0) x1 x2 _ _ _ hE hp hP hD hS (lv_sub hl [0, 1, 2] rfl)
      · rw [if_neg c48] at hE hp
        refine lv_aload_n hx hb dX11_carried_165 rfl (lv_at hl 0 rfl) ?_
        refine va_get (D := G) (ci := 8) (v := .ref (g 11)) (C := RX11) (T := TX11) (N := 42) hx hb hts iX11 hown hK hP 0 rfl rfl 11 (by decide) (hw (.fieldLink RX11 9 "MotionFloorModel$Hall" "isThere" "[Z") (List.mem_of_getElem? (i := 26) rfl)) (fun _ h9 => h9) rfl dX11_carried_166 ?_
        refine lv_iload_n hx hb dX11_carried_169 rfl (lv_at hl 3 rfl) ?_
        refine lv_iconst (v := 0) hx hb dX11_carried_170 (by decide) ?_
        obtain ⟨hy49, hp⟩ := hp
        refine va_zast hx hb hK hP hD hS 1 1 rfl rfl hy49 dX11_carried_171 (fun H locs hP hD hS => ?_)
        rw [sA_11] at hP hD
        refine lv_iinc (v := (x3 + 1)) (lv' := [(3, .int (x3 + 1)), (0, .ref h), (1, .int x1), (2, .int x2)]) hx hb dX11_carried_172 hl (k := 3) rfl rfl (by decide) rfl (fun ls hl => ?_)
        refine lv_goto (tgt := 157) hx hb dX11_carried_175 (by decide) ?_
        subst hE
        dsimp only at hO1 hq1
        exact ih1 (sA S 11 x3.toNatClampNeg (vp_nar .boolean 0)) x1 x2 (x3 + 1) _ _ _ hO1 hq1 hP hD hS (lv_sub hl [1, 2, 3, 0] rfl)
  have B_353 : ∀ (S : HS) (x1 x2 x3 x4 y0 y1 : Int32) (H : Heap) (locs : List Loc) (ls : Array Slot), b_X11_carried_353 S x1 x2 x3 x4 y0 y1 = X → q_X11_carried_353 S x1 x2 x3 x4 y0 y1 → va_P G vwCl (hW K h g S) H → va_D A (hW K h g S) → va_S A s.heap H locs → lv_has ls 5 [(0, .ref h), (1, .int x1), (2, .int x2), (3, .int x3), (4, .int x4)] → W p l e ({ frames := 2, cells := 0, slots := 0, locals := 51 } : Room) s m #[Value.ref h, Value.int a1, Value.int a2] below meth c H locs 0 0 Q (F0 m 353 ls [.int y0, .int y1, .ref (g 27)]) := by
    intro S x1 x2 x3 x4 y0 y1 H locs ls hE hp hP hD hS hl
    unfold b_X11_carried_353 at hE
    unfold q_X11_carried_353 at hp
    obtain ⟨hy64, hp⟩ := hp
    refine va_zast hx hb hK hP hD hS 17 1 rfl rfl hy64 dX11_carried_353 (fun H locs hP hD hS => ?_)
    rw [sA_27] at hP hD
    refine lv_iload_n hx hb dX11_carried_354 rfl (lv_at hl 2 rfl) ?_
    refine lv_iconst (v := 4) hx hb dX11_carried_355 (by decide) ?_
    refine lv_icmp_ne (tgt := 373) hx hb dX11_carried_356 (by decide) (fun c65 => ?_) (fun c65 => ?_)
    · rw [if_neg c65] at hE hp
      exact B_373 (sA S 27 y1.toNatClampNeg (vp_nar .boolean y0)) x1 x2 _ _ _ hE hp hP hD hS (lv_sub hl [0, 1, 2] rfl)
    · rw [if_pos c65] at hE hp
      refine lv_aload_n hx hb dX11_carried_359 rfl (lv_at hl 0 rfl) ?_
      refine va_get (D := G) (ci := 8) (v := .ref (g 15)) (C := RX11) (T := TX11) (N := 42) hx hb hts iX11 hown hK hP 0 rfl rfl 15 (by decide) (hw (.fieldLink RX11 25 "MotionFloorModel$Hall" "mover" "[I") (List.mem_of_getElem? (i := 32) rfl)) (fun _ h9 => h9) rfl dX11_carried_360 ?_
      refine lv_iload_n hx hb dX11_carried_363 rfl (lv_at hl 3 rfl) ?_
      refine lv_iconst (v := (-1)) hx hb dX11_carried_364 (by decide) ?_
      obtain ⟨hy66, hp⟩ := hp
      refine va_iast hx hb hK hP hD hS 5 0 rfl rfl hy66 dX11_carried_365 (fun H locs hP hD hS => ?_)
      rw [sA_15] at hP hD
      refine lv_aload_n hx hb dX11_carried_366 rfl (lv_at hl 0 rfl) ?_
      refine va_get (D := G) (ci := 8) (v := .ref (g 16)) (C := RX11) (T := TX11) (N := 42) hx hb hts iX11 hown hK hP 0 rfl rfl 16 (by decide) (hw (.fieldLink RX11 28 "MotionFloorModel$Hall" "seconder" "[I") (List.mem_of_getElem? (i := 33) rfl)) (fun _ h9 => h9) rfl dX11_carried_367 ?_
      refine lv_iload_n hx hb dX11_carried_370 rfl (lv_at hl 3 rfl) ?_
      refine lv_iconst (v := (-1)) hx hb dX11_carried_371 (by decide) ?_
      obtain ⟨hy67, hp⟩ := hp
      refine va_iast hx hb hK hP hD hS 6 0 rfl rfl hy67 dX11_carried_372 (fun H locs hP hD hS => ?_)
      rw [sA_16] at hP hD
      exact B_373 (sA (sA (sA S 27 y1.toNatClampNeg (vp_nar .boolean y0)) 15 x3.toNatClampNeg (-1)) 16 x3.toNatClampNeg (-1)) x1 x2 _ _ _ hE hp hP hD hS (lv_sub hl [0, 1, 2] rfl)
  have B_337 : ∀ (S : HS) (x1 x2 x3 x4 y0 y1 : Int32) (H : Heap) (locs : List Loc) (ls : Array Slot), b_X11_carried_337 S x1 x2 x3 x4 y0 y1 = X → q_X11_carried_337 S x1 x2 x3 x4 y0 y1 → va_P G vwCl (hW K h g S) H → va_D A (hW K h g S) → va_S A s.heap H locs → lv_has ls 5 [(0, .ref h), (1, .int x1), (2, .int x2), (3, .int x3), (4, .int x4)] → W p l e ({ frames := 2, cells := 0, slots := 0, locals := 51 } : Room) s m #[Value.ref h, Value.int a1, Value.int a2] below meth c H locs 0 0 Q (F0 m 337 ls [.int y0, .int y1, .ref (g 25)]) := by
    intro S x1 x2 x3 x4 y0 y1 H locs ls hE hp hP hD hS hl
    unfold b_X11_carried_337 at hE
    unfold q_X11_carried_337 at hp
    obtain ⟨hy62, hp⟩ := hp
    refine va_zast hx hb hK hP hD hS 15 1 rfl rfl hy62 dX11_carried_337 (fun H locs hP hD hS => ?_)
    rw [sA_25] at hP hD
    refine lv_aload_n hx hb dX11_carried_338 rfl (lv_at hl 0 rfl) ?_
    refine va_get (D := G) (ci := 8) (v := .ref (g 27)) (C := RX11) (T := TX11) (N := 42) hx hb hts iX11 hown hK hP 0 rfl rfl 27 (by decide) (hw (.fieldLink RX11 61 "MotionFloorModel$Hall" "letter" "[Z") (List.mem_of_getElem? (i := 31) rfl)) (fun _ h9 => h9) rfl dX11_carried_339 ?_
    refine lv_iload_n hx hb dX11_carried_342 rfl (lv_at hl 3 rfl) ?_
    refine lv_iload_n hx hb dX11_carried_343 rfl (lv_at hl 2 rfl) ?_
    refine lv_iconst (v := 4) hx hb dX11_carried_344 (by decide) ?_
    refine lv_icmp_ne (tgt := 352) hx hb dX11_carried_345 (by decide) (fun c63 => ?_) (fun c63 => ?_)
    · rw [if_neg c63] at hE hp
      refine lv_iconst (v := 0) hx hb dX11_carried_352 (by decide) ?_
      exact B_353 (sA S 25 y1.toNatClampNeg (vp_nar .boolean y0)) x1 x2 x3 x4 0 x3 _ _ _ hE hp hP hD hS (lv_sub hl [0, 1, 2, 3, 4] rfl)
    · rw [if_pos c63] at hE hp
      refine lv_iconst (v := 1) hx hb dX11_carried_348 (by decide) ?_
      refine lv_goto (tgt := 353) hx hb dX11_carried_349 (by decide) ?_
      exact B_353 (sA S 25 y1.toNatClampNeg (vp_nar .boolean y0)) x1 x2 x3 x4 1 x3 _ _ _ hE hp hP hD hS (lv_sub hl [0, 1, 2, 3, 4] rfl)
  have L_257 : ∀ (n : Nat) (S : HS) (x1 x2 : Int32) (H : Heap) (locs : List Loc) (ls : Array Slot), lp_X11_carried_257 n S x1 x2 = X → lq_X11_carried_257 n S x1 x2 → va_P G vwCl (hW K h g S) H → va_D A (hW K h g S) → va_S A s.heap H locs → lv_has ls 5 [(0, .ref h), (1, .int x1), (2, .int x2)] → W p l e ({ frames := 2, cells := 0, slots := 0, locals := 51 } : Room) s m #[Value.ref h, Value.int a1, Value.int a2] below meth c H locs 0 0 Q (F0 m 257 ls []) := by
    intro n1
    induction n1 with
    | zero => intro S x1 x2 H locs ls hE hp; exact False.elim hp
    | succ n1 ih1 =>
      intro S x1 x2 H locs ls hO1 hp hP hD hS hl
      rw [lp_X11_carried_257] at hO1
      rw [lq_X11_carried_257] at hp
      obtain ⟨hp, hq1⟩ := hp
      generalize hE : st_X11_carried_257 S x1 x2 = Y1 at hO1 hq1
      unfold st_X11_carried_257 at hE
      unfold ps_X11_carried_257 at hp
      refine lv_aload_n hx hb dX11_carried_257 rfl (lv_at hl 0 rfl) ?_
      refine va_get (D := G) (ci := 8) (v := .int (S.1 6)) (C := RX11) (T := TX11) (N := 42) hx hb hts iX11 hown hK hP 0 rfl rfl 6 (by decide) (hw (.fieldLink RX11 115 "MotionFloorModel$Hall" "pending" "I") (List.mem_of_getElem? (i := 10) rfl)) (fun _ h9 => h9) rfl dX11_carried_258 ?_
      refine lv_iconst (v := 1) hx hb dX11_carried_261 (by decide) ?_
      refine lv_icmp_le (tgt := 272) hx hb dX11_carried_262 (by decide) (fun c50 => ?_) (fun c50 => ?_)
      · rw [if_pos c50] at hE hp
        subst hE
        have hE := hO1
        dsimp only at hE
        refine lv_aload_n hx hb dX11_carried_272 rfl (lv_at hl 0 rfl) ?_
        refine va_get (D := G) (ci := 8) (v := .ref (g 31)) (C := RX11) (T := TX11) (N := 42) hx hb hts iX11 hown hK hP 0 rfl rfl 31 (by decide) (hw (.fieldLink RX11 72 "MotionFloorModel$Hall" "row" "[I") (List.mem_of_getElem? (i := 9) rfl)) (fun _ h9 => h9) rfl dX11_carried_273 ?_
        refine lv_iconst (v := 0) hx hb dX11_carried_276 (by decide) ?_
        obtain ⟨hy51, hp⟩ := hp
        refine va_iald hx hb hK hP 20 0 rfl rfl hy51 dX11_carried_277 ?_
        refine lv_istore_n (lv' := [(3, .int (S.2 31 (0 : Int32).toNatClampNeg)), (0, .ref h), (1, .int x1), (2, .int x2)]) hx hb dX11_carried_278 rfl hl (by decide) rfl (fun ls hl => ?_)
        refine lv_aload_n hx hb dX11_carried_279 rfl (lv_at hl 1 rfl) ?_
        obtain ⟨hy52, hp⟩ := hp
        refine hGoi (va_runV (As := []) (rest := []) ⟨hx, hb, hml, hown, hts⟩ (c_X11_free l G K h g S _) (cwV 0 hts (wGV t_ (mw (.methodLink RX11 193 yX11_free) (List.mem_of_getElem? (i := 18) rfl)) (mw (.instanceMethod yX11_free) (List.mem_of_getElem? (i := 19) rfl)) (mw (.selects RX11 yX11_free yX11_free) (List.mem_of_getElem? (i := 20) rfl)) (mw (.initialized RX11) (List.mem_of_getElem? (i := 6) rfl)) j_X11_free) rfl rfl rfl (by decide +kernel) ⟨Nat.le_of_ble_eq_true rfl, Nat.le_of_ble_eq_true rfl⟩) (hPV hK hTE hP hD hy52) rfl rfl hl.1 rfl (lv_room (Nat.le_of_ble_eq_true rfl)) dX11_carried_280 ⟨Nat.le_of_ble_eq_true rfl, Nat.le_of_ble_eq_true rfl⟩) hP hD hS hA (fun r54 u53 H locs hv hP hD hS => ?_)
        rw [← hv] at hE hp
        dsimp only at hE hp
        unfold b_X11_carried_a283 at hE
        unfold q_X11_carried_a283 at hp
        refine lv_istore (lv' := [(4, .int r54), (3, .int (S.2 31 (0 : Int32).toNatClampNeg)), (0, .ref h), (1, .int x1), (2, .int x2)]) hx hb dX11_carried_283 hl (by decide) rfl (fun ls hl => ?_)
        refine lv_aload_n hx hb dX11_carried_285 rfl (lv_at hl 2 rfl) ?_
        refine va_get (D := G) (ci := 8) (v := .ref (g 33)) (C := RX11) (T := TX11) (N := 42) hx hb hts iX11 hown hK hP 0 rfl rfl 33 (by decide) (hw (.fieldLink RX11 78 "MotionFloorModel$Hall" "desk" "[I") (List.mem_of_getElem? (i := 23) rfl)) (fun _ h9 => h9) rfl dX11_carried_286 ?_
        refine lv_bipush (v := 9) hx hb dX11_carried_289 (by decide) ?_
        refine lv_iload hx hb dX11_carried_291 (lv_at hl 0 rfl) ?_
        refine lv_imul hx hb dX11_carried_293 ?_
        refine lv_iload_n hx hb dX11_carried_294 rfl (lv_at hl 1 rfl) ?_
        obtain ⟨hy55, hp⟩ := hp
        refine va_iast hx hb hK hP hD hS 22 0 rfl rfl hy55 dX11_carried_295 (fun H locs hP hD hS => ?_)
        rw [sA_33] at hP hD
        refine lv_aload_n hx hb dX11_carried_296 rfl (lv_at hl 2 rfl) ?_
        refine va_get (D := G) (ci := 8) (v := .ref (g 34)) (C := RX11) (T := TX11) (N := 42) hx hb hts iX11 hown hK hP 0 rfl rfl 34 (by decide) (hw (.fieldLink RX11 81 "MotionFloorModel$Hall" "lying" "[I") (List.mem_of_getElem? (i := 21) rfl)) (fun _ h9 => h9) rfl dX11_carried_297 ?_
        refine lv_iload hx hb dX11_carried_300 (lv_at hl 0 rfl) ?_
        refine lv_iconst (v := 1) hx hb dX11_carried_302 (by decide) ?_
        obtain ⟨hy56, hp⟩ := hp
        refine va_iast hx hb hK hP hD hS 23 0 rfl rfl hy56 dX11_carried_303 (fun H locs hP hD hS => ?_)
        rw [sA_34] at hP hD
        refine lv_aload_n hx hb dX11_carried_304 rfl (lv_at hl 2 rfl) ?_
        refine va_get (D := G) (ci := 8) (v := .ref (g 37)) (C := RX11) (T := TX11) (N := 42) hx hb hts iX11 hown hK hP 0 rfl rfl 37 (by decide) (hw (.fieldLink RX11 84 "MotionFloorModel$Hall" "tabled" "[Z") (List.mem_of_getElem? (i := 22) rfl)) (fun _ h9 => h9) rfl dX11_carried_305 ?_
        refine lv_iload hx hb dX11_carried_308 (lv_at hl 0 rfl) ?_
        refine lv_iconst (v := 0) hx hb dX11_carried_310 (by decide) ?_
        obtain ⟨hy57, hp⟩ := hp
        refine va_zast hx hb hK hP hD hS 24 1 rfl rfl hy57 dX11_carried_311 (fun H locs hP hD hS => ?_)
        rw [sA_37] at hP hD
        refine lv_aload_n hx hb dX11_carried_312 rfl (lv_at hl 2 rfl) ?_
        refine lv_iconst (v := 0) hx hb dX11_carried_313 (by decide) ?_
        refine va_put (D := G) (ci := 8) (v := .int 0) (ty := .int) (C := RX11) (T := TX11) (N := 42) hx hb hts iX11 tyX11 tyX11_ok nmX11 hown hK hP hD hS 0 rfl rfl 6 (by decide) (hw (.fieldLink RX11 115 "MotionFloorModel$Hall" "pending" "I") (List.mem_of_getElem? (i := 10) rfl)) (fun _ h9 => h9) rfl (by decide +kernel) rfl rfl (Nat.le_of_ble_eq_true rfl) dX11_carried_314 (fun H locs hP hD hS => ?_)
        rw [sI_6] at hP hD
        refine lv_aload_n hx hb dX11_carried_317 rfl (lv_at hl 2 rfl) ?_
        refine lv_iload_n hx hb dX11_carried_318 rfl (lv_at hl 1 rfl) ?_
        obtain ⟨hy58, hp⟩ := hp
        refine hGov (va_runV (As := [.int (S.2 31 (0 : Int32).toNatClampNeg)]) (rest := []) ⟨hx, hb, hml, hown, hts⟩ (c_X11_anew l G K h g (sI (sA (sA (sA u53 33 (9 * r54).toNatClampNeg (S.2 31 (0 : Int32).toNatClampNeg)) 34 r54.toNatClampNeg 1) 37 r54.toNatClampNeg (vp_nar .boolean 0)) 6 0) (S.2 31 (0 : Int32).toNatClampNeg) _) (cwV 1 hts (wGV t_ (mw (.methodLink RX11 144 yX11_anew) (List.mem_of_getElem? (i := 27) rfl)) (mw (.instanceMethod yX11_anew) (List.mem_of_getElem? (i := 28) rfl)) (mw (.selects RX11 yX11_anew yX11_anew) (List.mem_of_getElem? (i := 29) rfl)) (mw (.initialized RX11) (List.mem_of_getElem? (i := 6) rfl)) j_X11_anew) rfl rfl rfl (by decide +kernel) ⟨Nat.le_of_ble_eq_true rfl, Nat.le_of_ble_eq_true rfl⟩) (hPV hK hTE hP hD hy58) rfl rfl hl.1 rfl (lv_room (Nat.le_of_ble_eq_true rfl)) dX11_carried_319 ⟨Nat.le_of_ble_eq_true rfl, Nat.le_of_ble_eq_true rfl⟩) hP hD hS hA (fun u59 H locs hv hP hD hS => ?_)
        rw [← hv] at hE hp
        dsimp only at hE hp
        unfold b_X11_carried_a322 at hE
        unfold q_X11_carried_a322 at hp
        refine lv_aload_n hx hb dX11_carried_322 rfl (lv_at hl 2 rfl) ?_
        refine va_get (D := G) (ci := 8) (v := .ref (g 25)) (C := RX11) (T := TX11) (N := 42) hx hb hts iX11 hown hK hP 0 rfl rfl 25 (by decide) (hw (.fieldLink RX11 55 "MotionFloorModel$Hall" "laid" "[Z") (List.mem_of_getElem? (i := 30) rfl)) (fun _ h9 => h9) rfl dX11_carried_323 ?_
        refine lv_iload_n hx hb dX11_carried_326 rfl (lv_at hl 1 rfl) ?_
        refine lv_iload_n hx hb dX11_carried_327 rfl (lv_at hl 4 rfl) ?_
        refine lv_iconst (v := 5) hx hb dX11_carried_328 (by decide) ?_
        refine lv_icmp_ne (tgt := 336) hx hb dX11_carried_329 (by decide) (fun c61 => ?_) (fun c61 => ?_)
        · rw [if_neg c61] at hE hp
          refine lv_iconst (v := 0) hx hb dX11_carried_336 (by decide) ?_
          exact B_337 u59 x1 x2 (S.2 31 (0 : Int32).toNatClampNeg) r54 0 (S.2 31 (0 : Int32).toNatClampNeg) _ _ _ hE hp hP hD hS (lv_sub hl [2, 3, 4, 1, 0] rfl)
        · rw [if_pos c61] at hE hp
          refine lv_iconst (v := 1) hx hb dX11_carried_332 (by decide) ?_
          refine lv_goto (tgt := 337) hx hb dX11_carried_333 (by decide) ?_
          exact B_337 u59 x1 x2 (S.2 31 (0 : Int32).toNatClampNeg) r54 1 (S.2 31 (0 : Int32).toNatClampNeg) _ _ _ hE hp hP hD hS (lv_sub hl [2, 3, 4, 1, 0] rfl)
      · rw [if_neg c50] at hE hp
        refine lv_aload_n hx hb dX11_carried_265 rfl (lv_at hl 0 rfl) ?_
        obtain ⟨hy76, hp⟩ := hp
        refine hGov (va_runV (As := []) (rest := []) ⟨hx, hb, hml, hown, hts⟩ (c_X11_goes l G K h g S _) (cwV 0 hts (wGV t_ (mw (.methodLink RX11 227 yX11_goes) (List.mem_of_getElem? (i := 3) rfl)) (mw (.instanceMethod yX11_goes) (List.mem_of_getElem? (i := 4) rfl)) (mw (.selects RX11 yX11_goes yX11_goes) (List.mem_of_getElem? (i := 5) rfl)) (mw (.initialized RX11) (List.mem_of_getElem? (i := 6) rfl)) j_X11_goes) rfl rfl rfl (by decide +kernel) ⟨Nat.le_of_ble_eq_true rfl, Nat.le_of_ble_eq_true rfl⟩) (hPV hK hTE hP hD hy76) rfl rfl hl.1 rfl (lv_room (Nat.le_of_ble_eq_true rfl)) dX11_carried_266 ⟨Nat.le_of_ble_eq_true rfl, Nat.le_of_ble_eq_true rfl⟩) hP hD hS hA (fun u77 H locs hv hP hD hS => ?_)
        rw [← hv] at hE hp
        dsimp only at hE hp
        unfold b_X11_carried_a269 at hE
        unfold q_X11_carried_a269 at hp
        refine lv_goto (tgt := 257) hx hb dX11_carried_269 (by decide) ?_
        subst hE
        dsimp only at hO1 hq1
        exact ih1 u77 x1 x2 _ _ _ hO1 hq1 hP hD hS (lv_sub hl [0, 1, 2] rfl)
  have B_M : ∀ (S : HS) (x1 x2 : Int32) (H : Heap) (locs : List Loc) (ls : Array Slot), f_X11_carried S x1 x2 = X → p_X11_carried S x1 x2 → va_P G vwCl (hW K h g S) H → va_D A (hW K h g S) → va_S A s.heap H locs → lv_has ls 5 [(0, .ref h), (1, .int x1), (2, .int x2)] → W p l e ({ frames := 2, cells := 0, slots := 0, locals := 51 } : Room) s m #[Value.ref h, Value.int a1, Value.int a2] below meth c H locs 0 0 Q (F0 m 0 ls []) := by
    intro S x1 x2 H locs ls hE hp hP hD hS hl
    unfold f_X11_carried at hE
    unfold p_X11_carried at hp
    refine lv_iload_n hx hb dX11_carried_0 rfl (lv_at hl 2 rfl) ?_
    by_cases s1 : x2 = 1
    · rw [if_pos s1] at hE hp
      refine lv_tableIn (off := 47) (tgt := 48) hx hb dX11_carried_1 (by rw [s1]; decide) (by rw [s1]; decide) (by rw [s1]; decide) (by decide) ?_
      refine lv_aload_n hx hb dX11_carried_48 rfl (lv_at hl 0 rfl) ?_
      refine lv_dup hx hb dX11_carried_49 rfl ?_
      refine va_get (D := G) (ci := 8) (v := .int (S.1 9)) (C := RX11) (T := TX11) (N := 42) hx hb hts iX11 hown hK hP 0 rfl rfl 9 (by decide) (hw (.fieldLink RX11 124 "MotionFloorModel$Hall" "adopted" "I") (List.mem_of_getElem? (i := 0) rfl)) (fun _ h9 => h9) rfl dX11_carried_50 ?_
      refine lv_iconst (v := 1) hx hb dX11_carried_53 (by decide) ?_
      refine lv_iadd hx hb dX11_carried_54 ?_
      refine va_put (D := G) (ci := 8) (v := .int ((S.1 9) + 1)) (ty := .int) (C := RX11) (T := TX11) (N := 42) hx hb hts iX11 tyX11 tyX11_ok nmX11 hown hK hP hD hS 0 rfl rfl 9 (by decide) (hw (.fieldLink RX11 124 "MotionFloorModel$Hall" "adopted" "I") (List.mem_of_getElem? (i := 0) rfl)) (fun _ h9 => h9) rfl (by decide +kernel) rfl rfl (Nat.le_of_ble_eq_true rfl) dX11_carried_55 (fun H locs hP hD hS => ?_)
      rw [sI_9] at hP hD
      refine lv_aload_n hx hb dX11_carried_58 rfl (lv_at hl 0 rfl) ?_
      refine lv_aload_n hx hb dX11_carried_59 rfl (lv_at hl 0 rfl) ?_
      refine va_get (D := G) (ci := 8) (v := .ref (g 19)) (C := RX11) (T := TX11) (N := 42) hx hb hts iX11 hown hK hP 0 rfl rfl 19 (by decide) (hw (.fieldLink RX11 37 "MotionFloorModel$Hall" "words" "[I") (List.mem_of_getElem? (i := 1) rfl)) (fun _ h9 => h9) rfl dX11_carried_60 ?_
      refine lv_iload_n hx hb dX11_carried_63 rfl (lv_at hl 1 rfl) ?_
      obtain ⟨hy1, hp⟩ := hp
      refine va_iald hx hb hK hP 9 0 rfl rfl hy1 dX11_carried_64 ?_
      refine va_put (D := G) (ci := 8) (v := .int ((sI S 9 ((S.1 9) + 1)).2 19 x1.toNatClampNeg)) (ty := .int) (C := RX11) (T := TX11) (N := 42) hx hb hts iX11 tyX11 tyX11_ok nmX11 hown hK hP hD hS 0 rfl rfl 39 (by decide) (hw (.fieldLink RX11 133 "MotionFloorModel$Hall" "lastWords" "I") (List.mem_of_getElem? (i := 2) rfl)) (fun _ h9 => h9) rfl (by decide +kernel) rfl rfl (Nat.le_of_ble_eq_true rfl) dX11_carried_65 (fun H locs hP hD hS => ?_)
      rw [sI_39] at hP hD
      refine lv_iconst (v := 0) hx hb dX11_carried_68 (by decide) ?_
      refine lv_istore_n (lv' := [(3, .int 0), (0, .ref h), (1, .int x1), (2, .int x2)]) hx hb dX11_carried_69 rfl hl (by decide) rfl (fun ls hl => ?_)
      exact L_70 100000 (sI (sI S 9 ((S.1 9) + 1)) 39 ((sI S 9 ((S.1 9) + 1)).2 19 x1.toNatClampNeg)) x1 x2 0 _ _ _ hE hp hP hD hS (lv_sub hl [1, 2, 3, 0] rfl)
    rw [if_neg s1] at hE hp
    have s1 := wNe (b := 1) rfl (by decide) s1
    by_cases s2 : x2 = 2
    · rw [if_pos s2] at hE hp
      refine lv_tableIn (off := 110) (tgt := 111) hx hb dX11_carried_1 (by rw [s2]; decide) (by rw [s2]; decide) (by rw [s2]; decide) (by decide) ?_
      exact B_111 S x1 x2 _ _ _ hE hp hP hD hS (lv_sub hl [0, 1, 2] rfl)
    rw [if_neg s2] at hE hp
    have s2 := wNe (b := 2) rfl (by decide) s2
    by_cases s3 : x2 = 3
    · rw [if_pos s3] at hE hp
      refine lv_tableIn (off := 110) (tgt := 111) hx hb dX11_carried_1 (by rw [s3]; decide) (by rw [s3]; decide) (by rw [s3]; decide) (by decide) ?_
      exact B_111 S x1 x2 _ _ _ hE hp hP hD hS (lv_sub hl [0, 1, 2] rfl)
    rw [if_neg s3] at hE hp
    have s3 := wNe (b := 3) rfl (by decide) s3
    by_cases s6 : x2 = 6
    · rw [if_pos s6] at hE hp
      refine lv_tableIn (off := 133) (tgt := 134) hx hb dX11_carried_1 (by rw [s6]; decide) (by rw [s6]; decide) (by rw [s6]; decide) (by decide) ?_
      refine lv_aload_n hx hb dX11_carried_134 rfl (lv_at hl 0 rfl) ?_
      obtain ⟨hy19, hp⟩ := hp
      refine hGov (va_runV (As := []) (rest := []) ⟨hx, hb, hml, hown, hts⟩ (c_X11_goes l G K h g S _) (cwV 0 hts (wGV t_ (mw (.methodLink RX11 227 yX11_goes) (List.mem_of_getElem? (i := 3) rfl)) (mw (.instanceMethod yX11_goes) (List.mem_of_getElem? (i := 4) rfl)) (mw (.selects RX11 yX11_goes yX11_goes) (List.mem_of_getElem? (i := 5) rfl)) (mw (.initialized RX11) (List.mem_of_getElem? (i := 6) rfl)) j_X11_goes) rfl rfl rfl (by decide +kernel) ⟨Nat.le_of_ble_eq_true rfl, Nat.le_of_ble_eq_true rfl⟩) (hPV hK hTE hP hD hy19) rfl rfl hl.1 rfl (lv_room (Nat.le_of_ble_eq_true rfl)) dX11_carried_135 ⟨Nat.le_of_ble_eq_true rfl, Nat.le_of_ble_eq_true rfl⟩) hP hD hS hA (fun u20 H locs hv hP hD hS => ?_)
      rw [← hv] at hE hp
      dsimp only at hE hp
      unfold b_X11_carried_a138 at hE
      unfold q_X11_carried_a138 at hp
      refine lv_aload_n hx hb dX11_carried_138 rfl (lv_at hl 0 rfl) ?_
      refine va_get (D := G) (ci := 8) (v := .ref (g 24)) (C := RX11) (T := TX11) (N := 42) hx hb hts iX11 hown hK hP 0 rfl rfl 24 (by decide) (hw (.fieldLink RX11 52 "MotionFloorModel$Hall" "closed" "[Z") (List.mem_of_getElem? (i := 14) rfl)) (fun _ h9 => h9) rfl dX11_carried_139 ?_
      refine lv_aload_n hx hb dX11_carried_142 rfl (lv_at hl 0 rfl) ?_
      obtain ⟨hy22, hp⟩ := hp
      refine hGoi (va_runV (As := []) (rest := [.ref (g 24)]) ⟨hx, hb, hml, hown, hts⟩ (c_X11_top l G K h g u20 _) (cwV 0 hts (wGV t_ (mw (.methodLink RX11 155 yX11_top) (List.mem_of_getElem? (i := 15) rfl)) (mw (.instanceMethod yX11_top) (List.mem_of_getElem? (i := 16) rfl)) (mw (.selects RX11 yX11_top yX11_top) (List.mem_of_getElem? (i := 17) rfl)) (mw (.initialized RX11) (List.mem_of_getElem? (i := 6) rfl)) j_X11_top) rfl rfl rfl (by decide +kernel) ⟨Nat.le_of_ble_eq_true rfl, Nat.le_of_ble_eq_true rfl⟩) (hPV hK hTE hP hD hy22) rfl rfl hl.1 rfl (lv_room (Nat.le_of_ble_eq_true rfl)) dX11_carried_143 ⟨Nat.le_of_ble_eq_true rfl, Nat.le_of_ble_eq_true rfl⟩) hP hD hS hA (fun r24 u23 H locs hv hP hD hS => ?_)
      rw [← hv] at hE hp
      dsimp only at hE hp
      unfold b_X11_carried_a146 at hE
      unfold q_X11_carried_a146 at hp
      refine lv_iconst (v := 1) hx hb dX11_carried_146 (by decide) ?_
      obtain ⟨hy25, hp⟩ := hp
      refine va_zast hx hb hK hP hD hS 14 1 rfl rfl hy25 dX11_carried_147 (fun H locs hP hD hS => ?_)
      rw [sA_24] at hP hD
      refine lv_goto (tgt := 373) hx hb dX11_carried_148 (by decide) ?_
      exact B_373 (sA u23 24 r24.toNatClampNeg (vp_nar .boolean 1)) x1 x2 _ _ _ hE hp hP hD hS (lv_sub hl [0, 1, 2] rfl)
    rw [if_neg s6] at hE hp
    have s6 := wNe (b := 6) rfl (by decide) s6
    by_cases s7 : x2 = 7
    · rw [if_pos s7] at hE hp
      refine lv_tableIn (off := 185) (tgt := 186) hx hb dX11_carried_1 (by rw [s7]; decide) (by rw [s7]; decide) (by rw [s7]; decide) (by decide) ?_
      refine lv_aload_n hx hb dX11_carried_186 rfl (lv_at hl 0 rfl) ?_
      obtain ⟨hy31, hp⟩ := hp
      refine hGov (va_runV (As := []) (rest := []) ⟨hx, hb, hml, hown, hts⟩ (c_X11_goes l G K h g S _) (cwV 0 hts (wGV t_ (mw (.methodLink RX11 227 yX11_goes) (List.mem_of_getElem? (i := 3) rfl)) (mw (.instanceMethod yX11_goes) (List.mem_of_getElem? (i := 4) rfl)) (mw (.selects RX11 yX11_goes yX11_goes) (List.mem_of_getElem? (i := 5) rfl)) (mw (.initialized RX11) (List.mem_of_getElem? (i := 6) rfl)) j_X11_goes) rfl rfl rfl (by decide +kernel) ⟨Nat.le_of_ble_eq_true rfl, Nat.le_of_ble_eq_true rfl⟩) (hPV hK hTE hP hD hy31) rfl rfl hl.1 rfl (lv_room (Nat.le_of_ble_eq_true rfl)) dX11_carried_187 ⟨Nat.le_of_ble_eq_true rfl, Nat.le_of_ble_eq_true rfl⟩) hP hD hS hA (fun u32 H locs hv hP hD hS => ?_)
      rw [← hv] at hE hp
      dsimp only at hE hp
      unfold b_X11_carried_a190 at hE
      unfold q_X11_carried_a190 at hp
      refine lv_aload_n hx hb dX11_carried_190 rfl (lv_at hl 0 rfl) ?_
      obtain ⟨hy34, hp⟩ := hp
      refine hGoi (va_runV (As := []) (rest := []) ⟨hx, hb, hml, hown, hts⟩ (c_X11_free l G K h g u32 _) (cwV 0 hts (wGV t_ (mw (.methodLink RX11 193 yX11_free) (List.mem_of_getElem? (i := 18) rfl)) (mw (.instanceMethod yX11_free) (List.mem_of_getElem? (i := 19) rfl)) (mw (.selects RX11 yX11_free yX11_free) (List.mem_of_getElem? (i := 20) rfl)) (mw (.initialized RX11) (List.mem_of_getElem? (i := 6) rfl)) j_X11_free) rfl rfl rfl (by decide +kernel) ⟨Nat.le_of_ble_eq_true rfl, Nat.le_of_ble_eq_true rfl⟩) (hPV hK hTE hP hD hy34) rfl rfl hl.1 rfl (lv_room (Nat.le_of_ble_eq_true rfl)) dX11_carried_191 ⟨Nat.le_of_ble_eq_true rfl, Nat.le_of_ble_eq_true rfl⟩) hP hD hS hA (fun r36 u35 H locs hv hP hD hS => ?_)
      rw [← hv] at hE hp
      dsimp only at hE hp
      unfold b_X11_carried_a194 at hE
      unfold q_X11_carried_a194 at hp
      refine lv_istore_n (lv' := [(3, .int r36), (0, .ref h), (1, .int x1), (2, .int x2)]) hx hb dX11_carried_194 rfl hl (by decide) rfl (fun ls hl => ?_)
      refine lv_iconst (v := 0) hx hb dX11_carried_195 (by decide) ?_
      refine lv_istore (lv' := [(4, .int 0), (3, .int r36), (0, .ref h), (1, .int x1), (2, .int x2)]) hx hb dX11_carried_196 hl (by decide) rfl (fun ls hl => ?_)
      exact L_198 100000 u35 x1 x2 r36 0 _ _ _ hE hp hP hD hS (lv_sub hl [2, 3, 4, 1, 0] rfl)
    rw [if_neg s7] at hE hp
    have s7 := wNe (b := 7) rfl (by decide) s7
    by_cases s8 : x2 = 8
    · rw [if_pos s8] at hE hp
      refine lv_tableIn (off := 150) (tgt := 151) hx hb dX11_carried_1 (by rw [s8]; decide) (by rw [s8]; decide) (by rw [s8]; decide) (by decide) ?_
      refine lv_aload_n hx hb dX11_carried_151 rfl (lv_at hl 0 rfl) ?_
      obtain ⟨hy45, hp⟩ := hp
      refine hGov (va_runV (As := []) (rest := []) ⟨hx, hb, hml, hown, hts⟩ (c_X11_goes l G K h g S _) (cwV 0 hts (wGV t_ (mw (.methodLink RX11 227 yX11_goes) (List.mem_of_getElem? (i := 3) rfl)) (mw (.instanceMethod yX11_goes) (List.mem_of_getElem? (i := 4) rfl)) (mw (.selects RX11 yX11_goes yX11_goes) (List.mem_of_getElem? (i := 5) rfl)) (mw (.initialized RX11) (List.mem_of_getElem? (i := 6) rfl)) j_X11_goes) rfl rfl rfl (by decide +kernel) ⟨Nat.le_of_ble_eq_true rfl, Nat.le_of_ble_eq_true rfl⟩) (hPV hK hTE hP hD hy45) rfl rfl hl.1 rfl (lv_room (Nat.le_of_ble_eq_true rfl)) dX11_carried_152 ⟨Nat.le_of_ble_eq_true rfl, Nat.le_of_ble_eq_true rfl⟩) hP hD hS hA (fun u46 H locs hv hP hD hS => ?_)
      rw [← hv] at hE hp
      dsimp only at hE hp
      unfold b_X11_carried_a155 at hE
      unfold q_X11_carried_a155 at hp
      refine lv_iconst (v := 0) hx hb dX11_carried_155 (by decide) ?_
      refine lv_istore_n (lv' := [(3, .int 0), (0, .ref h), (1, .int x1), (2, .int x2)]) hx hb dX11_carried_156 rfl hl (by decide) rfl (fun ls hl => ?_)
      exact L_157 100000 u46 x1 x2 0 _ _ _ hE hp hP hD hS (lv_sub hl [1, 2, 3, 0] rfl)
    rw [if_neg s8] at hE hp
    have s8 := wNe (b := 8) rfl (by decide) s8
    by_cases s4 : x2 = 4
    · refine lv_tableIn (off := 256) (tgt := 257) hx hb dX11_carried_1 (by rw [s4]; decide) (by rw [s4]; decide) (by rw [s4]; decide) (by decide) ?_
      exact L_257 100000 S x1 x2 _ _ _ hE hp hP hD hS (lv_sub hl [0, 1, 2] rfl)
    have s4 := wNe (b := 4) rfl (by decide) s4
    by_cases s5 : x2 = 5
    · refine lv_tableIn (off := 256) (tgt := 257) hx hb dX11_carried_1 (by rw [s5]; decide) (by rw [s5]; decide) (by rw [s5]; decide) (by decide) ?_
      exact L_257 100000 S x1 x2 _ _ _ hE hp hP hD hS (lv_sub hl [0, 1, 2] rfl)
    have s5 := wNe (b := 5) rfl (by decide) s5
    refine lv_tableOut (tgt := 257) hx hb dX11_carried_1 (by omega) (by decide) ?_
    exact L_257 100000 S x1 x2 _ _ _ hE hp hP hD hS (lv_sub hl [0, 1, 2] rfl)
  exact B_M S0 a1 a2 _ _ _ hX hp hP hD hS hl
def b_X11_told_289 (S : HS) (x1 x2 x3 x4 x5 x6 : Int32) : Int32 × HS := (x5, S)
def q_X11_told_289 (S : HS) (x1 x2 x3 x4 x5 x6 : Int32) : Prop := True
def b_X11_told_a289 (S : HS) (x1 x2 x3 x4 x5 x6 : Int32) : Int32 × HS := (x5, S)
def q_X11_told_a289 (S : HS) (x1 x2 x3 x4 x5 x6 : Int32) : Prop := True
def b_X11_told_a279 (S : HS) (x1 x2 x3 x4 x5 x6 : Int32) : Int32 × HS := if x5 = 4 then (b_X11_told_a289 (f_X11_goes S ).2 x1 x2 x3 x4 x5 x6) else (b_X11_told_289 S x1 x2 x3 x4 x5 x6)
def q_X11_told_a279 (S : HS) (x1 x2 x3 x4 x5 x6 : Int32) : Prop := (if x5 = 4 then (p_X11_goes S ) ∧ (q_X11_told_a289 (f_X11_goes S ).2 x1 x2 x3 x4 x5 x6) else (q_X11_told_289 S x1 x2 x3 x4 x5 x6))
def b_X11_told_a272 (S : HS) (x1 x2 x3 x4 x5 x6 : Int32) : Int32 × HS := (b_X11_told_289 S x1 x2 x3 x4 x5 x6)
def q_X11_told_a272 (S : HS) (x1 x2 x3 x4 x5 x6 : Int32) : Prop := (q_X11_told_289 S x1 x2 x3 x4 x5 x6)
def b_X11_told_184 (S : HS) (x1 x2 x3 x4 x5 : Int32) : Int32 × HS := if x5 = 1 then (b_X11_told_a272 (f_X11_carried (sI (sI (sA (sA (sA (sA (sA S 41 (5 * (S.1 8)).toNatClampNeg (S.1 7)) 41 ((5 * (S.1 8)) + 1).toNatClampNeg x2) 41 ((5 * (S.1 8)) + 2).toNatClampNeg x5) 41 ((5 * (S.1 8)) + 3).toNatClampNeg x3) 41 ((5 * (S.1 8)) + 4).toNatClampNeg x4) 8 (((sA (sA (sA (sA (sA S 41 (5 * (S.1 8)).toNatClampNeg (S.1 7)) 41 ((5 * (S.1 8)) + 1).toNatClampNeg x2) 41 ((5 * (S.1 8)) + 2).toNatClampNeg x5) 41 ((5 * (S.1 8)) + 3).toNatClampNeg x3) 41 ((5 * (S.1 8)) + 4).toNatClampNeg x4).1 8) + 1)) 5 (-1)) x1 x2).2 x1 x2 x3 x4 x5 (5 * (S.1 8))) else (b_X11_told_a279 (f_X11_goes (sI (sI (sA (sA (sA (sA (sA S 41 (5 * (S.1 8)).toNatClampNeg (S.1 7)) 41 ((5 * (S.1 8)) + 1).toNatClampNeg x2) 41 ((5 * (S.1 8)) + 2).toNatClampNeg x5) 41 ((5 * (S.1 8)) + 3).toNatClampNeg x3) 41 ((5 * (S.1 8)) + 4).toNatClampNeg x4) 8 (((sA (sA (sA (sA (sA S 41 (5 * (S.1 8)).toNatClampNeg (S.1 7)) 41 ((5 * (S.1 8)) + 1).toNatClampNeg x2) 41 ((5 * (S.1 8)) + 2).toNatClampNeg x5) 41 ((5 * (S.1 8)) + 3).toNatClampNeg x3) 41 ((5 * (S.1 8)) + 4).toNatClampNeg x4).1 8) + 1)) 5 (-1)) ).2 x1 x2 x3 x4 x5 (5 * (S.1 8)))
def q_X11_told_184 (S : HS) (x1 x2 x3 x4 x5 : Int32) : Prop := (vp_in (5 * (S.1 8)) 3000) ∧ (vp_in ((5 * (S.1 8)) + 1) 3000) ∧ (vp_in ((5 * (S.1 8)) + 2) 3000) ∧ (vp_in ((5 * (S.1 8)) + 3) 3000) ∧ (vp_in ((5 * (S.1 8)) + 4) 3000) ∧ (if x5 = 1 then (p_X11_carried (sI (sI (sA (sA (sA (sA (sA S 41 (5 * (S.1 8)).toNatClampNeg (S.1 7)) 41 ((5 * (S.1 8)) + 1).toNatClampNeg x2) 41 ((5 * (S.1 8)) + 2).toNatClampNeg x5) 41 ((5 * (S.1 8)) + 3).toNatClampNeg x3) 41 ((5 * (S.1 8)) + 4).toNatClampNeg x4) 8 (((sA (sA (sA (sA (sA S 41 (5 * (S.1 8)).toNatClampNeg (S.1 7)) 41 ((5 * (S.1 8)) + 1).toNatClampNeg x2) 41 ((5 * (S.1 8)) + 2).toNatClampNeg x5) 41 ((5 * (S.1 8)) + 3).toNatClampNeg x3) 41 ((5 * (S.1 8)) + 4).toNatClampNeg x4).1 8) + 1)) 5 (-1)) x1 x2) ∧ (q_X11_told_a272 (f_X11_carried (sI (sI (sA (sA (sA (sA (sA S 41 (5 * (S.1 8)).toNatClampNeg (S.1 7)) 41 ((5 * (S.1 8)) + 1).toNatClampNeg x2) 41 ((5 * (S.1 8)) + 2).toNatClampNeg x5) 41 ((5 * (S.1 8)) + 3).toNatClampNeg x3) 41 ((5 * (S.1 8)) + 4).toNatClampNeg x4) 8 (((sA (sA (sA (sA (sA S 41 (5 * (S.1 8)).toNatClampNeg (S.1 7)) 41 ((5 * (S.1 8)) + 1).toNatClampNeg x2) 41 ((5 * (S.1 8)) + 2).toNatClampNeg x5) 41 ((5 * (S.1 8)) + 3).toNatClampNeg x3) 41 ((5 * (S.1 8)) + 4).toNatClampNeg x4).1 8) + 1)) 5 (-1)) x1 x2).2 x1 x2 x3 x4 x5 (5 * (S.1 8))) else (p_X11_goes (sI (sI (sA (sA (sA (sA (sA S 41 (5 * (S.1 8)).toNatClampNeg (S.1 7)) 41 ((5 * (S.1 8)) + 1).toNatClampNeg x2) 41 ((5 * (S.1 8)) + 2).toNatClampNeg x5) 41 ((5 * (S.1 8)) + 3).toNatClampNeg x3) 41 ((5 * (S.1 8)) + 4).toNatClampNeg x4) 8 (((sA (sA (sA (sA (sA S 41 (5 * (S.1 8)).toNatClampNeg (S.1 7)) 41 ((5 * (S.1 8)) + 1).toNatClampNeg x2) 41 ((5 * (S.1 8)) + 2).toNatClampNeg x5) 41 ((5 * (S.1 8)) + 3).toNatClampNeg x3) 41 ((5 * (S.1 8)) + 4).toNatClampNeg x4).1 8) + 1)) 5 (-1)) ) ∧ (q_X11_told_a279 (f_X11_goes (sI (sI (sA (sA (sA (sA (sA S 41 (5 * (S.1 8)).toNatClampNeg (S.1 7)) 41 ((5 * (S.1 8)) + 1).toNatClampNeg x2) 41 ((5 * (S.1 8)) + 2).toNatClampNeg x5) 41 ((5 * (S.1 8)) + 3).toNatClampNeg x3) 41 ((5 * (S.1 8)) + 4).toNatClampNeg x4) 8 (((sA (sA (sA (sA (sA S 41 (5 * (S.1 8)).toNatClampNeg (S.1 7)) 41 ((5 * (S.1 8)) + 1).toNatClampNeg x2) 41 ((5 * (S.1 8)) + 2).toNatClampNeg x5) 41 ((5 * (S.1 8)) + 3).toNatClampNeg x3) 41 ((5 * (S.1 8)) + 4).toNatClampNeg x4).1 8) + 1)) 5 (-1)) ).2 x1 x2 x3 x4 x5 (5 * (S.1 8))))
def b_X11_told_182 (S : HS) (x1 x2 x3 x4 x5 y0 : Int32) : Int32 × HS := (b_X11_told_184 S x1 x2 x3 x4 y0)
def q_X11_told_182 (S : HS) (x1 x2 x3 x4 x5 y0 : Int32) : Prop := (q_X11_told_184 S x1 x2 x3 x4 y0)
def b_X11_told_a174 (S : HS) (x1 x2 x3 x4 x5 y0 : Int32) : Int32 × HS := if y0 = 0 then (b_X11_told_182 S x1 x2 x3 x4 x5 2) else (b_X11_told_182 S x1 x2 x3 x4 x5 1)
def q_X11_told_a174 (S : HS) (x1 x2 x3 x4 x5 y0 : Int32) : Prop := (if y0 = 0 then (q_X11_told_182 S x1 x2 x3 x4 x5 2) else (q_X11_told_182 S x1 x2 x3 x4 x5 1))
def b_X11_told_a152 (S : HS) (x1 x2 x3 x4 x5 y0 : Int32) : Int32 × HS := if y0 = 0 then (b_X11_told_184 S x1 x2 x3 x4 3) else (b_X11_told_a174 (f_X11_carries S (S.2 12 x2.toNatClampNeg) x3 x4).2 x1 x2 x3 x4 x5 (f_X11_carries S (S.2 12 x2.toNatClampNeg) x3 x4).1)
def q_X11_told_a152 (S : HS) (x1 x2 x3 x4 x5 y0 : Int32) : Prop := (if y0 = 0 then (q_X11_told_184 S x1 x2 x3 x4 3) else (vp_in x2 9) ∧ (p_X11_carries S (S.2 12 x2.toNatClampNeg) x3 x4) ∧ (q_X11_told_a174 (f_X11_carries S (S.2 12 x2.toNatClampNeg) x3 x4).2 x1 x2 x3 x4 x5 (f_X11_carries S (S.2 12 x2.toNatClampNeg) x3 x4).1))
def b_X11_told_143 (S : HS) (x1 x2 x3 x4 x5 y0 : Int32) : Int32 × HS := (b_X11_told_184 S x1 x2 x3 x4 y0)
def q_X11_told_143 (S : HS) (x1 x2 x3 x4 x5 y0 : Int32) : Prop := (q_X11_told_184 S x1 x2 x3 x4 y0)
def b_X11_told_142 (S : HS) (x1 x2 x3 x4 x5 : Int32) : Int32 × HS := (b_X11_told_143 S x1 x2 x3 x4 x5 4)
def q_X11_told_142 (S : HS) (x1 x2 x3 x4 x5 : Int32) : Prop := (q_X11_told_143 S x1 x2 x3 x4 x5 4)
def b_X11_told_a129 (S : HS) (x1 x2 x3 x4 x5 y0 : Int32) : Int32 × HS := if y0 = 0 then (b_X11_told_142 S x1 x2 x3 x4 x5) else if x4 ≤ x3 then (b_X11_told_142 S x1 x2 x3 x4 x5) else (b_X11_told_143 S x1 x2 x3 x4 x5 5)
def q_X11_told_a129 (S : HS) (x1 x2 x3 x4 x5 y0 : Int32) : Prop := (if y0 = 0 then (q_X11_told_142 S x1 x2 x3 x4 x5) else (if x4 ≤ x3 then (q_X11_told_142 S x1 x2 x3 x4 x5) else (q_X11_told_143 S x1 x2 x3 x4 x5 5)))
def b_X11_told_119 (S : HS) (x1 x2 x3 x4 x5 : Int32) : Int32 × HS := if x2 = 9 then (b_X11_told_a129 (f_X11_hasSeconder S ).2 x1 x2 x3 x4 x5 (f_X11_hasSeconder S ).1) else (b_X11_told_a152 (f_X11_hasSeconder S ).2 x1 x2 x3 x4 x5 (f_X11_hasSeconder S ).1)
def q_X11_told_119 (S : HS) (x1 x2 x3 x4 x5 : Int32) : Prop := (if x2 = 9 then (p_X11_hasSeconder S ) ∧ (q_X11_told_a129 (f_X11_hasSeconder S ).2 x1 x2 x3 x4 x5 (f_X11_hasSeconder S ).1) else (p_X11_hasSeconder S ) ∧ (q_X11_told_a152 (f_X11_hasSeconder S ).2 x1 x2 x3 x4 x5 (f_X11_hasSeconder S ).1))
def b_X11_told_113 (S : HS) (x1 x2 x3 x4 x5 : Int32) : (Int32 × HS) ⊕ (HS × Int32 × Int32 × Int32 × Int32 × Int32) := Sum.inr (S, x1, x2, x3, x4, (x5 + 1))
def q_X11_told_113 (S : HS) (x1 x2 x3 x4 x5 : Int32) : Prop := True
def b_X11_told_110 (S : HS) (x1 x2 x3 x4 x5 y0 y1 : Int32) : (Int32 × HS) ⊕ (HS × Int32 × Int32 × Int32 × Int32 × Int32) := (b_X11_told_113 S x1 x2 x3 (y1 + y0) x5)
def q_X11_told_110 (S : HS) (x1 x2 x3 x4 x5 y0 y1 : Int32) : Prop := (q_X11_told_113 S x1 x2 x3 (y1 + y0) x5)
def b_X11_told_85 (S : HS) (x1 x2 x3 x4 x5 y0 y1 : Int32) : (Int32 × HS) ⊕ (HS × Int32 × Int32 × Int32 × Int32 × Int32) := if (S.2 29 ((200 * x1) + x5).toNatClampNeg) = 0 then (b_X11_told_110 S x1 x2 (y1 + y0) x4 x5 1 x4) else (b_X11_told_110 S x1 x2 (y1 + y0) x4 x5 0 x4)
def q_X11_told_85 (S : HS) (x1 x2 x3 x4 x5 y0 y1 : Int32) : Prop := (vp_in ((200 * x1) + x5) 18000) ∧ (if (S.2 29 ((200 * x1) + x5).toNatClampNeg) = 0 then (q_X11_told_110 S x1 x2 (y1 + y0) x4 x5 1 x4) else (q_X11_told_110 S x1 x2 (y1 + y0) x4 x5 0 x4))
def b_X11_told_a46 (S : HS) (x1 x2 x3 x4 x5 y0 : Int32) : (Int32 × HS) ⊕ (HS × Int32 × Int32 × Int32 × Int32 × Int32) := if y0 = 0 then Sum.inl ((b_X11_told_119 S x1 x2 x3 x4 x5)) else if (S.2 11 x5.toNatClampNeg) = 0 then (b_X11_told_113 S x1 x2 x3 x4 x5) else if (S.2 29 ((200 * x1) + x5).toNatClampNeg) = 1 then (b_X11_told_85 S x1 x2 x3 x4 x5 1 x3) else (b_X11_told_85 S x1 x2 x3 x4 x5 0 x3)
def q_X11_told_a46 (S : HS) (x1 x2 x3 x4 x5 y0 : Int32) : Prop := (if y0 = 0 then (q_X11_told_119 S x1 x2 x3 x4 x5) else (vp_in x5 200) ∧ (if (S.2 11 x5.toNatClampNeg) = 0 then (q_X11_told_113 S x1 x2 x3 x4 x5) else (vp_in ((200 * x1) + x5) 18000) ∧ (if (S.2 29 ((200 * x1) + x5).toNatClampNeg) = 1 then (q_X11_told_85 S x1 x2 x3 x4 x5 1 x3) else (q_X11_told_85 S x1 x2 x3 x4 x5 0 x3))))
def st_X11_told_33 (S : HS) (x1 x2 x3 x4 x5 : Int32) : (Int32 × HS) ⊕ (HS × Int32 × Int32 × Int32 × Int32 × Int32) := if (S.1 0) ≤ x5 then Sum.inl ((b_X11_told_119 S x1 x2 x3 x4 x5)) else (b_X11_told_a46 (f_X11_hasSeconder S ).2 x1 x2 x3 x4 x5 (f_X11_hasSeconder S ).1)
def ps_X11_told_33 (S : HS) (x1 x2 x3 x4 x5 : Int32) : Prop := (if (S.1 0) ≤ x5 then (q_X11_told_119 S x1 x2 x3 x4 x5) else (p_X11_hasSeconder S ) ∧ (q_X11_told_a46 (f_X11_hasSeconder S ).2 x1 x2 x3 x4 x5 (f_X11_hasSeconder S ).1))
def lp_X11_told_33 : Nat → HS → Int32 → Int32 → Int32 → Int32 → Int32 → Int32 × HS
  | 0, S, _, _, _, _, _ => (0, S)
  | n + 1, S, x1, x2, x3, x4, x5 => match st_X11_told_33 S x1 x2 x3 x4 x5 with
    | Sum.inl r => r
    | Sum.inr q => lp_X11_told_33 n q.1 q.2.1 q.2.2.1 q.2.2.2.1 q.2.2.2.2.1 q.2.2.2.2.2
def lq_X11_told_33 : Nat → HS → Int32 → Int32 → Int32 → Int32 → Int32 → Prop
  | 0, _, _, _, _, _, _ => False
  | n + 1, S, x1, x2, x3, x4, x5 => ps_X11_told_33 S x1 x2 x3 x4 x5 ∧ (match st_X11_told_33 S x1 x2 x3 x4 x5 with
    | Sum.inl _ => True
    | Sum.inr q => lq_X11_told_33 n q.1 q.2.1 q.2.2.1 q.2.2.2.1 q.2.2.2.2.1 q.2.2.2.2.2)
def b_X11_told_a17 (S : HS) (y0 : Int32) : Int32 × HS := (lp_X11_told_33 100000 S y0 (S.2 14 y0.toNatClampNeg) 0 0 0)
def q_X11_told_a17 (S : HS) (y0 : Int32) : Prop := (vp_in y0 90) ∧ (lq_X11_told_33 100000 S y0 (S.2 14 y0.toNatClampNeg) 0 0 0)
def f_X11_told (S : HS)  : Int32 × HS := if (S.1 3) ≤ (S.1 1) then (b_X11_told_a17 (f_X11_top S ).2 (f_X11_top S ).1) else (0, S)
def p_X11_told (S : HS)  : Prop := (if (S.1 3) ≤ (S.1 1) then (p_X11_top S ) ∧ (q_X11_told_a17 (f_X11_top S ).2 (f_X11_top S ).1) else True)
def e_X11_told : List Cond := [.fieldLink RX11 100 "MotionFloorModel$Hall" "there" "I", .fieldLink RX11 106 "MotionFloorModel$Hall" "quorum" "I", .methodLink RX11 155 yX11_top, .instanceMethod yX11_top, .selects RX11 yX11_top yX11_top, .initialized RX11, .fieldLink RX11 22 "MotionFloorModel$Hall" "kind" "[I", .fieldLink RX11 96 "MotionFloorModel$Hall" "seats" "I", .methodLink RX11 159 yX11_hasSeconder, .instanceMethod yX11_hasSeconder, .selects RX11 yX11_hasSeconder yX11_hasSeconder, .fieldLink RX11 15 "MotionFloorModel$Hall" "majority" "[I", .methodLink RX11 233 yX11_carries, .instanceMethod yX11_carries, .selects RX11 yX11_carries yX11_carries, .fieldLink RX11 121 "MotionFloorModel$Hall" "results" "I", .fieldLink RX11 93 "MotionFloorModel$Hall" "result" "[I", .fieldLink RX11 118 "MotionFloorModel$Hall" "entries" "I", .fieldLink RX11 112 "MotionFloorModel$Hall" "floor" "I", .methodLink RX11 227 yX11_goes, .instanceMethod yX11_goes, .selects RX11 yX11_goes yX11_goes, .methodLink RX11 236 yX11_carried, .instanceMethod yX11_carried, .selects RX11 yX11_carried yX11_carried, .fieldLink RX11 9 "MotionFloorModel$Hall" "isThere" "[Z", .fieldLink RX11 68 "MotionFloorModel$Hall" "ballot" "[B"]
def v_X11_told : List Cond := .code yX11_told cX11_told 7 (some .int) :: (e_X11_told ++ (wsX110 ++ (v_X11_top ++ (v_X11_hasSeconder ++ (v_X11_carries ++ (v_X11_goes ++ (v_X11_carried ++ [])))))))
theorem te_X11_told : GoodIn lw_tbl e_X11_told := wGc z117 (wGc z116 (wGc z91 (wGc z90 (wGc z89 (wGc z51 (wGc z78 (wGc z48 (wGc z112 (wGc z111 (wGc z110 (wGc z170 (wGc z169 (wGc z168 (wGc z167 (wGc z166 (wGc z165 (wGc z164 (wGc z118 (wGc z157 (wGc z156 (wGc z155 (wGc z163 (wGc z162 (wGc z161 (wGc z50 (wGc z59 (wG0)))))))))))))))))))))))))))
theorem t_X11_told : GoodIn lw_tbl v_X11_told := wGc z171 (wGa te_X11_told (wGa zcX11 (wGa t_X11_top (wGa t_X11_hasSeconder (wGa t_X11_carries (wGa t_X11_goes (wGa t_X11_carried (wG0))))))))
set_option maxHeartbeats 4000000 in
set_option maxRecDepth 100000 in
theorem c_X11_told (l : Launch) (G : va_G) (K : Nat → ClassId) (h : Nat) (g : Nat → Nat) (S0 : HS)  (sz : Nat) : Met l yX11_told v_X11_told ({ frames := 3, cells := 0, slots := 0, locals := 75 }) (va_Pc [.ref h] (hS G K h g sz S0 (p_X11_told S0))) (va_Qi (fun (r : Int32) (u : HS) => (r, u) = f_X11_told S0) (hB G K h g (va_A (hW K h g S0) sz)) (va_A (hW K h g S0) sz)) 0 0 (va_A (hW K h g S0) sz) := by
  refine Met.ofW (cc := cX11_told) (maxL := 7) (ret := (some .int)) (by decide) rfl ?_
  intro p e s m args below meth c s₁ B hml hv
  obtain ⟨rfl, ⟨hsz, hP, hK, hD0, hTE⟩, hp⟩ := hv
  have hx := B.exec
  have hb := B.bytes
  have hr := B.returns
  have hts := atoms_spec (ws := v_X11_told) B.pre
  have t_ := t_X11_told
  have mw : ∀ w ∈ e_X11_told, w ∈ v_X11_told := fun w h => List.mem_cons_of_mem _ (List.mem_append_left _ h)
  have hw := fun w (h : w ∈ e_X11_told) => hts w (mw w h)
  have iX11 : ∀ w ∈ wsX110, w ∈ v_X11_told := fun w h => List.mem_cons_of_mem _ (List.mem_append_right _ (List.mem_append_left _ h))
  have j_X11_top : ∀ w ∈ v_X11_top, w ∈ v_X11_told := fun w h => List.mem_cons_of_mem _ (List.mem_append_right _ (List.mem_append_right _ (List.mem_append_left _ h)))
  have j_X11_hasSeconder : ∀ w ∈ v_X11_hasSeconder, w ∈ v_X11_told := fun w h => List.mem_cons_of_mem _ (List.mem_append_right _ (List.mem_append_right _ (List.mem_append_right _ (List.mem_append_left _ h))))
  have j_X11_carries : ∀ w ∈ v_X11_carries, w ∈ v_X11_told := fun w h => List.mem_cons_of_mem _ (List.mem_append_right _ (List.mem_append_right _ (List.mem_append_right _ (List.mem_append_right _ (List.mem_append_left _ h)))))
  have j_X11_goes : ∀ w ∈ v_X11_goes, w ∈ v_X11_told := fun w h => List.mem_cons_of_mem _ (List.mem_append_right _ (List.mem_append_right _ (List.mem_append_right _ (List.mem_append_right _ (List.mem_append_right _ (List.mem_append_left _ h))))))
  have j_X11_carried : ∀ w ∈ v_X11_carried, w ∈ v_X11_told := fun w h => List.mem_cons_of_mem _ (List.mem_append_right _ (List.mem_append_right _ (List.mem_append_right _ (List.mem_append_right _ (List.mem_append_right _ (List.mem_append_right _ (List.mem_append_left _ h)))))))
  have hown : s.vm.findClass RX11 = some m.cls := findClass_of_methodNamed B.named
  have hlocks := B.notSynchronized
  subst hsz
  have hD := hD0.self (sz := s.heap.size)
  generalize hAe : va_A (hW K h g S0) s.heap.size = A at hD ⊢
  have hA : ∀ q : Nat, s.heap.size ≤ q → A q := fun q h => by rw [← hAe]; exact Or.inr h
  have hS : va_S A s.heap s.heap [] := va_S.rf
  have hl := lv_entry ([.ref h]) (n := 7) (Nat.le_of_ble_eq_true rfl)
  rw [lg_entry_eq]
  generalize (lg_sl ([.ref h]) ++ List.replicate (7 - (lg_sl ([.ref h])).length) Slot.unset).toArray = ls at hl ⊢
  have hl : lv_has ls 7 [(0, .ref h)] := hl
  refine wGen (fun Q hQ => ?_)
  obtain ⟨X, hX⟩ : ∃ X, f_X11_told S0 = X := ⟨_, rfl⟩
  have B_289 : ∀ (S : HS) (x1 x2 x3 x4 x5 x6 : Int32) (H : Heap) (locs : List Loc) (ls : Array Slot), b_X11_told_289 S x1 x2 x3 x4 x5 x6 = X → q_X11_told_289 S x1 x2 x3 x4 x5 x6 → va_P G vwCl (hW K h g S) H → va_D A (hW K h g S) → va_S A s.heap H locs → lv_has ls 7 [(0, .ref h), (1, .int x1), (2, .int x2), (3, .int x3), (4, .int x4), (5, .int x5), (6, .int x6)] → W p l e ({ frames := 3, cells := 0, slots := 0, locals := 75 } : Room) s m #[Value.ref h] below meth c H locs 0 0 Q (F0 m 289 ls []) := by
    intro S x1 x2 x3 x4 x5 x6 H locs ls hE hp hP hD hS hl
    unfold b_X11_told_289 at hE
    unfold q_X11_told_289 at hp
    refine lv_iload hx hb dX11_told_289 (lv_at hl 5 rfl) ?_
    subst hQ
    exact W.iret (v := x5) hx hb hr (fun t ht hW => ⟨⟨x5, S, rfl, hE.trans hX.symm, by rw [ht]; exact hP, hD⟩, hS.F ht⟩) hS.2.2 dX11_told_291
  have B_184 : ∀ (S : HS) (x1 x2 x3 x4 x5 : Int32) (H : Heap) (locs : List Loc) (ls : Array Slot), b_X11_told_184 S x1 x2 x3 x4 x5 = X → q_X11_told_184 S x1 x2 x3 x4 x5 → va_P G vwCl (hW K h g S) H → va_D A (hW K h g S) → va_S A s.heap H locs → lv_has ls 7 [(0, .ref h), (1, .int x1), (2, .int x2), (3, .int x3), (4, .int x4), (5, .int x5)] → W p l e ({ frames := 3, cells := 0, slots := 0, locals := 75 } : Room) s m #[Value.ref h] below meth c H locs 0 0 Q (F0 m 184 ls []) := by
    intro S x1 x2 x3 x4 x5 H locs ls hE hp hP hD hS hl
    unfold b_X11_told_184 at hE
    unfold q_X11_told_184 at hp
    refine lv_iconst (v := 5) hx hb dX11_told_184 (by decide) ?_
    refine lv_aload_n hx hb dX11_told_185 rfl (lv_at hl 0 rfl) ?_
    refine va_get (D := G) (ci := 8) (v := .int (S.1 8)) (C := RX11) (T := TX11) (N := 42) hx hb hts iX11 hown hK hP 0 rfl rfl 8 (by decide) (hw (.fieldLink RX11 121 "MotionFloorModel$Hall" "results" "I") (List.mem_of_getElem? (i := 15) rfl)) (fun _ h9 => h9) rfl dX11_told_186 ?_
    refine lv_imul hx hb dX11_told_189 ?_
    refine lv_istore (lv' := [(6, .int (5 * (S.1 8))), (0, .ref h), (1, .int x1), (2, .int x2), (3, .int x3), (4, .int x4), (5, .int x5)]) hx hb dX11_told_190 hl (by decide) rfl (fun ls hl => ?_)
    refine lv_aload_n hx hb dX11_told_192 rfl (lv_at hl 1 rfl) ?_
    refine va_get (D := G) (ci := 8) (v := .ref (g 41)) (C := RX11) (T := TX11) (N := 42) hx hb hts iX11 hown hK hP 0 rfl rfl 41 (by decide) (hw (.fieldLink RX11 93 "MotionFloorModel$Hall" "result" "[I") (List.mem_of_getElem? (i := 16) rfl)) (fun _ h9 => h9) rfl dX11_told_193 ?_
    refine lv_iload hx hb dX11_told_196 (lv_at hl 0 rfl) ?_
    refine lv_aload_n hx hb dX11_told_198 rfl (lv_at hl 1 rfl) ?_
    refine va_get (D := G) (ci := 8) (v := .int (S.1 7)) (C := RX11) (T := TX11) (N := 42) hx hb hts iX11 hown hK hP 0 rfl rfl 7 (by decide) (hw (.fieldLink RX11 118 "MotionFloorModel$Hall" "entries" "I") (List.mem_of_getElem? (i := 17) rfl)) (fun _ h9 => h9) rfl dX11_told_199 ?_
    obtain ⟨hy17, hp⟩ := hp
    refine va_iast hx hb hK hP hD hS 27 0 rfl rfl hy17 dX11_told_202 (fun H locs hP hD hS => ?_)
    rw [sA_41] at hP hD
    refine lv_aload_n hx hb dX11_told_203 rfl (lv_at hl 1 rfl) ?_
    refine va_get (D := G) (ci := 8) (v := .ref (g 41)) (C := RX11) (T := TX11) (N := 42) hx hb hts iX11 hown hK hP 0 rfl rfl 41 (by decide) (hw (.fieldLink RX11 93 "MotionFloorModel$Hall" "result" "[I") (List.mem_of_getElem? (i := 16) rfl)) (fun _ h9 => h9) rfl dX11_told_204 ?_
    refine lv_iload hx hb dX11_told_207 (lv_at hl 0 rfl) ?_
    refine lv_iconst (v := 1) hx hb dX11_told_209 (by decide) ?_
    refine lv_iadd hx hb dX11_told_210 ?_
    refine lv_iload_n hx hb dX11_told_211 rfl (lv_at hl 3 rfl) ?_
    obtain ⟨hy18, hp⟩ := hp
    refine va_iast hx hb hK hP hD hS 27 0 rfl rfl hy18 dX11_told_212 (fun H locs hP hD hS => ?_)
    rw [sA_41] at hP hD
    refine lv_aload_n hx hb dX11_told_213 rfl (lv_at hl 1 rfl) ?_
    refine va_get (D := G) (ci := 8) (v := .ref (g 41)) (C := RX11) (T := TX11) (N := 42) hx hb hts iX11 hown hK hP 0 rfl rfl 41 (by decide) (hw (.fieldLink RX11 93 "MotionFloorModel$Hall" "result" "[I") (List.mem_of_getElem? (i := 16) rfl)) (fun _ h9 => h9) rfl dX11_told_214 ?_
    refine lv_iload hx hb dX11_told_217 (lv_at hl 0 rfl) ?_
    refine lv_iconst (v := 2) hx hb dX11_told_219 (by decide) ?_
    refine lv_iadd hx hb dX11_told_220 ?_
    refine lv_iload hx hb dX11_told_221 (lv_at hl 6 rfl) ?_
    obtain ⟨hy19, hp⟩ := hp
    refine va_iast hx hb hK hP hD hS 27 0 rfl rfl hy19 dX11_told_223 (fun H locs hP hD hS => ?_)
    rw [sA_41] at hP hD
    refine lv_aload_n hx hb dX11_told_224 rfl (lv_at hl 1 rfl) ?_
    refine va_get (D := G) (ci := 8) (v := .ref (g 41)) (C := RX11) (T := TX11) (N := 42) hx hb hts iX11 hown hK hP 0 rfl rfl 41 (by decide) (hw (.fieldLink RX11 93 "MotionFloorModel$Hall" "result" "[I") (List.mem_of_getElem? (i := 16) rfl)) (fun _ h9 => h9) rfl dX11_told_225 ?_
    refine lv_iload hx hb dX11_told_228 (lv_at hl 0 rfl) ?_
    refine lv_iconst (v := 3) hx hb dX11_told_230 (by decide) ?_
    refine lv_iadd hx hb dX11_told_231 ?_
    refine lv_iload_n hx hb dX11_told_232 rfl (lv_at hl 4 rfl) ?_
    obtain ⟨hy20, hp⟩ := hp
    refine va_iast hx hb hK hP hD hS 27 0 rfl rfl hy20 dX11_told_233 (fun H locs hP hD hS => ?_)
    rw [sA_41] at hP hD
    refine lv_aload_n hx hb dX11_told_234 rfl (lv_at hl 1 rfl) ?_
    refine va_get (D := G) (ci := 8) (v := .ref (g 41)) (C := RX11) (T := TX11) (N := 42) hx hb hts iX11 hown hK hP 0 rfl rfl 41 (by decide) (hw (.fieldLink RX11 93 "MotionFloorModel$Hall" "result" "[I") (List.mem_of_getElem? (i := 16) rfl)) (fun _ h9 => h9) rfl dX11_told_235 ?_
    refine lv_iload hx hb dX11_told_238 (lv_at hl 0 rfl) ?_
    refine lv_iconst (v := 4) hx hb dX11_told_240 (by decide) ?_
    refine lv_iadd hx hb dX11_told_241 ?_
    refine lv_iload hx hb dX11_told_242 (lv_at hl 5 rfl) ?_
    obtain ⟨hy21, hp⟩ := hp
    refine va_iast hx hb hK hP hD hS 27 0 rfl rfl hy21 dX11_told_244 (fun H locs hP hD hS => ?_)
    rw [sA_41] at hP hD
    refine lv_aload_n hx hb dX11_told_245 rfl (lv_at hl 1 rfl) ?_
    refine lv_dup hx hb dX11_told_246 rfl ?_
    refine va_get (D := G) (ci := 8) (v := .int ((sA (sA (sA (sA (sA S 41 (5 * (S.1 8)).toNatClampNeg (S.1 7)) 41 ((5 * (S.1 8)) + 1).toNatClampNeg x2) 41 ((5 * (S.1 8)) + 2).toNatClampNeg x5) 41 ((5 * (S.1 8)) + 3).toNatClampNeg x3) 41 ((5 * (S.1 8)) + 4).toNatClampNeg x4).1 8)) (C := RX11) (T := TX11) (N := 42) hx hb hts iX11 hown hK hP 0 rfl rfl 8 (by decide) (hw (.fieldLink RX11 121 "MotionFloorModel$Hall" "results" "I") (List.mem_of_getElem? (i := 15) rfl)) (fun _ h9 => h9) rfl dX11_told_247 ?_
    refine lv_iconst (v := 1) hx hb dX11_told_250 (by decide) ?_
    refine lv_iadd hx hb dX11_told_251 ?_
    refine va_put (D := G) (ci := 8) (v := .int (((sA (sA (sA (sA (sA S 41 (5 * (S.1 8)).toNatClampNeg (S.1 7)) 41 ((5 * (S.1 8)) + 1).toNatClampNeg x2) 41 ((5 * (S.1 8)) + 2).toNatClampNeg x5) 41 ((5 * (S.1 8)) + 3).toNatClampNeg x3) 41 ((5 * (S.1 8)) + 4).toNatClampNeg x4).1 8) + 1)) (ty := .int) (C := RX11) (T := TX11) (N := 42) hx hb hts iX11 tyX11 tyX11_ok nmX11 hown hK hP hD hS 0 rfl rfl 8 (by decide) (hw (.fieldLink RX11 121 "MotionFloorModel$Hall" "results" "I") (List.mem_of_getElem? (i := 15) rfl)) (fun _ h9 => h9) rfl (by decide +kernel) rfl rfl (Nat.le_of_ble_eq_true rfl) dX11_told_252 (fun H locs hP hD hS => ?_)
    rw [sI_8] at hP hD
    refine lv_aload_n hx hb dX11_told_255 rfl (lv_at hl 1 rfl) ?_
    refine lv_iconst (v := (-1)) hx hb dX11_told_256 (by decide) ?_
    refine va_put (D := G) (ci := 8) (v := .int (-1)) (ty := .int) (C := RX11) (T := TX11) (N := 42) hx hb hts iX11 tyX11 tyX11_ok nmX11 hown hK hP hD hS 0 rfl rfl 5 (by decide) (hw (.fieldLink RX11 112 "MotionFloorModel$Hall" "floor" "I") (List.mem_of_getElem? (i := 18) rfl)) (fun _ h9 => h9) rfl (by decide +kernel) rfl rfl (Nat.le_of_ble_eq_true rfl) dX11_told_257 (fun H locs hP hD hS => ?_)
    rw [sI_5] at hP hD
    refine lv_iload hx hb dX11_told_260 (lv_at hl 6 rfl) ?_
    refine lv_iconst (v := 1) hx hb dX11_told_262 (by decide) ?_
    refine lv_icmp_ne (tgt := 275) hx hb dX11_told_263 (by decide) (fun c22 => ?_) (fun c22 => ?_)
    · rw [if_neg c22] at hE hp
      refine lv_aload_n hx hb dX11_told_275 rfl (lv_at hl 1 rfl) ?_
      obtain ⟨hy23, hp⟩ := hp
      refine hGov (va_runV (As := []) (rest := []) ⟨hx, hb, hml, hown, hts⟩ (c_X11_goes l G K h g (sI (sI (sA (sA (sA (sA (sA S 41 (5 * (S.1 8)).toNatClampNeg (S.1 7)) 41 ((5 * (S.1 8)) + 1).toNatClampNeg x2) 41 ((5 * (S.1 8)) + 2).toNatClampNeg x5) 41 ((5 * (S.1 8)) + 3).toNatClampNeg x3) 41 ((5 * (S.1 8)) + 4).toNatClampNeg x4) 8 (((sA (sA (sA (sA (sA S 41 (5 * (S.1 8)).toNatClampNeg (S.1 7)) 41 ((5 * (S.1 8)) + 1).toNatClampNeg x2) 41 ((5 * (S.1 8)) + 2).toNatClampNeg x5) 41 ((5 * (S.1 8)) + 3).toNatClampNeg x3) 41 ((5 * (S.1 8)) + 4).toNatClampNeg x4).1 8) + 1)) 5 (-1)) _) (cwV 0 hts (wGV t_ (mw (.methodLink RX11 227 yX11_goes) (List.mem_of_getElem? (i := 19) rfl)) (mw (.instanceMethod yX11_goes) (List.mem_of_getElem? (i := 20) rfl)) (mw (.selects RX11 yX11_goes yX11_goes) (List.mem_of_getElem? (i := 21) rfl)) (mw (.initialized RX11) (List.mem_of_getElem? (i := 5) rfl)) j_X11_goes) rfl rfl rfl (by decide +kernel) ⟨Nat.le_of_ble_eq_true rfl, Nat.le_of_ble_eq_true rfl⟩) (hPV hK hTE hP hD hy23) rfl rfl hl.1 rfl (lv_room (Nat.le_of_ble_eq_true rfl)) dX11_told_276 ⟨Nat.le_of_ble_eq_true rfl, Nat.le_of_ble_eq_true rfl⟩) hP hD hS hA (fun u24 H locs hv hP hD hS => ?_)
      rw [← hv] at hE hp
      dsimp only at hE hp
      unfold b_X11_told_a279 at hE
      unfold q_X11_told_a279 at hp
      refine lv_iload hx hb dX11_told_279 (lv_at hl 6 rfl) ?_
      refine lv_iconst (v := 4) hx hb dX11_told_281 (by decide) ?_
      refine lv_icmp_ne (tgt := 289) hx hb dX11_told_282 (by decide) (fun c26 => ?_) (fun c26 => ?_)
      · rw [if_neg c26] at hE hp
        exact B_289 u24 x1 x2 x3 x4 x5 (5 * (S.1 8)) _ _ _ hE hp hP hD hS (lv_sub hl [1, 2, 3, 4, 5, 6, 0] rfl)
      · rw [if_pos c26] at hE hp
        refine lv_aload_n hx hb dX11_told_285 rfl (lv_at hl 1 rfl) ?_
        obtain ⟨hy27, hp⟩ := hp
        refine hGov (va_runV (As := []) (rest := []) ⟨hx, hb, hml, hown, hts⟩ (c_X11_goes l G K h g u24 _) (cwV 0 hts (wGV t_ (mw (.methodLink RX11 227 yX11_goes) (List.mem_of_getElem? (i := 19) rfl)) (mw (.instanceMethod yX11_goes) (List.mem_of_getElem? (i := 20) rfl)) (mw (.selects RX11 yX11_goes yX11_goes) (List.mem_of_getElem? (i := 21) rfl)) (mw (.initialized RX11) (List.mem_of_getElem? (i := 5) rfl)) j_X11_goes) rfl rfl rfl (by decide +kernel) ⟨Nat.le_of_ble_eq_true rfl, Nat.le_of_ble_eq_true rfl⟩) (hPV hK hTE hP hD hy27) rfl rfl hl.1 rfl (lv_room (Nat.le_of_ble_eq_true rfl)) dX11_told_286 ⟨Nat.le_of_ble_eq_true rfl, Nat.le_of_ble_eq_true rfl⟩) hP hD hS hA (fun u28 H locs hv hP hD hS => ?_)
        rw [← hv] at hE hp
        dsimp only at hE hp
        unfold b_X11_told_a289 at hE
        unfold q_X11_told_a289 at hp
        refine lv_iload hx hb dX11_told_289 (lv_at hl 6 rfl) ?_
        subst hQ
        exact W.iret (v := x5) hx hb hr (fun t ht hW => ⟨⟨x5, u28, rfl, hE.trans hX.symm, by rw [ht]; exact hP, hD⟩, hS.F ht⟩) hS.2.2 dX11_told_291
    · rw [if_pos c22] at hE hp
      refine lv_aload_n hx hb dX11_told_266 rfl (lv_at hl 1 rfl) ?_
      refine lv_iload_n hx hb dX11_told_267 rfl (lv_at hl 2 rfl) ?_
      refine lv_iload_n hx hb dX11_told_268 rfl (lv_at hl 3 rfl) ?_
      obtain ⟨hy34, hp⟩ := hp
      refine hGov (va_runV (As := [.int x1, .int x2]) (rest := []) ⟨hx, hb, hml, hown, hts⟩ (c_X11_carried l G K h g (sI (sI (sA (sA (sA (sA (sA S 41 (5 * (S.1 8)).toNatClampNeg (S.1 7)) 41 ((5 * (S.1 8)) + 1).toNatClampNeg x2) 41 ((5 * (S.1 8)) + 2).toNatClampNeg x5) 41 ((5 * (S.1 8)) + 3).toNatClampNeg x3) 41 ((5 * (S.1 8)) + 4).toNatClampNeg x4) 8 (((sA (sA (sA (sA (sA S 41 (5 * (S.1 8)).toNatClampNeg (S.1 7)) 41 ((5 * (S.1 8)) + 1).toNatClampNeg x2) 41 ((5 * (S.1 8)) + 2).toNatClampNeg x5) 41 ((5 * (S.1 8)) + 3).toNatClampNeg x3) 41 ((5 * (S.1 8)) + 4).toNatClampNeg x4).1 8) + 1)) 5 (-1)) x1 x2 _) (cwV 2 hts (wGV t_ (mw (.methodLink RX11 236 yX11_carried) (List.mem_of_getElem? (i := 22) rfl)) (mw (.instanceMethod yX11_carried) (List.mem_of_getElem? (i := 23) rfl)) (mw (.selects RX11 yX11_carried yX11_carried) (List.mem_of_getElem? (i := 24) rfl)) (mw (.initialized RX11) (List.mem_of_getElem? (i := 5) rfl)) j_X11_carried) rfl rfl rfl (by decide +kernel) ⟨Nat.le_of_ble_eq_true rfl, Nat.le_of_ble_eq_true rfl⟩) (hPV hK hTE hP hD hy34) rfl rfl hl.1 rfl (lv_room (Nat.le_of_ble_eq_true rfl)) dX11_told_269 ⟨Nat.le_of_ble_eq_true rfl, Nat.le_of_ble_eq_true rfl⟩) hP hD hS hA (fun u35 H locs hv hP hD hS => ?_)
      rw [← hv] at hE hp
      dsimp only at hE hp
      unfold b_X11_told_a272 at hE
      unfold q_X11_told_a272 at hp
      refine lv_goto (tgt := 289) hx hb dX11_told_272 (by decide) ?_
      exact B_289 u35 x1 x2 x3 x4 x5 (5 * (S.1 8)) _ _ _ hE hp hP hD hS (lv_sub hl [1, 2, 3, 4, 5, 6, 0] rfl)
  have B_182 : ∀ (S : HS) (x1 x2 x3 x4 x5 y0 : Int32) (H : Heap) (locs : List Loc) (ls : Array Slot), b_X11_told_182 S x1 x2 x3 x4 x5 y0 = X → q_X11_told_182 S x1 x2 x3 x4 x5 y0 → va_P G vwCl (hW K h g S) H → va_D A (hW K h g S) → va_S A s.heap H locs → lv_has ls 7 [(0, .ref h), (1, .int x1), (2, .int x2), (3, .int x3), (4, .int x4), (5, .int x5)] → W p l e ({ frames := 3, cells := 0, slots := 0, locals := 75 } : Room) s m #[Value.ref h] below meth c H locs 0 0 Q (F0 m 182 ls [.int y0]) := by
    intro S x1 x2 x3 x4 x5 y0 H locs ls hE hp hP hD hS hl
    unfold b_X11_told_182 at hE
    unfold q_X11_told_182 at hp
    refine lv_istore (lv' := [(5, .int y0), (0, .ref h), (1, .int x1), (2, .int x2), (3, .int x3), (4, .int x4)]) hx hb dX11_told_182 hl (by decide) rfl (fun ls hl => ?_)
    exact B_184 S x1 x2 x3 x4 y0 _ _ _ hE hp hP hD hS (lv_sub hl [1, 2, 3, 4, 5, 0] rfl)
  have B_143 : ∀ (S : HS) (x1 x2 x3 x4 x5 y0 : Int32) (H : Heap) (locs : List Loc) (ls : Array Slot), b_X11_told_143 S x1 x2 x3 x4 x5 y0 = X → q_X11_told_143 S x1 x2 x3 x4 x5 y0 → va_P G vwCl (hW K h g S) H → va_D A (hW K h g S) → va_S A s.heap H locs → lv_has ls 7 [(0, .ref h), (1, .int x1), (2, .int x2), (3, .int x3), (4, .int x4), (5, .int x5)] → W p l e ({ frames := 3, cells := 0, slots := 0, locals := 75 } : Room) s m #[Value.ref h] below meth c H locs 0 0 Q (F0 m 143 ls [.int y0]) := by
    intro S x1 x2 x3 x4 x5 y0 H locs ls hE hp hP hD hS hl
    unfold b_X11_told_143 at hE
    unfold q_X11_told_143 at hp
    refine lv_istore (lv' := [(5, .int y0), (0, .ref h), (1, .int x1), (2, .int x2), (3, .int x3), (4, .int x4)]) hx hb dX11_told_143 hl (by decide) rfl (fun ls hl => ?_)
    refine lv_goto (tgt := 184) hx hb dX11_told_145 (by decide) ?_
    exact B_184 S x1 x2 x3 x4 y0 _ _ _ hE hp hP hD hS (lv_sub hl [1, 2, 3, 4, 5, 0] rfl)
  have B_142 : ∀ (S : HS) (x1 x2 x3 x4 x5 : Int32) (H : Heap) (locs : List Loc) (ls : Array Slot), b_X11_told_142 S x1 x2 x3 x4 x5 = X → q_X11_told_142 S x1 x2 x3 x4 x5 → va_P G vwCl (hW K h g S) H → va_D A (hW K h g S) → va_S A s.heap H locs → lv_has ls 7 [(0, .ref h), (1, .int x1), (2, .int x2), (3, .int x3), (4, .int x4), (5, .int x5)] → W p l e ({ frames := 3, cells := 0, slots := 0, locals := 75 } : Room) s m #[Value.ref h] below meth c H locs 0 0 Q (F0 m 142 ls []) := by
    intro S x1 x2 x3 x4 x5 H locs ls hE hp hP hD hS hl
    unfold b_X11_told_142 at hE
    unfold q_X11_told_142 at hp
    refine lv_iconst (v := 4) hx hb dX11_told_142 (by decide) ?_
    exact B_143 S x1 x2 x3 x4 x5 4 _ _ _ hE hp hP hD hS (lv_sub hl [0, 1, 2, 3, 4, 5] rfl)
  have B_119 : ∀ (S : HS) (x1 x2 x3 x4 x5 : Int32) (H : Heap) (locs : List Loc) (ls : Array Slot), b_X11_told_119 S x1 x2 x3 x4 x5 = X → q_X11_told_119 S x1 x2 x3 x4 x5 → va_P G vwCl (hW K h g S) H → va_D A (hW K h g S) → va_S A s.heap H locs → lv_has ls 7 [(0, .ref h), (1, .int x1), (2, .int x2), (3, .int x3), (4, .int x4), (5, .int x5)] → W p l e ({ frames := 3, cells := 0, slots := 0, locals := 75 } : Room) s m #[Value.ref h] below meth c H locs 0 0 Q (F0 m 119 ls []) := by
    intro S x1 x2 x3 x4 x5 H locs ls hE hp hP hD hS hl
    unfold b_X11_told_119 at hE
    unfold q_X11_told_119 at hp
    refine lv_iload_n hx hb dX11_told_119 rfl (lv_at hl 2 rfl) ?_
    refine lv_bipush (v := 9) hx hb dX11_told_120 (by decide) ?_
    refine lv_icmp_ne (tgt := 148) hx hb dX11_told_122 (by decide) (fun c7 => ?_) (fun c7 => ?_)
    · rw [if_neg c7] at hE hp
      refine lv_aload_n hx hb dX11_told_148 rfl (lv_at hl 0 rfl) ?_
      obtain ⟨hy8, hp⟩ := hp
      refine hGoi (va_runV (As := []) (rest := []) ⟨hx, hb, hml, hown, hts⟩ (c_X11_hasSeconder l G K h g S _) (cwV 0 hts (wGV t_ (mw (.methodLink RX11 159 yX11_hasSeconder) (List.mem_of_getElem? (i := 8) rfl)) (mw (.instanceMethod yX11_hasSeconder) (List.mem_of_getElem? (i := 9) rfl)) (mw (.selects RX11 yX11_hasSeconder yX11_hasSeconder) (List.mem_of_getElem? (i := 10) rfl)) (mw (.initialized RX11) (List.mem_of_getElem? (i := 5) rfl)) j_X11_hasSeconder) rfl rfl rfl (by decide +kernel) ⟨Nat.le_of_ble_eq_true rfl, Nat.le_of_ble_eq_true rfl⟩) (hPV hK hTE hP hD hy8) rfl rfl hl.1 rfl (lv_room (Nat.le_of_ble_eq_true rfl)) dX11_told_149 ⟨Nat.le_of_ble_eq_true rfl, Nat.le_of_ble_eq_true rfl⟩) hP hD hS hA (fun r10 u9 H locs hv hP hD hS => ?_)
      rw [← hv] at hE hp
      dsimp only at hE hp
      unfold b_X11_told_a152 at hE
      unfold q_X11_told_a152 at hp
      refine lv_if_ne (tgt := 161) hx hb dX11_told_152 (by decide) (fun c11 => ?_) (fun c11 => ?_)
      · rw [if_neg c11] at hE hp
        refine lv_aload_n hx hb dX11_told_161 rfl (lv_at hl 0 rfl) ?_
        refine lv_aload_n hx hb dX11_told_162 rfl (lv_at hl 0 rfl) ?_
        refine va_get (D := G) (ci := 8) (v := .ref (g 12)) (C := RX11) (T := TX11) (N := 42) hx hb hts iX11 hown hK hP 0 rfl rfl 12 (by decide) (hw (.fieldLink RX11 15 "MotionFloorModel$Hall" "majority" "[I") (List.mem_of_getElem? (i := 11) rfl)) (fun _ h9 => h9) rfl dX11_told_163 ?_
        refine lv_iload_n hx hb dX11_told_166 rfl (lv_at hl 2 rfl) ?_
        obtain ⟨hy12, hp⟩ := hp
        refine va_iald hx hb hK hP 2 0 rfl rfl hy12 dX11_told_167 ?_
        refine lv_iload_n hx hb dX11_told_168 rfl (lv_at hl 3 rfl) ?_
        refine lv_iload hx hb dX11_told_169 (lv_at hl 4 rfl) ?_
        obtain ⟨hy13, hp⟩ := hp
        refine hGoi (va_runV (As := [.int (u9.2 12 x2.toNatClampNeg), .int x3, .int x4]) (rest := []) ⟨hx, hb, hml, hown, hts⟩ (c_X11_carries l G K h g u9 (u9.2 12 x2.toNatClampNeg) x3 x4 _) (cwV 3 hts (wGV t_ (mw (.methodLink RX11 233 yX11_carries) (List.mem_of_getElem? (i := 12) rfl)) (mw (.instanceMethod yX11_carries) (List.mem_of_getElem? (i := 13) rfl)) (mw (.selects RX11 yX11_carries yX11_carries) (List.mem_of_getElem? (i := 14) rfl)) (mw (.initialized RX11) (List.mem_of_getElem? (i := 5) rfl)) j_X11_carries) rfl rfl rfl (by decide +kernel) ⟨Nat.le_of_ble_eq_true rfl, Nat.le_of_ble_eq_true rfl⟩) (hPV hK hTE hP hD hy13) rfl rfl hl.1 rfl (lv_room (Nat.le_of_ble_eq_true rfl)) dX11_told_171 ⟨Nat.le_of_ble_eq_true rfl, Nat.le_of_ble_eq_true rfl⟩) hP hD hS hA (fun r15 u14 H locs hv hP hD hS => ?_)
        rw [← hv] at hE hp
        dsimp only at hE hp
        unfold b_X11_told_a174 at hE
        unfold q_X11_told_a174 at hp
        refine lv_if_eq (tgt := 181) hx hb dX11_told_174 (by decide) (fun c16 => ?_) (fun c16 => ?_)
        · rw [if_pos c16] at hE hp
          refine lv_iconst (v := 2) hx hb dX11_told_181 (by decide) ?_
          exact B_182 u14 x1 x2 x3 x4 x5 2 _ _ _ hE hp hP hD hS (lv_sub hl [0, 1, 2, 3, 4, 5] rfl)
        · rw [if_neg c16] at hE hp
          refine lv_iconst (v := 1) hx hb dX11_told_177 (by decide) ?_
          refine lv_goto (tgt := 182) hx hb dX11_told_178 (by decide) ?_
          exact B_182 u14 x1 x2 x3 x4 x5 1 _ _ _ hE hp hP hD hS (lv_sub hl [0, 1, 2, 3, 4, 5] rfl)
      · rw [if_pos c11] at hE hp
        refine lv_iconst (v := 3) hx hb dX11_told_155 (by decide) ?_
        refine lv_istore (lv' := [(5, .int 3), (0, .ref h), (1, .int x1), (2, .int x2), (3, .int x3), (4, .int x4)]) hx hb dX11_told_156 hl (by decide) rfl (fun ls hl => ?_)
        refine lv_goto (tgt := 184) hx hb dX11_told_158 (by decide) ?_
        exact B_184 u9 x1 x2 x3 x4 3 _ _ _ hE hp hP hD hS (lv_sub hl [1, 2, 3, 4, 5, 0] rfl)
    · rw [if_pos c7] at hE hp
      refine lv_aload_n hx hb dX11_told_125 rfl (lv_at hl 0 rfl) ?_
      obtain ⟨hy44, hp⟩ := hp
      refine hGoi (va_runV (As := []) (rest := []) ⟨hx, hb, hml, hown, hts⟩ (c_X11_hasSeconder l G K h g S _) (cwV 0 hts (wGV t_ (mw (.methodLink RX11 159 yX11_hasSeconder) (List.mem_of_getElem? (i := 8) rfl)) (mw (.instanceMethod yX11_hasSeconder) (List.mem_of_getElem? (i := 9) rfl)) (mw (.selects RX11 yX11_hasSeconder yX11_hasSeconder) (List.mem_of_getElem? (i := 10) rfl)) (mw (.initialized RX11) (List.mem_of_getElem? (i := 5) rfl)) j_X11_hasSeconder) rfl rfl rfl (by decide +kernel) ⟨Nat.le_of_ble_eq_true rfl, Nat.le_of_ble_eq_true rfl⟩) (hPV hK hTE hP hD hy44) rfl rfl hl.1 rfl (lv_room (Nat.le_of_ble_eq_true rfl)) dX11_told_126 ⟨Nat.le_of_ble_eq_true rfl, Nat.le_of_ble_eq_true rfl⟩) hP hD hS hA (fun r46 u45 H locs hv hP hD hS => ?_)
      rw [← hv] at hE hp
      dsimp only at hE hp
      unfold b_X11_told_a129 at hE
      unfold q_X11_told_a129 at hp
      refine lv_if_eq (tgt := 142) hx hb dX11_told_129 (by decide) (fun c47 => ?_) (fun c47 => ?_)
      · rw [if_pos c47] at hE hp
        exact B_142 u45 x1 x2 x3 x4 x5 _ _ _ hE hp hP hD hS (lv_sub hl [0, 1, 2, 3, 4, 5] rfl)
      · rw [if_neg c47] at hE hp
        refine lv_iload hx hb dX11_told_132 (lv_at hl 4 rfl) ?_
        refine lv_iload_n hx hb dX11_told_134 rfl (lv_at hl 3 rfl) ?_
        refine lv_icmp_le (tgt := 142) hx hb dX11_told_135 (by decide) (fun c48 => ?_) (fun c48 => ?_)
        · rw [if_pos c48] at hE hp
          exact B_142 u45 x1 x2 x3 x4 x5 _ _ _ hE hp hP hD hS (lv_sub hl [0, 1, 2, 3, 4, 5] rfl)
        · rw [if_neg c48] at hE hp
          refine lv_iconst (v := 5) hx hb dX11_told_138 (by decide) ?_
          refine lv_goto (tgt := 143) hx hb dX11_told_139 (by decide) ?_
          exact B_143 u45 x1 x2 x3 x4 x5 5 _ _ _ hE hp hP hD hS (lv_sub hl [0, 1, 2, 3, 4, 5] rfl)
  have L_33 : ∀ (n : Nat) (S : HS) (x1 x2 x3 x4 x5 : Int32) (H : Heap) (locs : List Loc) (ls : Array Slot), lp_X11_told_33 n S x1 x2 x3 x4 x5 = X → lq_X11_told_33 n S x1 x2 x3 x4 x5 → va_P G vwCl (hW K h g S) H → va_D A (hW K h g S) → va_S A s.heap H locs → lv_has ls 7 [(0, .ref h), (1, .int x1), (2, .int x2), (3, .int x3), (4, .int x4), (5, .int x5)] → W p l e ({ frames := 3, cells := 0, slots := 0, locals := 75 } : Room) s m #[Value.ref h] below meth c H locs 0 0 Q (F0 m 33 ls []) := by
    intro n1
    induction n1 with
    | zero => intro S x1 x2 x3 x4 x5 H locs ls hE hp; exact False.elim hp
    | succ n1 ih1 =>
      intro S x1 x2 x3 x4 x5 H locs ls hO1 hp hP hD hS hl
      rw [lp_X11_told_33] at hO1
      rw [lq_X11_told_33] at hp
      obtain ⟨hp, hq1⟩ := hp
      generalize hE : st_X11_told_33 S x1 x2 x3 x4 x5 = Y1 at hO1 hq1
      unfold st_X11_told_33 at hE
      unfold ps_X11_told_33 at hp
      have B_113 : ∀ (S : HS) (x1 x2 x3 x4 x5 : Int32) (H : Heap) (locs : List Loc) (ls : Array Slot), b_X11_told_113 S x1 x2 x3 x4 x5 = Y1 → q_X11_told_113 S x1 x2 x3 x4 x5 → va_P G vwCl (hW K h g S) H → va_D A (hW K h g S) → va_S A s.heap H locs → lv_has ls 7 [(0, .ref h), (1, .int x1), (2, .int x2), (3, .int x3), (4, .int x4), (5, .int x5)] → W p l e ({ frames := 3, cells := 0, slots := 0, locals := 75 } : Room) s m #[Value.ref h] below meth c H locs 0 0 Q (F0 m 113 ls []) := by
        intro S x1 x2 x3 x4 x5 H locs ls hE hp hP hD hS hl
        unfold b_X11_told_113 at hE
        unfold q_X11_told_113 at hp
        refine lv_iinc (v := (x5 + 1)) (lv' := [(5, .int (x5 + 1)), (0, .ref h), (1, .int x1), (2, .int x2), (3, .int x3), (4, .int x4)]) hx hb dX11_told_113 hl (k := 5) rfl rfl (by decide) rfl (fun ls hl => ?_)
        refine lv_goto (tgt := 33) hx hb dX11_told_116 (by decide) ?_
        subst hE
        dsimp only at hO1 hq1
        exact ih1 S x1 x2 x3 x4 (x5 + 1) _ _ _ hO1 hq1 hP hD hS (lv_sub hl [1, 2, 3, 4, 5, 0] rfl)
      have B_110 : ∀ (S : HS) (x1 x2 x3 x4 x5 y0 y1 : Int32) (H : Heap) (locs : List Loc) (ls : Array Slot), b_X11_told_110 S x1 x2 x3 x4 x5 y0 y1 = Y1 → q_X11_told_110 S x1 x2 x3 x4 x5 y0 y1 → va_P G vwCl (hW K h g S) H → va_D A (hW K h g S) → va_S A s.heap H locs → lv_has ls 7 [(0, .ref h), (1, .int x1), (2, .int x2), (3, .int x3), (4, .int x4), (5, .int x5)] → W p l e ({ frames := 3, cells := 0, slots := 0, locals := 75 } : Room) s m #[Value.ref h] below meth c H locs 0 0 Q (F0 m 110 ls [.int y0, .int y1]) := by
        intro S x1 x2 x3 x4 x5 y0 y1 H locs ls hE hp hP hD hS hl
        unfold b_X11_told_110 at hE
        unfold q_X11_told_110 at hp
        refine lv_iadd hx hb dX11_told_110 ?_
        refine lv_istore (lv' := [(4, .int (y1 + y0)), (0, .ref h), (1, .int x1), (2, .int x2), (3, .int x3), (5, .int x5)]) hx hb dX11_told_111 hl (by decide) rfl (fun ls hl => ?_)
        exact B_113 S x1 x2 x3 (y1 + y0) x5 _ _ _ hE hp hP hD hS (lv_sub hl [1, 2, 3, 4, 0, 5] rfl)
      have B_85 : ∀ (S : HS) (x1 x2 x3 x4 x5 y0 y1 : Int32) (H : Heap) (locs : List Loc) (ls : Array Slot), b_X11_told_85 S x1 x2 x3 x4 x5 y0 y1 = Y1 → q_X11_told_85 S x1 x2 x3 x4 x5 y0 y1 → va_P G vwCl (hW K h g S) H → va_D A (hW K h g S) → va_S A s.heap H locs → lv_has ls 7 [(0, .ref h), (1, .int x1), (2, .int x2), (3, .int x3), (4, .int x4), (5, .int x5)] → W p l e ({ frames := 3, cells := 0, slots := 0, locals := 75 } : Room) s m #[Value.ref h] below meth c H locs 0 0 Q (F0 m 85 ls [.int y0, .int y1]) := by
        intro S x1 x2 x3 x4 x5 y0 y1 H locs ls hE hp hP hD hS hl
        unfold b_X11_told_85 at hE
        unfold q_X11_told_85 at hp
        refine lv_iadd hx hb dX11_told_85 ?_
        refine lv_istore_n (lv' := [(3, .int (y1 + y0)), (0, .ref h), (1, .int x1), (2, .int x2), (4, .int x4), (5, .int x5)]) hx hb dX11_told_86 rfl hl (by decide) rfl (fun ls hl => ?_)
        refine lv_iload hx hb dX11_told_87 (lv_at hl 4 rfl) ?_
        refine lv_aload_n hx hb dX11_told_89 rfl (lv_at hl 1 rfl) ?_
        refine va_get (D := G) (ci := 8) (v := .ref (g 29)) (C := RX11) (T := TX11) (N := 42) hx hb hts iX11 hown hK hP 0 rfl rfl 29 (by decide) (hw (.fieldLink RX11 68 "MotionFloorModel$Hall" "ballot" "[B") (List.mem_of_getElem? (i := 26) rfl)) (fun _ h9 => h9) rfl dX11_told_90 ?_
        refine lv_sipush (v := 200) hx hb dX11_told_93 (by decide) ?_
        refine lv_iload_n hx hb dX11_told_96 rfl (lv_at hl 2 rfl) ?_
        refine lv_imul hx hb dX11_told_97 ?_
        refine lv_iload hx hb dX11_told_98 (lv_at hl 5 rfl) ?_
        refine lv_iadd hx hb dX11_told_100 ?_
        obtain ⟨hy59, hp⟩ := hp
        refine va_bald hx hb hK hP 19 2 rfl rfl hy59 dX11_told_101 ?_
        refine lv_if_ne (tgt := 109) hx hb dX11_told_102 (by decide) (fun c60 => ?_) (fun c60 => ?_)
        · rw [if_neg c60] at hE hp
          refine lv_iconst (v := 0) hx hb dX11_told_109 (by decide) ?_
          exact B_110 S x1 x2 (y1 + y0) x4 x5 0 x4 _ _ _ hE hp hP hD hS (lv_sub hl [1, 2, 3, 0, 4, 5] rfl)
        · rw [if_pos c60] at hE hp
          refine lv_iconst (v := 1) hx hb dX11_told_105 (by decide) ?_
          refine lv_goto (tgt := 110) hx hb dX11_told_106 (by decide) ?_
          exact B_110 S x1 x2 (y1 + y0) x4 x5 1 x4 _ _ _ hE hp hP hD hS (lv_sub hl [1, 2, 3, 0, 4, 5] rfl)
      refine lv_iload hx hb dX11_told_33 (lv_at hl 5 rfl) ?_
      refine lv_aload_n hx hb dX11_told_35 rfl (lv_at hl 0 rfl) ?_
      refine va_get (D := G) (ci := 8) (v := .int (S.1 0)) (C := RX11) (T := TX11) (N := 42) hx hb hts iX11 hown hK hP 0 rfl rfl 0 (by decide) (hw (.fieldLink RX11 96 "MotionFloorModel$Hall" "seats" "I") (List.mem_of_getElem? (i := 7) rfl)) (fun _ h9 => h9) rfl dX11_told_36 ?_
      refine lv_icmp_ge (tgt := 119) hx hb dX11_told_39 (by decide) (fun c6 => ?_) (fun c6 => ?_)
      · rw [if_pos c6] at hE hp
        subst hE
        have hE := hO1
        dsimp only at hE
        exact B_119 S x1 x2 x3 x4 x5 _ _ _ hE hp hP hD hS (lv_sub hl [0, 1, 2, 3, 4, 5] rfl)
      · rw [if_neg c6] at hE hp
        refine lv_aload_n hx hb dX11_told_42 rfl (lv_at hl 0 rfl) ?_
        obtain ⟨hy51, hp⟩ := hp
        refine hGoi (va_runV (As := []) (rest := []) ⟨hx, hb, hml, hown, hts⟩ (c_X11_hasSeconder l G K h g S _) (cwV 0 hts (wGV t_ (mw (.methodLink RX11 159 yX11_hasSeconder) (List.mem_of_getElem? (i := 8) rfl)) (mw (.instanceMethod yX11_hasSeconder) (List.mem_of_getElem? (i := 9) rfl)) (mw (.selects RX11 yX11_hasSeconder yX11_hasSeconder) (List.mem_of_getElem? (i := 10) rfl)) (mw (.initialized RX11) (List.mem_of_getElem? (i := 5) rfl)) j_X11_hasSeconder) rfl rfl rfl (by decide +kernel) ⟨Nat.le_of_ble_eq_true rfl, Nat.le_of_ble_eq_true rfl⟩) (hPV hK hTE hP hD hy51) rfl rfl hl.1 rfl (lv_room (Nat.le_of_ble_eq_true rfl)) dX11_told_43 ⟨Nat.le_of_ble_eq_true rfl, Nat.le_of_ble_eq_true rfl⟩) hP hD hS hA (fun r53 u52 H locs hv hP hD hS => ?_)
        rw [← hv] at hE hp
        dsimp only at hE hp
        unfold b_X11_told_a46 at hE
        unfold q_X11_told_a46 at hp
        refine lv_if_eq (tgt := 119) hx hb dX11_told_46 (by decide) (fun c54 => ?_) (fun c54 => ?_)
        · rw [if_pos c54] at hE hp
          subst hE
          have hE := hO1
          dsimp only at hE
          exact B_119 u52 x1 x2 x3 x4 x5 _ _ _ hE hp hP hD hS (lv_sub hl [0, 1, 2, 3, 4, 5] rfl)
        · rw [if_neg c54] at hE hp
          refine lv_aload_n hx hb dX11_told_49 rfl (lv_at hl 0 rfl) ?_
          refine va_get (D := G) (ci := 8) (v := .ref (g 11)) (C := RX11) (T := TX11) (N := 42) hx hb hts iX11 hown hK hP 0 rfl rfl 11 (by decide) (hw (.fieldLink RX11 9 "MotionFloorModel$Hall" "isThere" "[Z") (List.mem_of_getElem? (i := 25) rfl)) (fun _ h9 => h9) rfl dX11_told_50 ?_
          refine lv_iload hx hb dX11_told_53 (lv_at hl 5 rfl) ?_
          obtain ⟨hy55, hp⟩ := hp
          refine va_zald hx hb hK hP 1 1 rfl rfl hy55 dX11_told_55 ?_
          refine lv_if_ne (tgt := 62) hx hb dX11_told_56 (by decide) (fun c56 => ?_) (fun c56 => ?_)
          · rw [if_neg c56] at hE hp
            refine lv_iload_n hx hb dX11_told_62 rfl (lv_at hl 3 rfl) ?_
            refine lv_aload_n hx hb dX11_told_63 rfl (lv_at hl 0 rfl) ?_
            refine va_get (D := G) (ci := 8) (v := .ref (g 29)) (C := RX11) (T := TX11) (N := 42) hx hb hts iX11 hown hK hP 0 rfl rfl 29 (by decide) (hw (.fieldLink RX11 68 "MotionFloorModel$Hall" "ballot" "[B") (List.mem_of_getElem? (i := 26) rfl)) (fun _ h9 => h9) rfl dX11_told_64 ?_
            refine lv_sipush (v := 200) hx hb dX11_told_67 (by decide) ?_
            refine lv_iload_n hx hb dX11_told_70 rfl (lv_at hl 1 rfl) ?_
            refine lv_imul hx hb dX11_told_71 ?_
            refine lv_iload hx hb dX11_told_72 (lv_at hl 5 rfl) ?_
            refine lv_iadd hx hb dX11_told_74 ?_
            obtain ⟨hy57, hp⟩ := hp
            refine va_bald hx hb hK hP 19 2 rfl rfl hy57 dX11_told_75 ?_
            refine lv_iconst (v := 1) hx hb dX11_told_76 (by decide) ?_
            refine lv_icmp_ne (tgt := 84) hx hb dX11_told_77 (by decide) (fun c58 => ?_) (fun c58 => ?_)
            · rw [if_neg c58] at hE hp
              refine lv_iconst (v := 0) hx hb dX11_told_84 (by decide) ?_
              exact B_85 u52 x1 x2 x3 x4 x5 0 x3 _ _ _ hE hp hP hD hS (lv_sub hl [0, 1, 2, 3, 4, 5] rfl)
            · rw [if_pos c58] at hE hp
              refine lv_iconst (v := 1) hx hb dX11_told_80 (by decide) ?_
              refine lv_goto (tgt := 85) hx hb dX11_told_81 (by decide) ?_
              exact B_85 u52 x1 x2 x3 x4 x5 1 x3 _ _ _ hE hp hP hD hS (lv_sub hl [0, 1, 2, 3, 4, 5] rfl)
          · rw [if_pos c56] at hE hp
            refine lv_goto (tgt := 113) hx hb dX11_told_59 (by decide) ?_
            exact B_113 u52 x1 x2 x3 x4 x5 _ _ _ hE hp hP hD hS (lv_sub hl [0, 1, 2, 3, 4, 5] rfl)
  have B_M : ∀ (S : HS) (H : Heap) (locs : List Loc) (ls : Array Slot), f_X11_told S = X → p_X11_told S → va_P G vwCl (hW K h g S) H → va_D A (hW K h g S) → va_S A s.heap H locs → lv_has ls 7 [(0, .ref h)] → W p l e ({ frames := 3, cells := 0, slots := 0, locals := 75 } : Room) s m #[Value.ref h] below meth c H locs 0 0 Q (F0 m 0 ls []) := by
    intro S H locs ls hE hp hP hD hS hl
    unfold f_X11_told at hE
    unfold p_X11_told at hp
    refine lv_aload_n hx hb dX11_told_0 rfl (lv_at hl 0 rfl) ?_
    refine va_get (D := G) (ci := 8) (v := .int (S.1 1)) (C := RX11) (T := TX11) (N := 42) hx hb hts iX11 hown hK hP 0 rfl rfl 1 (by decide) (hw (.fieldLink RX11 100 "MotionFloorModel$Hall" "there" "I") (List.mem_of_getElem? (i := 0) rfl)) (fun _ h9 => h9) rfl dX11_told_1 ?_
    refine lv_aload_n hx hb dX11_told_4 rfl (lv_at hl 0 rfl) ?_
    refine va_get (D := G) (ci := 8) (v := .int (S.1 3)) (C := RX11) (T := TX11) (N := 42) hx hb hts iX11 hown hK hP 0 rfl rfl 3 (by decide) (hw (.fieldLink RX11 106 "MotionFloorModel$Hall" "quorum" "I") (List.mem_of_getElem? (i := 1) rfl)) (fun _ h9 => h9) rfl dX11_told_5 ?_
    refine lv_icmp_ge (tgt := 13) hx hb dX11_told_8 (by decide) (fun c1 => ?_) (fun c1 => ?_)
    · rw [if_pos c1] at hE hp
      refine lv_aload_n hx hb dX11_told_13 rfl (lv_at hl 0 rfl) ?_
      obtain ⟨hy2, hp⟩ := hp
      refine hGoi (va_runV (As := []) (rest := []) ⟨hx, hb, hml, hown, hts⟩ (c_X11_top l G K h g S _) (cwV 0 hts (wGV t_ (mw (.methodLink RX11 155 yX11_top) (List.mem_of_getElem? (i := 2) rfl)) (mw (.instanceMethod yX11_top) (List.mem_of_getElem? (i := 3) rfl)) (mw (.selects RX11 yX11_top yX11_top) (List.mem_of_getElem? (i := 4) rfl)) (mw (.initialized RX11) (List.mem_of_getElem? (i := 5) rfl)) j_X11_top) rfl rfl rfl (by decide +kernel) ⟨Nat.le_of_ble_eq_true rfl, Nat.le_of_ble_eq_true rfl⟩) (hPV hK hTE hP hD hy2) rfl rfl hl.1 rfl (lv_room (Nat.le_of_ble_eq_true rfl)) dX11_told_14 ⟨Nat.le_of_ble_eq_true rfl, Nat.le_of_ble_eq_true rfl⟩) hP hD hS hA (fun r4 u3 H locs hv hP hD hS => ?_)
      rw [← hv] at hE hp
      dsimp only at hE hp
      unfold b_X11_told_a17 at hE
      unfold q_X11_told_a17 at hp
      refine lv_istore_n (lv' := [(1, .int r4), (0, .ref h)]) hx hb dX11_told_17 rfl hl (by decide) rfl (fun ls hl => ?_)
      refine lv_aload_n hx hb dX11_told_18 rfl (lv_at hl 1 rfl) ?_
      refine va_get (D := G) (ci := 8) (v := .ref (g 14)) (C := RX11) (T := TX11) (N := 42) hx hb hts iX11 hown hK hP 0 rfl rfl 14 (by decide) (hw (.fieldLink RX11 22 "MotionFloorModel$Hall" "kind" "[I") (List.mem_of_getElem? (i := 6) rfl)) (fun _ h9 => h9) rfl dX11_told_19 ?_
      refine lv_iload_n hx hb dX11_told_22 rfl (lv_at hl 0 rfl) ?_
      obtain ⟨hy5, hp⟩ := hp
      refine va_iald hx hb hK hP 4 0 rfl rfl hy5 dX11_told_23 ?_
      refine lv_istore_n (lv' := [(2, .int (u3.2 14 r4.toNatClampNeg)), (1, .int r4), (0, .ref h)]) hx hb dX11_told_24 rfl hl (by decide) rfl (fun ls hl => ?_)
      refine lv_iconst (v := 0) hx hb dX11_told_25 (by decide) ?_
      refine lv_istore_n (lv' := [(3, .int 0), (2, .int (u3.2 14 r4.toNatClampNeg)), (1, .int r4), (0, .ref h)]) hx hb dX11_told_26 rfl hl (by decide) rfl (fun ls hl => ?_)
      refine lv_iconst (v := 0) hx hb dX11_told_27 (by decide) ?_
      refine lv_istore (lv' := [(4, .int 0), (3, .int 0), (2, .int (u3.2 14 r4.toNatClampNeg)), (1, .int r4), (0, .ref h)]) hx hb dX11_told_28 hl (by decide) rfl (fun ls hl => ?_)
      refine lv_iconst (v := 0) hx hb dX11_told_30 (by decide) ?_
      refine lv_istore (lv' := [(5, .int 0), (4, .int 0), (3, .int 0), (2, .int (u3.2 14 r4.toNatClampNeg)), (1, .int r4), (0, .ref h)]) hx hb dX11_told_31 hl (by decide) rfl (fun ls hl => ?_)
      exact L_33 100000 u3 r4 (u3.2 14 r4.toNatClampNeg) 0 0 0 _ _ _ hE hp hP hD hS (lv_sub hl [5, 4, 3, 2, 1, 0] rfl)
    · rw [if_neg c1] at hE hp
      refine lv_iconst (v := 0) hx hb dX11_told_11 (by decide) ?_
      subst hQ
      exact W.iret (v := 0) hx hb hr (fun t ht hW => ⟨⟨0, S, rfl, hE.trans hX.symm, by rw [ht]; exact hP, hD⟩, hS.F ht⟩) hS.2.2 dX11_told_12
  exact B_M S0 _ _ _ hX hp hP hD hS hl
