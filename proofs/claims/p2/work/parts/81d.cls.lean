theorem dX4_canBeAbout_0 : decode cX4_canBeAbout 0 = .ok (.aload_n 1, 1) := by decide +kernel
theorem dX4_canBeAbout_1 : decode cX4_canBeAbout 1 = .ok (.ifnonnull 5, 3) := by decide +kernel
theorem dX4_canBeAbout_4 : decode cX4_canBeAbout 4 = .ok (.iconst 0, 1) := by decide +kernel
theorem dX4_canBeAbout_5 : decode cX4_canBeAbout 5 = .ok (.ireturn, 1) := by decide +kernel
theorem dX4_canBeAbout_6 : decode cX4_canBeAbout 6 = .ok (.aload_n 0, 1) := by decide +kernel
theorem dX4_canBeAbout_7 : decode cX4_canBeAbout 7 = .ok (.getfield 36, 3) := by decide +kernel
theorem dX4_canBeAbout_10 : decode cX4_canBeAbout 10 = .ok (.iconst 3, 1) := by decide +kernel
theorem dX4_canBeAbout_11 : decode cX4_canBeAbout 11 = .ok (.if_icmp .ne 17, 3) := by decide +kernel
theorem dX4_canBeAbout_14 : decode cX4_canBeAbout 14 = .ok (.aload_n 1, 1) := by decide +kernel
theorem dX4_canBeAbout_15 : decode cX4_canBeAbout 15 = .ok (.getfield 36, 3) := by decide +kernel
theorem dX4_canBeAbout_18 : decode cX4_canBeAbout 18 = .ok (.iconst 2, 1) := by decide +kernel
theorem dX4_canBeAbout_19 : decode cX4_canBeAbout 19 = .ok (.if_icmp .ne 7, 3) := by decide +kernel
theorem dX4_canBeAbout_22 : decode cX4_canBeAbout 22 = .ok (.iconst 1, 1) := by decide +kernel
theorem dX4_canBeAbout_23 : decode cX4_canBeAbout 23 = .ok (.goto 4, 3) := by decide +kernel
theorem dX4_canBeAbout_26 : decode cX4_canBeAbout 26 = .ok (.iconst 0, 1) := by decide +kernel
theorem dX4_canBeAbout_27 : decode cX4_canBeAbout 27 = .ok (.ireturn, 1) := by decide +kernel
theorem dX4_canBeAbout_28 : decode cX4_canBeAbout 28 = .ok (.aload_n 0, 1) := by decide +kernel
theorem dX4_canBeAbout_29 : decode cX4_canBeAbout 29 = .ok (.getfield 36, 3) := by decide +kernel
theorem dX4_canBeAbout_32 : decode cX4_canBeAbout 32 = .ok (.iconst 2, 1) := by decide +kernel
theorem dX4_canBeAbout_33 : decode cX4_canBeAbout 33 = .ok (.if_icmp .ne 31, 3) := by decide +kernel
theorem dX4_canBeAbout_36 : decode cX4_canBeAbout 36 = .ok (.aload_n 1, 1) := by decide +kernel
theorem dX4_canBeAbout_37 : decode cX4_canBeAbout 37 = .ok (.getfield 36, 3) := by decide +kernel
theorem dX4_canBeAbout_40 : decode cX4_canBeAbout 40 = .ok (.iconst 1, 1) := by decide +kernel
theorem dX4_canBeAbout_41 : decode cX4_canBeAbout 41 = .ok (.if_icmp .eq 19, 3) := by decide +kernel
theorem dX4_canBeAbout_44 : decode cX4_canBeAbout 44 = .ok (.aload_n 1, 1) := by decide +kernel
theorem dX4_canBeAbout_45 : decode cX4_canBeAbout 45 = .ok (.getfield 36, 3) := by decide +kernel
theorem dX4_canBeAbout_48 : decode cX4_canBeAbout 48 = .ok (.iconst 4, 1) := by decide +kernel
theorem dX4_canBeAbout_49 : decode cX4_canBeAbout 49 = .ok (.if_icmp .eq 11, 3) := by decide +kernel
theorem dX4_canBeAbout_52 : decode cX4_canBeAbout 52 = .ok (.aload_n 1, 1) := by decide +kernel
theorem dX4_canBeAbout_53 : decode cX4_canBeAbout 53 = .ok (.getfield 36, 3) := by decide +kernel
theorem dX4_canBeAbout_56 : decode cX4_canBeAbout 56 = .ok (.iconst 5, 1) := by decide +kernel
theorem dX4_canBeAbout_57 : decode cX4_canBeAbout 57 = .ok (.if_icmp .ne 7, 3) := by decide +kernel
theorem dX4_canBeAbout_60 : decode cX4_canBeAbout 60 = .ok (.iconst 1, 1) := by decide +kernel
theorem dX4_canBeAbout_61 : decode cX4_canBeAbout 61 = .ok (.goto 4, 3) := by decide +kernel
theorem dX4_canBeAbout_64 : decode cX4_canBeAbout 64 = .ok (.iconst 0, 1) := by decide +kernel
theorem dX4_canBeAbout_65 : decode cX4_canBeAbout 65 = .ok (.ireturn, 1) := by decide +kernel
theorem dX8_isOutOfRank_29 : decode cX8_isOutOfRank 29 = .ok (.aload_n 1, 1) := by decide +kernel
theorem dX8_isOutOfRank_30 : decode cX8_isOutOfRank 30 = .ok (.aload_n 2, 1) := by decide +kernel
theorem dX8_isOutOfRank_31 : decode cX8_isOutOfRank 31 = .ok (.invokevirtual 173, 3) := by decide +kernel
theorem dX8_isOutOfRank_51 : decode cX8_isOutOfRank 51 = .ok (.aload_n 1, 1) := by decide +kernel
theorem dX8_isOutOfRank_52 : decode cX8_isOutOfRank 52 = .ok (.getfield 128, 3) := by decide +kernel
theorem dX8_isOutOfRank_55 : decode cX8_isOutOfRank 55 = .ok (.if_icmp .lt 7, 3) := by decide +kernel
theorem dX8_isOutOfRank_62 : decode cX8_isOutOfRank 62 = .ok (.iconst 0, 1) := by decide +kernel
set_option maxRecDepth 100000 in
theorem zc175 : wZ (.code yX4_canBeAbout cX4_canBeAbout 2 (some .boolean)) := ⟨wT2 (List.mem_of_getElem? (i := 125) rfl), Or.inl rfl⟩
def b_Y4_canBeAbout_65 (S : Cst) (x0 : Nat) (x1 : Option Nat) (y0 : Int32) : Int32 := y0
def q_Y4_canBeAbout_65 (S : Cst) (x0 : Nat) (x1 : Option Nat) (y0 : Int32) : Prop := (narrow .boolean (.int y0) = .int y0) ∧ True
def b_Y4_canBeAbout_64 (S : Cst) (x0 : Nat) (x1 : Option Nat) : Int32 := (b_Y4_canBeAbout_65 S x0 x1 0)
def q_Y4_canBeAbout_64 (S : Cst) (x0 : Nat) (x1 : Option Nat) : Prop := (q_Y4_canBeAbout_65 S x0 x1 0)
def b_Y4_canBeAbout_60 (S : Cst) (x0 : Nat) (x1 : Option Nat) : Int32 := (b_Y4_canBeAbout_65 S x0 x1 1)
def q_Y4_canBeAbout_60 (S : Cst) (x0 : Nat) (x1 : Option Nat) : Prop := (q_Y4_canBeAbout_65 S x0 x1 1)
def b_Y4_canBeAbout_27 (S : Cst) (x0 : Nat) (x1 : Option Nat) (y0 : Int32) : Int32 := y0
def q_Y4_canBeAbout_27 (S : Cst) (x0 : Nat) (x1 : Option Nat) (y0 : Int32) : Prop := (narrow .boolean (.int y0) = .int y0) ∧ True
def f_Y4_canBeAbout (S : Cst) (x0 : Nat) (x1 : Option Nat) : Int32 := if x1 = none then (0 : Int32) else if (giC S x0 2) = 3 then if (giC S (x1.getD 0) 2) = 2 then (b_Y4_canBeAbout_27 S x0 x1 1) else (b_Y4_canBeAbout_27 S x0 x1 0) else if (giC S x0 2) = 2 then if (giC S (x1.getD 0) 2) = 1 then (b_Y4_canBeAbout_60 S x0 x1) else if (giC S (x1.getD 0) 2) = 4 then (b_Y4_canBeAbout_60 S x0 x1) else if (giC S (x1.getD 0) 2) = 5 then (b_Y4_canBeAbout_60 S x0 x1) else (b_Y4_canBeAbout_64 S x0 x1) else (b_Y4_canBeAbout_64 S x0 x1)
def p_Y4_canBeAbout (S : Cst) (x0 : Nat) (x1 : Option Nat) : Prop := (if x1 = none then True else (if (giC S x0 2) = 3 then (iR S x1 3) ∧ (if (giC S (x1.getD 0) 2) = 2 then (q_Y4_canBeAbout_27 S x0 x1 1) else (q_Y4_canBeAbout_27 S x0 x1 0)) else (if (giC S x0 2) = 2 then (iR S x1 3) ∧ (if (giC S (x1.getD 0) 2) = 1 then (q_Y4_canBeAbout_60 S x0 x1) else (iR S x1 3) ∧ (if (giC S (x1.getD 0) 2) = 4 then (q_Y4_canBeAbout_60 S x0 x1) else (iR S x1 3) ∧ (if (giC S (x1.getD 0) 2) = 5 then (q_Y4_canBeAbout_60 S x0 x1) else (q_Y4_canBeAbout_64 S x0 x1)))) else (q_Y4_canBeAbout_64 S x0 x1))))
def e_Y4_canBeAbout : List Cond := [.fieldLink RX4 36 "MotionFloor$Motion" "kind" "I"]
def v_Y4_canBeAbout : List Cond := .code yX4_canBeAbout cX4_canBeAbout 2 (some .boolean) :: (e_Y4_canBeAbout ++ (wsX40 ++ []))
theorem te_Y4_canBeAbout : GoodIn lw_tbl e_Y4_canBeAbout := wGc zc167 (wG0)
theorem t_Y4_canBeAbout : GoodIn lw_tbl v_Y4_canBeAbout := wGc zc175 (wGa te_Y4_canBeAbout (wGa zcX4 (wG0)))
set_option maxHeartbeats 4000000 in
set_option maxRecDepth 100000 in
theorem c_Y4_canBeAbout (l : Launch) (G : va_G) (K : Nat → ClassId) (ad : Nat → Nat) (S : Cst) (x0 : Nat) (a1 : Option Nat) (sz : Nat) : Met l yX4_canBeAbout v_Y4_canBeAbout ({ frames := 0, cells := 0, slots := 0, locals := 0 }) (va_Pc [.ref (ad x0), va_re ad a1] (cSt G K ad sz S (iK S x0 3 ∧ p_Y4_canBeAbout S x0 a1))) (va_Qi (fun (r : Int32) (u : Cst) => (r, u) = (f_Y4_canBeAbout S x0 a1, S)) (cBt G K ad (va_A (wsC K ad S) sz)) (va_A (wsC K ad S) sz)) 0 0 (va_A (wsC K ad S) sz) := by
  refine Met.ofW (cc := cX4_canBeAbout) (maxL := 2) (ret := (some .boolean)) (by decide) rfl ?_
  intro p e s m args below meth c s₁ B hml hv
  obtain ⟨rfl, ⟨hsz, hP, hK, hD0, hTE⟩, hp⟩ := hv
  obtain ⟨k_x0, hp⟩ := hp
  have hx := B.exec
  have hb := B.bytes
  have hr := B.returns
  have hts := atoms_spec (ws := v_Y4_canBeAbout) B.pre
  have t_ := t_Y4_canBeAbout
  have mw : ∀ w ∈ e_Y4_canBeAbout, w ∈ v_Y4_canBeAbout := fun w h => List.mem_cons_of_mem _ (List.mem_append_left _ h)
  have hw := fun w (h : w ∈ e_Y4_canBeAbout) => hts w (mw w h)
  have iX4 : ∀ w ∈ wsX40, w ∈ v_Y4_canBeAbout := fun w h => List.mem_cons_of_mem _ (List.mem_append_right _ (List.mem_append_left _ h))
  have hown : s.vm.findClass RX4 = some m.cls := findClass_of_methodNamed B.named
  have hlocks := B.notSynchronized
  subst hsz
  have hD := hD0.self (sz := s.heap.size)
  generalize hAe : va_A (wsC K ad S) s.heap.size = A at hD ⊢
  have hA : ∀ q : Nat, s.heap.size ≤ q → A q := fun q h => by rw [← hAe]; exact Or.inr h
  have hS : va_S A s.heap s.heap [] := va_S.rf
  have hl : lv_has (lg_sl ([.ref (ad x0), va_re ad a1]) ++ List.replicate (2 - (lg_sl ([.ref (ad x0), va_re ad a1])).length) Slot.unset).toArray 2 [(0, .ref (ad x0)), (1, va_re ad a1)] := by
    cases a1 <;> exact lv_entry _ (n := 2) (Nat.le_of_ble_eq_true rfl)
  rw [lg_entry_eq]
  generalize (lg_sl ([.ref (ad x0), va_re ad a1]) ++ List.replicate (2 - (lg_sl ([.ref (ad x0), va_re ad a1])).length) Slot.unset).toArray = ls_ at hl ⊢
  refine wGen (fun Q hQ => ?_)
  obtain ⟨X, hX⟩ : ∃ X, f_Y4_canBeAbout S x0 a1 = X := ⟨_, rfl⟩
  have B_Y4_canBeAbout_65 : ∀ (x1 : Option Nat) (y0 : Int32) (H : Heap) (locs : List Loc) (ls_ : Array Slot), b_Y4_canBeAbout_65 S x0 x1 y0 = X → q_Y4_canBeAbout_65 S x0 x1 y0 → va_P G vwCl (wsC K ad S) H → va_D A (wsC K ad S) → va_S A s.heap H locs → lv_has ls_ 2 [(0, .ref (ad x0)), (1, va_re ad x1)] → W p l e ({ frames := 0, cells := 0, slots := 0, locals := 0 } : Room) s m #[Value.ref (ad x0), va_re ad a1] below meth c H locs 0 0 Q (F0 m 65 ls_ [.int y0]) := by
    intro x1 y0 H locs ls_ hE hp hP hD hS hl
    unfold b_Y4_canBeAbout_65 at hE
    unfold q_Y4_canBeAbout_65 at hp
    obtain ⟨hy4, hp⟩ := hp
    subst hQ
    exact W.zret (v := y0) (ty := .boolean) hx hb hr hy4 (fun t ht hW => ⟨⟨y0, S, rfl, (pair_i (hE.trans hX.symm)), by rw [ht]; exact hP, hD⟩, hS.F ht⟩) hS.2.2 dX4_canBeAbout_65
  have B_Y4_canBeAbout_64 : ∀ (x1 : Option Nat) (H : Heap) (locs : List Loc) (ls_ : Array Slot), b_Y4_canBeAbout_64 S x0 x1 = X → q_Y4_canBeAbout_64 S x0 x1 → va_P G vwCl (wsC K ad S) H → va_D A (wsC K ad S) → va_S A s.heap H locs → lv_has ls_ 2 [(0, .ref (ad x0)), (1, va_re ad x1)] → W p l e ({ frames := 0, cells := 0, slots := 0, locals := 0 } : Room) s m #[Value.ref (ad x0), va_re ad a1] below meth c H locs 0 0 Q (F0 m 64 ls_ []) := by
    intro x1 H locs ls_ hE hp hP hD hS hl
    unfold b_Y4_canBeAbout_64 at hE
    unfold q_Y4_canBeAbout_64 at hp
    refine lv_iconst (v := 0) hx hb dX4_canBeAbout_64 (by decide) ?_
    exact B_Y4_canBeAbout_65 x1 0 _ _ _ hE hp hP hD hS (lv_sub hl [0, 1] rfl)
  have B_Y4_canBeAbout_60 : ∀ (x1 : Option Nat) (H : Heap) (locs : List Loc) (ls_ : Array Slot), b_Y4_canBeAbout_60 S x0 x1 = X → q_Y4_canBeAbout_60 S x0 x1 → va_P G vwCl (wsC K ad S) H → va_D A (wsC K ad S) → va_S A s.heap H locs → lv_has ls_ 2 [(0, .ref (ad x0)), (1, va_re ad x1)] → W p l e ({ frames := 0, cells := 0, slots := 0, locals := 0 } : Room) s m #[Value.ref (ad x0), va_re ad a1] below meth c H locs 0 0 Q (F0 m 60 ls_ []) := by
    intro x1 H locs ls_ hE hp hP hD hS hl
    unfold b_Y4_canBeAbout_60 at hE
    unfold q_Y4_canBeAbout_60 at hp
    refine lv_iconst (v := 1) hx hb dX4_canBeAbout_60 (by decide) ?_
    refine lv_goto (tgt := 65) hx hb dX4_canBeAbout_61 (by decide) ?_
    exact B_Y4_canBeAbout_65 x1 1 _ _ _ hE hp hP hD hS (lv_sub hl [0, 1] rfl)
  have B_Y4_canBeAbout_27 : ∀ (x1 : Option Nat) (y0 : Int32) (H : Heap) (locs : List Loc) (ls_ : Array Slot), b_Y4_canBeAbout_27 S x0 x1 y0 = X → q_Y4_canBeAbout_27 S x0 x1 y0 → va_P G vwCl (wsC K ad S) H → va_D A (wsC K ad S) → va_S A s.heap H locs → lv_has ls_ 2 [(0, .ref (ad x0)), (1, va_re ad x1)] → W p l e ({ frames := 0, cells := 0, slots := 0, locals := 0 } : Room) s m #[Value.ref (ad x0), va_re ad a1] below meth c H locs 0 0 Q (F0 m 27 ls_ [.int y0]) := by
    intro x1 y0 H locs ls_ hE hp hP hD hS hl
    unfold b_Y4_canBeAbout_27 at hE
    unfold q_Y4_canBeAbout_27 at hp
    obtain ⟨hy13, hp⟩ := hp
    subst hQ
    exact W.zret (v := y0) (ty := .boolean) hx hb hr hy13 (fun t ht hW => ⟨⟨y0, S, rfl, (pair_i (hE.trans hX.symm)), by rw [ht]; exact hP, hD⟩, hS.F ht⟩) hS.2.2 dX4_canBeAbout_27
  have B_M : ∀ (x1 : Option Nat) (H : Heap) (locs : List Loc) (ls_ : Array Slot), f_Y4_canBeAbout S x0 x1 = X → p_Y4_canBeAbout S x0 x1 → va_P G vwCl (wsC K ad S) H → va_D A (wsC K ad S) → va_S A s.heap H locs → lv_has ls_ 2 [(0, .ref (ad x0)), (1, va_re ad x1)] → W p l e ({ frames := 0, cells := 0, slots := 0, locals := 0 } : Room) s m #[Value.ref (ad x0), va_re ad a1] below meth c H locs 0 0 Q (F0 m 0 ls_ []) := by
    intro x1 H locs ls_ hE hp hP hD hS hl
    unfold f_Y4_canBeAbout at hE
    unfold p_Y4_canBeAbout at hp
    refine cAload_n (ad := ad) (r := x1) hx hb dX4_canBeAbout_0 rfl (lv_at hl 1 rfl) ?_
    refine cIfnonnull (ad := ad) (r := x1) (tgt := 6) hx hb dX4_canBeAbout_1 (by decide) (fun c1 => ?_) (fun c1 => ?_)
    · rw [if_pos c1] at hE hp
      refine lv_iconst (v := 0) hx hb dX4_canBeAbout_4 (by decide) ?_
      subst hQ
      exact W.zret (v := (0 : Int32)) (ty := .boolean) hx hb hr rfl (fun t ht hW => ⟨⟨(0 : Int32), S, rfl, (pair_i (hE.trans hX.symm)), by rw [ht]; exact hP, hD⟩, hS.F ht⟩) hS.2.2 dX4_canBeAbout_5
    · rw [if_neg c1] at hE hp
      refine lv_aload_n hx hb dX4_canBeAbout_6 rfl (lv_at hl 0 rfl) ?_
      refine va_get (D := G) (ci := 3) (v := .int (giC S x0 2)) (C := RX4) (T := TX4) (N := 16) hx hb hts iX4 hown hK hP x0 (at_3 k_x0) rfl 2 (by decide) (hw (.fieldLink RX4 36 "MotionFloor$Motion" "kind" "I") (List.mem_of_getElem? (i := 0) rfl)) (fun _ h9 => h9) rfl dX4_canBeAbout_7 ?_
      refine lv_iconst (v := 3) hx hb dX4_canBeAbout_10 (by decide) ?_
      refine lv_icmp_ne (tgt := 28) hx hb dX4_canBeAbout_11 (by decide) (fun c2 => ?_) (fun c2 => ?_)
      · rw [if_neg c2] at hE hp
        refine lv_aload_n hx hb dX4_canBeAbout_28 rfl (lv_at hl 0 rfl) ?_
        refine va_get (D := G) (ci := 3) (v := .int (giC S x0 2)) (C := RX4) (T := TX4) (N := 16) hx hb hts iX4 hown hK hP x0 (at_3 k_x0) rfl 2 (by decide) (hw (.fieldLink RX4 36 "MotionFloor$Motion" "kind" "I") (List.mem_of_getElem? (i := 0) rfl)) (fun _ h9 => h9) rfl dX4_canBeAbout_29 ?_
        refine lv_iconst (v := 2) hx hb dX4_canBeAbout_32 (by decide) ?_
        refine lv_icmp_ne (tgt := 64) hx hb dX4_canBeAbout_33 (by decide) (fun c3 => ?_) (fun c3 => ?_)
        · rw [if_neg c3] at hE hp
          exact B_Y4_canBeAbout_64 x1 _ _ _ hE hp hP hD hS (lv_sub hl [0, 1] rfl)
        · rw [if_pos c3] at hE hp
          refine cAload_n (ad := ad) (r := x1) hx hb dX4_canBeAbout_36 rfl (lv_at hl 1 rfl) ?_
          obtain ⟨hy5, hp⟩ := hp
          refine cTop (r := x1) hy5.1 ?_
          refine va_get (D := G) (ci := 3) (v := .int (giC S (x1.getD 0) 2)) (C := RX4) (T := TX4) (N := 16) hx hb hts iX4 hown hK hP (x1.getD 0) (at_3 hy5.2) rfl 2 (by decide) (hw (.fieldLink RX4 36 "MotionFloor$Motion" "kind" "I") (List.mem_of_getElem? (i := 0) rfl)) (fun _ h9 => h9) rfl dX4_canBeAbout_37 ?_
          refine lv_iconst (v := 1) hx hb dX4_canBeAbout_40 (by decide) ?_
          refine lv_icmp_eq (tgt := 60) hx hb dX4_canBeAbout_41 (by decide) (fun c6 => ?_) (fun c6 => ?_)
          · rw [if_pos c6] at hE hp
            exact B_Y4_canBeAbout_60 x1 _ _ _ hE hp hP hD hS (lv_sub hl [0, 1] rfl)
          · rw [if_neg c6] at hE hp
            refine cAload_n (ad := ad) (r := x1) hx hb dX4_canBeAbout_44 rfl (lv_at hl 1 rfl) ?_
            obtain ⟨hy7, hp⟩ := hp
            refine cTop (r := x1) hy7.1 ?_
            refine va_get (D := G) (ci := 3) (v := .int (giC S (x1.getD 0) 2)) (C := RX4) (T := TX4) (N := 16) hx hb hts iX4 hown hK hP (x1.getD 0) (at_3 hy7.2) rfl 2 (by decide) (hw (.fieldLink RX4 36 "MotionFloor$Motion" "kind" "I") (List.mem_of_getElem? (i := 0) rfl)) (fun _ h9 => h9) rfl dX4_canBeAbout_45 ?_
            refine lv_iconst (v := 4) hx hb dX4_canBeAbout_48 (by decide) ?_
            refine lv_icmp_eq (tgt := 60) hx hb dX4_canBeAbout_49 (by decide) (fun c8 => ?_) (fun c8 => ?_)
            · rw [if_pos c8] at hE hp
              exact B_Y4_canBeAbout_60 x1 _ _ _ hE hp hP hD hS (lv_sub hl [0, 1] rfl)
            · rw [if_neg c8] at hE hp
              refine cAload_n (ad := ad) (r := x1) hx hb dX4_canBeAbout_52 rfl (lv_at hl 1 rfl) ?_
              obtain ⟨hy9, hp⟩ := hp
              refine cTop (r := x1) hy9.1 ?_
              refine va_get (D := G) (ci := 3) (v := .int (giC S (x1.getD 0) 2)) (C := RX4) (T := TX4) (N := 16) hx hb hts iX4 hown hK hP (x1.getD 0) (at_3 hy9.2) rfl 2 (by decide) (hw (.fieldLink RX4 36 "MotionFloor$Motion" "kind" "I") (List.mem_of_getElem? (i := 0) rfl)) (fun _ h9 => h9) rfl dX4_canBeAbout_53 ?_
              refine lv_iconst (v := 5) hx hb dX4_canBeAbout_56 (by decide) ?_
              refine lv_icmp_ne (tgt := 64) hx hb dX4_canBeAbout_57 (by decide) (fun c10 => ?_) (fun c10 => ?_)
              · rw [if_neg c10] at hE hp
                exact B_Y4_canBeAbout_64 x1 _ _ _ hE hp hP hD hS (lv_sub hl [0, 1] rfl)
              · rw [if_pos c10] at hE hp
                exact B_Y4_canBeAbout_60 x1 _ _ _ hE hp hP hD hS (lv_sub hl [0, 1] rfl)
      · rw [if_pos c2] at hE hp
        refine cAload_n (ad := ad) (r := x1) hx hb dX4_canBeAbout_14 rfl (lv_at hl 1 rfl) ?_
        obtain ⟨hy11, hp⟩ := hp
        refine cTop (r := x1) hy11.1 ?_
        refine va_get (D := G) (ci := 3) (v := .int (giC S (x1.getD 0) 2)) (C := RX4) (T := TX4) (N := 16) hx hb hts iX4 hown hK hP (x1.getD 0) (at_3 hy11.2) rfl 2 (by decide) (hw (.fieldLink RX4 36 "MotionFloor$Motion" "kind" "I") (List.mem_of_getElem? (i := 0) rfl)) (fun _ h9 => h9) rfl dX4_canBeAbout_15 ?_
        refine lv_iconst (v := 2) hx hb dX4_canBeAbout_18 (by decide) ?_
        refine lv_icmp_ne (tgt := 26) hx hb dX4_canBeAbout_19 (by decide) (fun c12 => ?_) (fun c12 => ?_)
        · rw [if_neg c12] at hE hp
          refine lv_iconst (v := 0) hx hb dX4_canBeAbout_26 (by decide) ?_
          exact B_Y4_canBeAbout_27 x1 0 _ _ _ hE hp hP hD hS (lv_sub hl [0, 1] rfl)
        · rw [if_pos c12] at hE hp
          refine lv_iconst (v := 1) hx hb dX4_canBeAbout_22 (by decide) ?_
          refine lv_goto (tgt := 27) hx hb dX4_canBeAbout_23 (by decide) ?_
          exact B_Y4_canBeAbout_27 x1 1 _ _ _ hE hp hP hD hS (lv_sub hl [0, 1] rfl)
  exact B_M a1 _ _ _ hX hp hP hD hS hl
theorem dX8_isOutOfRank_34 : decode cX8_isOutOfRank 34 = .ok (.ifCond .ne 7, 3) := by decide +kernel
theorem dX8_isOutOfRank_37 : decode cX8_isOutOfRank 37 = .ok (.iconst 1, 1) := by decide +kernel
theorem dX8_isOutOfRank_38 : decode cX8_isOutOfRank 38 = .ok (.goto 4, 3) := by decide +kernel
theorem dX8_isOutOfRank_41 : decode cX8_isOutOfRank 41 = .ok (.iconst 0, 1) := by decide +kernel
theorem dX8_isOutOfRank_42 : decode cX8_isOutOfRank 42 = .ok (.ireturn, 1) := by decide +kernel
set_option maxRecDepth 100000 in
theorem zc176 : wZ (.selects RX4 yX4_canBeAbout yX4_canBeAbout) := ⟨wT2 (List.mem_of_getElem? (i := 124) (by decide +kernel)), Or.inl rfl⟩
set_option maxRecDepth 100000 in
theorem zc177 : wZ (.instanceMethod yX4_canBeAbout) := ⟨wT2 (List.mem_of_getElem? (i := 123) (by decide +kernel)), Or.inl rfl⟩
set_option maxRecDepth 100000 in
theorem zc178 : wZ (.methodLink RX8 173 yX4_canBeAbout) := ⟨wT2 (List.mem_of_getElem? (i := 122) (by decide +kernel)), Or.inl rfl⟩
set_option maxRecDepth 100000 in
theorem zc179 : wZ (.selects RX5 yX5_highestRank yX5_highestRank) := ⟨wT2 (List.mem_of_getElem? (i := 153) (by decide +kernel)), Or.inl rfl⟩
set_option maxRecDepth 100000 in
theorem zc180 : wZ (.instanceMethod yX5_highestRank) := ⟨wT2 (List.mem_of_getElem? (i := 152) (by decide +kernel)), Or.inl rfl⟩
set_option maxRecDepth 100000 in
theorem zc181 : wZ (.methodLink RX8 202 yX5_highestRank) := ⟨wT2 (List.mem_of_getElem? (i := 151) (by decide +kernel)), Or.inl rfl⟩
set_option maxRecDepth 100000 in
theorem zc182 : wZ (.initialized RX4) := ⟨wT1 (List.mem_of_getElem? (i := 14) (by decide +kernel)), Or.inl rfl⟩
set_option maxRecDepth 100000 in
theorem zc183 : wZ (.selects RX4 yX4_amends yX4_amends) := ⟨wT2 (List.mem_of_getElem? (i := 103) (by decide +kernel)), Or.inl rfl⟩
set_option maxRecDepth 100000 in
theorem zc184 : wZ (.instanceMethod yX4_amends) := ⟨wT2 (List.mem_of_getElem? (i := 102) (by decide +kernel)), Or.inl rfl⟩
set_option maxRecDepth 100000 in
theorem zc185 : wZ (.methodLink RX8 150 yX4_amends) := ⟨wT2 (List.mem_of_getElem? (i := 101) (by decide +kernel)), Or.inl rfl⟩
set_option maxRecDepth 100000 in
theorem zc186 : wZ (.code yX8_isOutOfRank cX8_isOutOfRank 3 (some .boolean)) := ⟨wT2 (List.mem_of_getElem? (i := 150) rfl), Or.inl rfl⟩
def b_Y8_isOutOfRank_21 (S : Cst) (x0 : Nat) (x1 : Option Nat) (x2 : Option Nat) (y0 : Int32) : Int32 := y0
def q_Y8_isOutOfRank_21 (S : Cst) (x0 : Nat) (x1 : Option Nat) (x2 : Option Nat) (y0 : Int32) : Prop := (narrow .boolean (.int y0) = .int y0) ∧ True
def b_Y8_isOutOfRank_12 (S : Cst) (x0 : Nat) (x1 : Option Nat) (x2 : Option Nat) : Int32 := if x2 = none then (b_Y8_isOutOfRank_21 S x0 x1 x2 0) else (b_Y8_isOutOfRank_21 S x0 x1 x2 1)
def q_Y8_isOutOfRank_12 (S : Cst) (x0 : Nat) (x1 : Option Nat) (x2 : Option Nat) : Prop := (if x2 = none then (q_Y8_isOutOfRank_21 S x0 x1 x2 0) else (q_Y8_isOutOfRank_21 S x0 x1 x2 1))
def b_Y8_isOutOfRank_63 (S : Cst) (x0 : Nat) (x1 : Option Nat) (x2 : Option Nat) (y0 : Int32) : Int32 := y0
def q_Y8_isOutOfRank_63 (S : Cst) (x0 : Nat) (x1 : Option Nat) (x2 : Option Nat) (y0 : Int32) : Prop := (narrow .boolean (.int y0) = .int y0) ∧ True
def b_Y8_isOutOfRank_58 (S : Cst) (x0 : Nat) (x1 : Option Nat) (x2 : Option Nat) : Int32 := (b_Y8_isOutOfRank_63 S x0 x1 x2 1)
def q_Y8_isOutOfRank_58 (S : Cst) (x0 : Nat) (x1 : Option Nat) (x2 : Option Nat) : Prop := (q_Y8_isOutOfRank_63 S x0 x1 x2 1)
def b_Y8_isOutOfRank_42 (S : Cst) (x0 : Nat) (x1 : Option Nat) (x2 : Option Nat) (y0 : Int32) : Int32 := y0
def q_Y8_isOutOfRank_42 (S : Cst) (x0 : Nat) (x1 : Option Nat) (x2 : Option Nat) (y0 : Int32) : Prop := (narrow .boolean (.int y0) = .int y0) ∧ True
def f_Y8_isOutOfRank (S : Cst) (x0 : Nat) (x1 : Option Nat) (x2 : Option Nat) : Int32 := if x1 = none then (b_Y8_isOutOfRank_12 S x0 x1 x2) else if (giC S (x1.getD 0) 2) = 1 then (b_Y8_isOutOfRank_12 S x0 x1 x2) else if (f_Y4_amends S (x1.getD 0)) = 0 then if x2 = none then (b_Y8_isOutOfRank_58 S x0 x1 x2) else if (f_Y5_highestRank S x0) < (giC S (x1.getD 0) 2) then (b_Y8_isOutOfRank_63 S x0 x1 x2 0) else (b_Y8_isOutOfRank_58 S x0 x1 x2) else if (f_Y4_canBeAbout S (x1.getD 0) x2) = 0 then (b_Y8_isOutOfRank_42 S x0 x1 x2 1) else (b_Y8_isOutOfRank_42 S x0 x1 x2 0)
def p_Y8_isOutOfRank (S : Cst) (x0 : Nat) (x1 : Option Nat) (x2 : Option Nat) : Prop := (if x1 = none then (q_Y8_isOutOfRank_12 S x0 x1 x2) else (iR S x1 3) ∧ (if (giC S (x1.getD 0) 2) = 1 then (q_Y8_isOutOfRank_12 S x0 x1 x2) else (iR S x1 3) ∧ (p_Y4_amends S (x1.getD 0)) ∧ (if (f_Y4_amends S (x1.getD 0)) = 0 then (if x2 = none then (q_Y8_isOutOfRank_58 S x0 x1 x2) else (p_Y5_highestRank S x0) ∧ (iR S x1 3) ∧ (if (f_Y5_highestRank S x0) < (giC S (x1.getD 0) 2) then (q_Y8_isOutOfRank_63 S x0 x1 x2 0) else (q_Y8_isOutOfRank_58 S x0 x1 x2))) else (iR S x1 3) ∧ (p_Y4_canBeAbout S (x1.getD 0) x2) ∧ (if (f_Y4_canBeAbout S (x1.getD 0) x2) = 0 then (q_Y8_isOutOfRank_42 S x0 x1 x2 1) else (q_Y8_isOutOfRank_42 S x0 x1 x2 0)))))
def e_Y8_isOutOfRank : List Cond := [.fieldLink RX8 128 "MotionFloor$Motion" "kind" "I", .methodLink RX8 150 yX4_amends, .instanceMethod yX4_amends, .selects RX4 yX4_amends yX4_amends, .initialized RX4, .methodLink RX8 202 yX5_highestRank, .instanceMethod yX5_highestRank, .selects RX5 yX5_highestRank yX5_highestRank, .initialized RX5, .methodLink RX8 173 yX4_canBeAbout, .instanceMethod yX4_canBeAbout, .selects RX4 yX4_canBeAbout yX4_canBeAbout]
def v_Y8_isOutOfRank : List Cond := .code yX8_isOutOfRank cX8_isOutOfRank 3 (some .boolean) :: (e_Y8_isOutOfRank ++ (wsX40 ++ (v_Y4_amends ++ (v_Y5_highestRank ++ (v_Y4_canBeAbout ++ [])))))
theorem te_Y8_isOutOfRank : GoodIn lw_tbl e_Y8_isOutOfRank := wGc zc155 (wGc zc185 (wGc zc184 (wGc zc183 (wGc zc182 (wGc zc181 (wGc zc180 (wGc zc179 (wGc zc34 (wGc zc178 (wGc zc177 (wGc zc176 (wG0))))))))))))
theorem t_Y8_isOutOfRank : GoodIn lw_tbl v_Y8_isOutOfRank := wGc zc186 (wGa te_Y8_isOutOfRank (wGa zcX4 (wGa t_Y4_amends (wGa t_Y5_highestRank (wGa t_Y4_canBeAbout (wG0))))))
set_option maxHeartbeats 4000000 in
set_option maxRecDepth 100000 in
theorem c_Y8_isOutOfRank (l : Launch) (G : va_G) (K : Nat → ClassId) (ad : Nat → Nat) (S : Cst) (x0 : Nat) (a1 : Option Nat) (a2 : Option Nat) (sz : Nat) : Met l yX8_isOutOfRank v_Y8_isOutOfRank ({ frames := 2, cells := 0, slots := 0, locals := 44 }) (va_Pc [.ref (ad x0), va_re ad a1, va_re ad a2] (cSt G K ad sz S (iK S x0 4 ∧ p_Y8_isOutOfRank S x0 a1 a2))) (va_Qi (fun (r : Int32) (u : Cst) => (r, u) = (f_Y8_isOutOfRank S x0 a1 a2, S)) (cBt G K ad (va_A (wsC K ad S) sz)) (va_A (wsC K ad S) sz)) 0 0 (va_A (wsC K ad S) sz) := by
  refine Met.ofW (cc := cX8_isOutOfRank) (maxL := 3) (ret := (some .boolean)) (by decide) rfl ?_
  intro p e s m args below meth c s₁ B hml hv
  obtain ⟨rfl, ⟨hsz, hP, hK, hD0, hTE⟩, hp⟩ := hv
  obtain ⟨k_x0, hp⟩ := hp
  have hx := B.exec
  have hb := B.bytes
  have hr := B.returns
  have hts := atoms_spec (ws := v_Y8_isOutOfRank) B.pre
  have t_ := t_Y8_isOutOfRank
  have mw : ∀ w ∈ e_Y8_isOutOfRank, w ∈ v_Y8_isOutOfRank := fun w h => List.mem_cons_of_mem _ (List.mem_append_left _ h)
  have hw := fun w (h : w ∈ e_Y8_isOutOfRank) => hts w (mw w h)
  have iX4 : ∀ w ∈ wsX40, w ∈ v_Y8_isOutOfRank := fun w h => List.mem_cons_of_mem _ (List.mem_append_right _ (List.mem_append_left _ h))
  have j_Y4_amends : ∀ w ∈ v_Y4_amends, w ∈ v_Y8_isOutOfRank := fun w h => List.mem_cons_of_mem _ (List.mem_append_right _ (List.mem_append_right _ (List.mem_append_left _ h)))
  have j_Y5_highestRank : ∀ w ∈ v_Y5_highestRank, w ∈ v_Y8_isOutOfRank := fun w h => List.mem_cons_of_mem _ (List.mem_append_right _ (List.mem_append_right _ (List.mem_append_right _ (List.mem_append_left _ h))))
  have j_Y4_canBeAbout : ∀ w ∈ v_Y4_canBeAbout, w ∈ v_Y8_isOutOfRank := fun w h => List.mem_cons_of_mem _ (List.mem_append_right _ (List.mem_append_right _ (List.mem_append_right _ (List.mem_append_right _ (List.mem_append_left _ h)))))
  have hown : s.vm.findClass RX8 = some m.cls := findClass_of_methodNamed B.named
  have hlocks := B.notSynchronized
  subst hsz
  have hD := hD0.self (sz := s.heap.size)
  generalize hAe : va_A (wsC K ad S) s.heap.size = A at hD ⊢
  have hA : ∀ q : Nat, s.heap.size ≤ q → A q := fun q h => by rw [← hAe]; exact Or.inr h
  have hS : va_S A s.heap s.heap [] := va_S.rf
  have hl : lv_has (lg_sl ([.ref (ad x0), va_re ad a1, va_re ad a2]) ++ List.replicate (3 - (lg_sl ([.ref (ad x0), va_re ad a1, va_re ad a2])).length) Slot.unset).toArray 3 [(0, .ref (ad x0)), (1, va_re ad a1), (2, va_re ad a2)] := by
    cases a1 <;> cases a2 <;> exact lv_entry _ (n := 3) (Nat.le_of_ble_eq_true rfl)
  rw [lg_entry_eq]
  generalize (lg_sl ([.ref (ad x0), va_re ad a1, va_re ad a2]) ++ List.replicate (3 - (lg_sl ([.ref (ad x0), va_re ad a1, va_re ad a2])).length) Slot.unset).toArray = ls_ at hl ⊢
  refine wGen (fun Q hQ => ?_)
  obtain ⟨X, hX⟩ : ∃ X, f_Y8_isOutOfRank S x0 a1 a2 = X := ⟨_, rfl⟩
  have B_Y8_isOutOfRank_21 : ∀ (x1 : Option Nat) (x2 : Option Nat) (y0 : Int32) (H : Heap) (locs : List Loc) (ls_ : Array Slot), b_Y8_isOutOfRank_21 S x0 x1 x2 y0 = X → q_Y8_isOutOfRank_21 S x0 x1 x2 y0 → va_P G vwCl (wsC K ad S) H → va_D A (wsC K ad S) → va_S A s.heap H locs → lv_has ls_ 3 [(0, .ref (ad x0)), (1, va_re ad x1), (2, va_re ad x2)] → W p l e ({ frames := 2, cells := 0, slots := 0, locals := 44 } : Room) s m #[Value.ref (ad x0), va_re ad a1, va_re ad a2] below meth c H locs 0 0 Q (F0 m 21 ls_ [.int y0]) := by
    intro x1 x2 y0 H locs ls_ hE hp hP hD hS hl
    unfold b_Y8_isOutOfRank_21 at hE
    unfold q_Y8_isOutOfRank_21 at hp
    obtain ⟨hy3, hp⟩ := hp
    subst hQ
    exact W.zret (v := y0) (ty := .boolean) hx hb hr hy3 (fun t ht hW => ⟨⟨y0, S, rfl, (pair_i (hE.trans hX.symm)), by rw [ht]; exact hP, hD⟩, hS.F ht⟩) hS.2.2 dX8_isOutOfRank_21
  have B_Y8_isOutOfRank_12 : ∀ (x1 : Option Nat) (x2 : Option Nat) (H : Heap) (locs : List Loc) (ls_ : Array Slot), b_Y8_isOutOfRank_12 S x0 x1 x2 = X → q_Y8_isOutOfRank_12 S x0 x1 x2 → va_P G vwCl (wsC K ad S) H → va_D A (wsC K ad S) → va_S A s.heap H locs → lv_has ls_ 3 [(0, .ref (ad x0)), (1, va_re ad x1), (2, va_re ad x2)] → W p l e ({ frames := 2, cells := 0, slots := 0, locals := 44 } : Room) s m #[Value.ref (ad x0), va_re ad a1, va_re ad a2] below meth c H locs 0 0 Q (F0 m 12 ls_ []) := by
    intro x1 x2 H locs ls_ hE hp hP hD hS hl
    unfold b_Y8_isOutOfRank_12 at hE
    unfold q_Y8_isOutOfRank_12 at hp
    refine cAload_n (ad := ad) (r := x2) hx hb dX8_isOutOfRank_12 rfl (lv_at hl 2 rfl) ?_
    refine cIfnull (ad := ad) (r := x2) (tgt := 20) hx hb dX8_isOutOfRank_13 (by decide) (fun c2 => ?_) (fun c2 => ?_)
    · rw [if_pos c2] at hE hp
      refine lv_iconst (v := 0) hx hb dX8_isOutOfRank_20 (by decide) ?_
      exact B_Y8_isOutOfRank_21 x1 x2 0 _ _ _ hE hp hP hD hS (lv_sub hl [0, 1, 2] rfl)
    · rw [if_neg c2] at hE hp
      refine lv_iconst (v := 1) hx hb dX8_isOutOfRank_16 (by decide) ?_
      refine lv_goto (tgt := 21) hx hb dX8_isOutOfRank_17 (by decide) ?_
      exact B_Y8_isOutOfRank_21 x1 x2 1 _ _ _ hE hp hP hD hS (lv_sub hl [0, 1, 2] rfl)
  have B_Y8_isOutOfRank_63 : ∀ (x1 : Option Nat) (x2 : Option Nat) (y0 : Int32) (H : Heap) (locs : List Loc) (ls_ : Array Slot), b_Y8_isOutOfRank_63 S x0 x1 x2 y0 = X → q_Y8_isOutOfRank_63 S x0 x1 x2 y0 → va_P G vwCl (wsC K ad S) H → va_D A (wsC K ad S) → va_S A s.heap H locs → lv_has ls_ 3 [(0, .ref (ad x0)), (1, va_re ad x1), (2, va_re ad x2)] → W p l e ({ frames := 2, cells := 0, slots := 0, locals := 44 } : Room) s m #[Value.ref (ad x0), va_re ad a1, va_re ad a2] below meth c H locs 0 0 Q (F0 m 63 ls_ [.int y0]) := by
    intro x1 x2 y0 H locs ls_ hE hp hP hD hS hl
    unfold b_Y8_isOutOfRank_63 at hE
    unfold q_Y8_isOutOfRank_63 at hp
    obtain ⟨hy12, hp⟩ := hp
    subst hQ
    exact W.zret (v := y0) (ty := .boolean) hx hb hr hy12 (fun t ht hW => ⟨⟨y0, S, rfl, (pair_i (hE.trans hX.symm)), by rw [ht]; exact hP, hD⟩, hS.F ht⟩) hS.2.2 dX8_isOutOfRank_63
  have B_Y8_isOutOfRank_58 : ∀ (x1 : Option Nat) (x2 : Option Nat) (H : Heap) (locs : List Loc) (ls_ : Array Slot), b_Y8_isOutOfRank_58 S x0 x1 x2 = X → q_Y8_isOutOfRank_58 S x0 x1 x2 → va_P G vwCl (wsC K ad S) H → va_D A (wsC K ad S) → va_S A s.heap H locs → lv_has ls_ 3 [(0, .ref (ad x0)), (1, va_re ad x1), (2, va_re ad x2)] → W p l e ({ frames := 2, cells := 0, slots := 0, locals := 44 } : Room) s m #[Value.ref (ad x0), va_re ad a1, va_re ad a2] below meth c H locs 0 0 Q (F0 m 58 ls_ []) := by
    intro x1 x2 H locs ls_ hE hp hP hD hS hl
    unfold b_Y8_isOutOfRank_58 at hE
    unfold q_Y8_isOutOfRank_58 at hp
    refine lv_iconst (v := 1) hx hb dX8_isOutOfRank_58 (by decide) ?_
    refine lv_goto (tgt := 63) hx hb dX8_isOutOfRank_59 (by decide) ?_
    exact B_Y8_isOutOfRank_63 x1 x2 1 _ _ _ hE hp hP hD hS (lv_sub hl [0, 1, 2] rfl)
  have B_Y8_isOutOfRank_42 : ∀ (x1 : Option Nat) (x2 : Option Nat) (y0 : Int32) (H : Heap) (locs : List Loc) (ls_ : Array Slot), b_Y8_isOutOfRank_42 S x0 x1 x2 y0 = X → q_Y8_isOutOfRank_42 S x0 x1 x2 y0 → va_P G vwCl (wsC K ad S) H → va_D A (wsC K ad S) → va_S A s.heap H locs → lv_has ls_ 3 [(0, .ref (ad x0)), (1, va_re ad x1), (2, va_re ad x2)] → W p l e ({ frames := 2, cells := 0, slots := 0, locals := 44 } : Room) s m #[Value.ref (ad x0), va_re ad a1, va_re ad a2] below meth c H locs 0 0 Q (F0 m 42 ls_ [.int y0]) := by
    intro x1 x2 y0 H locs ls_ hE hp hP hD hS hl
    unfold b_Y8_isOutOfRank_42 at hE
    unfold q_Y8_isOutOfRank_42 at hp
    obtain ⟨hy23, hp⟩ := hp
    subst hQ
    exact W.zret (v := y0) (ty := .boolean) hx hb hr hy23 (fun t ht hW => ⟨⟨y0, S, rfl, (pair_i (hE.trans hX.symm)), by rw [ht]; exact hP, hD⟩, hS.F ht⟩) hS.2.2 dX8_isOutOfRank_42
  have B_M : ∀ (x1 : Option Nat) (x2 : Option Nat) (H : Heap) (locs : List Loc) (ls_ : Array Slot), f_Y8_isOutOfRank S x0 x1 x2 = X → p_Y8_isOutOfRank S x0 x1 x2 → va_P G vwCl (wsC K ad S) H → va_D A (wsC K ad S) → va_S A s.heap H locs → lv_has ls_ 3 [(0, .ref (ad x0)), (1, va_re ad x1), (2, va_re ad x2)] → W p l e ({ frames := 2, cells := 0, slots := 0, locals := 44 } : Room) s m #[Value.ref (ad x0), va_re ad a1, va_re ad a2] below meth c H locs 0 0 Q (F0 m 0 ls_ []) := by
    intro x1 x2 H locs ls_ hE hp hP hD hS hl
    unfold f_Y8_isOutOfRank at hE
    unfold p_Y8_isOutOfRank at hp
    refine cAload_n (ad := ad) (r := x1) hx hb dX8_isOutOfRank_0 rfl (lv_at hl 1 rfl) ?_
    refine cIfnull (ad := ad) (r := x1) (tgt := 12) hx hb dX8_isOutOfRank_1 (by decide) (fun c1 => ?_) (fun c1 => ?_)
    · rw [if_pos c1] at hE hp
      exact B_Y8_isOutOfRank_12 x1 x2 _ _ _ hE hp hP hD hS (lv_sub hl [0, 1, 2] rfl)
    · rw [if_neg c1] at hE hp
      refine cAload_n (ad := ad) (r := x1) hx hb dX8_isOutOfRank_4 rfl (lv_at hl 1 rfl) ?_
      obtain ⟨hy4, hp⟩ := hp
      refine cTop (r := x1) hy4.1 ?_
      refine va_get (D := G) (ci := 3) (v := .int (giC S (x1.getD 0) 2)) (C := RX4) (T := TX4) (N := 16) hx hb hts iX4 hown hK hP (x1.getD 0) (at_3 hy4.2) rfl 2 (by decide) (hw (.fieldLink RX8 128 "MotionFloor$Motion" "kind" "I") (List.mem_of_getElem? (i := 0) rfl)) (fun _ h9 => h9) rfl dX8_isOutOfRank_5 ?_
      refine lv_iconst (v := 1) hx hb dX8_isOutOfRank_8 (by decide) ?_
      refine lv_icmp_ne (tgt := 22) hx hb dX8_isOutOfRank_9 (by decide) (fun c5 => ?_) (fun c5 => ?_)
      · rw [if_neg c5] at hE hp
        refine cAload_n (ad := ad) (r := x1) hx hb dX8_isOutOfRank_22 rfl (lv_at hl 1 rfl) ?_
        obtain ⟨hy6, hp⟩ := hp
        refine cTop (r := x1) hy6.1 ?_
        obtain ⟨hy7, hp⟩ := hp
        refine cGoi (va_runV (As := []) (rest := []) ⟨hx, hb, hml, hown, hts⟩ (c_Y4_amends l G K ad S (x1.getD 0) _) (cwV 0 hts (wGV t_ (mw (.methodLink RX8 150 yX4_amends) (List.mem_of_getElem? (i := 1) rfl)) (mw (.instanceMethod yX4_amends) (List.mem_of_getElem? (i := 2) rfl)) (mw (.selects RX4 yX4_amends yX4_amends) (List.mem_of_getElem? (i := 3) rfl)) (mw (.initialized RX4) (List.mem_of_getElem? (i := 4) rfl)) j_Y4_amends) rfl rfl rfl (by decide +kernel) ⟨Nat.le_of_ble_eq_true rfl, Nat.le_of_ble_eq_true rfl⟩) (cPV hK hTE hP hD 3 rfl (at_3 hy6.2) ⟨hy6.2, hy7⟩) rfl rfl hl.1 rfl (lv_room (Nat.le_of_ble_eq_true rfl)) dX8_isOutOfRank_23 ⟨Nat.le_of_ble_eq_true rfl, Nat.le_of_ble_eq_true rfl⟩) hP hD hS hA (fun r9 u8 H locs hv hP hD hS => ?_)
        have h1 := congrArg Prod.fst hv
        have h2 := (congrArg Prod.snd hv).symm
        dsimp only at h1 h2
        subst h1
        subst h2
        refine lv_if_eq (tgt := 43) hx hb dX8_isOutOfRank_26 (by decide) (fun c10 => ?_) (fun c10 => ?_)
        · rw [if_pos c10] at hE hp
          refine cAload_n (ad := ad) (r := x2) hx hb dX8_isOutOfRank_43 rfl (lv_at hl 2 rfl) ?_
          refine cIfnull (ad := ad) (r := x2) (tgt := 58) hx hb dX8_isOutOfRank_44 (by decide) (fun c11 => ?_) (fun c11 => ?_)
          · rw [if_pos c11] at hE hp
            exact B_Y8_isOutOfRank_58 x1 x2 _ _ _ hE hp hP hD hS (lv_sub hl [0, 1, 2] rfl)
          · rw [if_neg c11] at hE hp
            refine lv_aload_n hx hb dX8_isOutOfRank_47 rfl (lv_at hl 0 rfl) ?_
            obtain ⟨hy13, hp⟩ := hp
            refine cGoi (va_runV (As := []) (rest := []) ⟨hx, hb, hml, hown, hts⟩ (c_Y5_highestRank l G K ad S x0 _) (cwV 0 hts (wGV t_ (mw (.methodLink RX8 202 yX5_highestRank) (List.mem_of_getElem? (i := 5) rfl)) (mw (.instanceMethod yX5_highestRank) (List.mem_of_getElem? (i := 6) rfl)) (mw (.selects RX5 yX5_highestRank yX5_highestRank) (List.mem_of_getElem? (i := 7) rfl)) (mw (.initialized RX5) (List.mem_of_getElem? (i := 8) rfl)) j_Y5_highestRank) rfl rfl rfl (by decide +kernel) ⟨Nat.le_of_ble_eq_true rfl, Nat.le_of_ble_eq_true rfl⟩) (cPV hK hTE hP hD 4 rfl (at_4 k_x0) ⟨k_x0, hy13⟩) rfl rfl hl.1 rfl (lv_room (Nat.le_of_ble_eq_true rfl)) dX8_isOutOfRank_48 ⟨Nat.le_of_ble_eq_true rfl, Nat.le_of_ble_eq_true rfl⟩) hP hD hS hA (fun r15 u14 H locs hv hP hD hS => ?_)
            have h1 := congrArg Prod.fst hv
            have h2 := (congrArg Prod.snd hv).symm
            dsimp only at h1 h2
            subst h1
            subst h2
            refine cAload_n (ad := ad) (r := x1) hx hb dX8_isOutOfRank_51 rfl (lv_at hl 1 rfl) ?_
            obtain ⟨hy16, hp⟩ := hp
            refine cTop (r := x1) hy16.1 ?_
            refine va_get (D := G) (ci := 3) (v := .int (giC S (x1.getD 0) 2)) (C := RX4) (T := TX4) (N := 16) hx hb hts iX4 hown hK hP (x1.getD 0) (at_3 hy16.2) rfl 2 (by decide) (hw (.fieldLink RX8 128 "MotionFloor$Motion" "kind" "I") (List.mem_of_getElem? (i := 0) rfl)) (fun _ h9 => h9) rfl dX8_isOutOfRank_52 ?_
            refine lv_icmp_lt (tgt := 62) hx hb dX8_isOutOfRank_55 (by decide) (fun c17 => ?_) (fun c17 => ?_)
            · rw [if_pos c17] at hE hp
              refine lv_iconst (v := 0) hx hb dX8_isOutOfRank_62 (by decide) ?_
              exact B_Y8_isOutOfRank_63 x1 x2 0 _ _ _ hE hp hP hD hS (lv_sub hl [0, 1, 2] rfl)
            · rw [if_neg c17] at hE hp
              exact B_Y8_isOutOfRank_58 x1 x2 _ _ _ hE hp hP hD hS (lv_sub hl [0, 1, 2] rfl)
        · rw [if_neg c10] at hE hp
          refine cAload_n (ad := ad) (r := x1) hx hb dX8_isOutOfRank_29 rfl (lv_at hl 1 rfl) ?_
          refine cAload_n (ad := ad) (r := x2) hx hb dX8_isOutOfRank_30 rfl (lv_at hl 2 rfl) ?_
          obtain ⟨hy18, hp⟩ := hp
          refine cTop2 (r := x1) hy18.1 ?_
          obtain ⟨hy19, hp⟩ := hp
          refine cGoi (va_runV (As := [va_re ad x2]) (rest := []) ⟨hx, hb, hml, hown, hts⟩ (c_Y4_canBeAbout l G K ad S (x1.getD 0) x2 _) (cwV 1 hts (wGV t_ (mw (.methodLink RX8 173 yX4_canBeAbout) (List.mem_of_getElem? (i := 9) rfl)) (mw (.instanceMethod yX4_canBeAbout) (List.mem_of_getElem? (i := 10) rfl)) (mw (.selects RX4 yX4_canBeAbout yX4_canBeAbout) (List.mem_of_getElem? (i := 11) rfl)) (mw (.initialized RX4) (List.mem_of_getElem? (i := 4) rfl)) j_Y4_canBeAbout) rfl rfl rfl (by decide +kernel) ⟨Nat.le_of_ble_eq_true rfl, Nat.le_of_ble_eq_true rfl⟩) (cPV hK hTE hP hD 3 rfl (at_3 hy18.2) ⟨hy18.2, hy19⟩) rfl rfl hl.1 rfl (lv_room (Nat.le_of_ble_eq_true rfl)) dX8_isOutOfRank_31 ⟨Nat.le_of_ble_eq_true rfl, Nat.le_of_ble_eq_true rfl⟩) hP hD hS hA (fun r21 u20 H locs hv hP hD hS => ?_)
          have h1 := congrArg Prod.fst hv
          have h2 := (congrArg Prod.snd hv).symm
          dsimp only at h1 h2
          subst h1
          subst h2
          refine lv_if_ne (tgt := 41) hx hb dX8_isOutOfRank_34 (by decide) (fun c22 => ?_) (fun c22 => ?_)
          · rw [if_neg c22] at hE hp
            refine lv_iconst (v := 0) hx hb dX8_isOutOfRank_41 (by decide) ?_
            exact B_Y8_isOutOfRank_42 x1 x2 0 _ _ _ hE hp hP hD hS (lv_sub hl [0, 1, 2] rfl)
          · rw [if_pos c22] at hE hp
            refine lv_iconst (v := 1) hx hb dX8_isOutOfRank_37 (by decide) ?_
            refine lv_goto (tgt := 42) hx hb dX8_isOutOfRank_38 (by decide) ?_
            exact B_Y8_isOutOfRank_42 x1 x2 1 _ _ _ hE hp hP hD hS (lv_sub hl [0, 1, 2] rfl)
      · rw [if_pos c5] at hE hp
        exact B_Y8_isOutOfRank_12 x1 x2 _ _ _ hE hp hP hD hS (lv_sub hl [0, 1, 2] rfl)
  exact B_M a1 a2 _ _ _ hX hp hP hD hS hl
theorem dX8_againstMove_38 : decode cX8_againstMove 38 = .ok (.ifCond .eq 5, 3) := by decide +kernel
theorem dX8_againstMove_43 : decode cX8_againstMove 43 = .ok (.aload_n 0, 1) := by decide +kernel
theorem dX8_againstMove_44 : decode cX8_againstMove 44 = .ok (.getfield 34, 3) := by decide +kernel
theorem dX8_againstMove_47 : decode cX8_againstMove 47 = .ok (.iload_n 1, 1) := by decide +kernel
theorem dX8_againstMove_48 : decode cX8_againstMove 48 = .ok (.invokevirtual 135, 3) := by decide +kernel
set_option maxRecDepth 100000 in
theorem zc187 : wZ (.code yX2_hasFloor cX2_hasFloor 2 (some .boolean)) := ⟨wT2 (List.mem_of_getElem? (i := 89) rfl), Or.inl rfl⟩
def b_Y2_hasFloor_18 (S : Cst) (x0 : Nat) (x1 : Int32) (y0 : Int32) : Int32 := y0
def q_Y2_hasFloor_18 (S : Cst) (x0 : Nat) (x1 : Int32) (y0 : Int32) : Prop := (narrow .boolean (.int y0) = .int y0) ∧ True
def b_Y2_hasFloor_17 (S : Cst) (x0 : Nat) (x1 : Int32) : Int32 := (b_Y2_hasFloor_18 S x0 x1 0)
def q_Y2_hasFloor_17 (S : Cst) (x0 : Nat) (x1 : Int32) : Prop := (q_Y2_hasFloor_18 S x0 x1 0)
def f_Y2_hasFloor (S : Cst) (x0 : Nat) (x1 : Int32) : Int32 := if x1 = (-1) then (b_Y2_hasFloor_17 S x0 x1) else if x1 = (giC S x0 6) then (b_Y2_hasFloor_18 S x0 x1 1) else (b_Y2_hasFloor_17 S x0 x1)
def p_Y2_hasFloor (S : Cst) (x0 : Nat) (x1 : Int32) : Prop := (if x1 = (-1) then (q_Y2_hasFloor_17 S x0 x1) else (if x1 = (giC S x0 6) then (q_Y2_hasFloor_18 S x0 x1 1) else (q_Y2_hasFloor_17 S x0 x1)))
def e_Y2_hasFloor : List Cond := [.fieldLink RX2 44 "MotionFloor$House" "speaker" "I"]
def v_Y2_hasFloor : List Cond := .code yX2_hasFloor cX2_hasFloor 2 (some .boolean) :: (e_Y2_hasFloor ++ (wsX20 ++ []))
theorem te_Y2_hasFloor : GoodIn lw_tbl e_Y2_hasFloor := wGc zc68 (wG0)
theorem t_Y2_hasFloor : GoodIn lw_tbl v_Y2_hasFloor := wGc zc187 (wGa te_Y2_hasFloor (wGa zcX2 (wG0)))
set_option maxHeartbeats 4000000 in
set_option maxRecDepth 100000 in
theorem c_Y2_hasFloor (l : Launch) (G : va_G) (K : Nat → ClassId) (ad : Nat → Nat) (S : Cst) (x0 : Nat) (a1 : Int32) (sz : Nat) : Met l yX2_hasFloor v_Y2_hasFloor ({ frames := 0, cells := 0, slots := 0, locals := 0 }) (va_Pc [.ref (ad x0), .int a1] (cSt G K ad sz S (iK S x0 1 ∧ p_Y2_hasFloor S x0 a1))) (va_Qi (fun (r : Int32) (u : Cst) => (r, u) = (f_Y2_hasFloor S x0 a1, S)) (cBt G K ad (va_A (wsC K ad S) sz)) (va_A (wsC K ad S) sz)) 0 0 (va_A (wsC K ad S) sz) := by
  refine Met.ofW (cc := cX2_hasFloor) (maxL := 2) (ret := (some .boolean)) (by decide) rfl ?_
  intro p e s m args below meth c s₁ B hml hv
  obtain ⟨rfl, ⟨hsz, hP, hK, hD0, hTE⟩, hp⟩ := hv
  obtain ⟨k_x0, hp⟩ := hp
  have hx := B.exec
  have hb := B.bytes
  have hr := B.returns
  have hts := atoms_spec (ws := v_Y2_hasFloor) B.pre
  have t_ := t_Y2_hasFloor
  have mw : ∀ w ∈ e_Y2_hasFloor, w ∈ v_Y2_hasFloor := fun w h => List.mem_cons_of_mem _ (List.mem_append_left _ h)
  have hw := fun w (h : w ∈ e_Y2_hasFloor) => hts w (mw w h)
  have iX2 : ∀ w ∈ wsX20, w ∈ v_Y2_hasFloor := fun w h => List.mem_cons_of_mem _ (List.mem_append_right _ (List.mem_append_left _ h))
  have hown : s.vm.findClass RX2 = some m.cls := findClass_of_methodNamed B.named
  have hlocks := B.notSynchronized
  subst hsz
  have hD := hD0.self (sz := s.heap.size)
  generalize hAe : va_A (wsC K ad S) s.heap.size = A at hD ⊢
  have hA : ∀ q : Nat, s.heap.size ≤ q → A q := fun q h => by rw [← hAe]; exact Or.inr h
  have hS : va_S A s.heap s.heap [] := va_S.rf
  have hl : lv_has (lg_sl ([.ref (ad x0), .int a1]) ++ List.replicate (2 - (lg_sl ([.ref (ad x0), .int a1])).length) Slot.unset).toArray 2 [(0, .ref (ad x0)), (1, .int a1)] := by
    exact lv_entry ([.ref (ad x0), .int a1]) (n := 2) (Nat.le_of_ble_eq_true rfl)
  rw [lg_entry_eq]
  generalize (lg_sl ([.ref (ad x0), .int a1]) ++ List.replicate (2 - (lg_sl ([.ref (ad x0), .int a1])).length) Slot.unset).toArray = ls_ at hl ⊢
  refine wGen (fun Q hQ => ?_)
  obtain ⟨X, hX⟩ : ∃ X, f_Y2_hasFloor S x0 a1 = X := ⟨_, rfl⟩
  have B_Y2_hasFloor_18 : ∀ (x1 : Int32) (y0 : Int32) (H : Heap) (locs : List Loc) (ls_ : Array Slot), b_Y2_hasFloor_18 S x0 x1 y0 = X → q_Y2_hasFloor_18 S x0 x1 y0 → va_P G vwCl (wsC K ad S) H → va_D A (wsC K ad S) → va_S A s.heap H locs → lv_has ls_ 2 [(0, .ref (ad x0)), (1, .int x1)] → W p l e ({ frames := 0, cells := 0, slots := 0, locals := 0 } : Room) s m #[Value.ref (ad x0), Value.int a1] below meth c H locs 0 0 Q (F0 m 18 ls_ [.int y0]) := by
    intro x1 y0 H locs ls_ hE hp hP hD hS hl
    unfold b_Y2_hasFloor_18 at hE
    unfold q_Y2_hasFloor_18 at hp
    obtain ⟨hy2, hp⟩ := hp
    subst hQ
    exact W.zret (v := y0) (ty := .boolean) hx hb hr hy2 (fun t ht hW => ⟨⟨y0, S, rfl, (pair_i (hE.trans hX.symm)), by rw [ht]; exact hP, hD⟩, hS.F ht⟩) hS.2.2 dX2_hasFloor_18
  have B_Y2_hasFloor_17 : ∀ (x1 : Int32) (H : Heap) (locs : List Loc) (ls_ : Array Slot), b_Y2_hasFloor_17 S x0 x1 = X → q_Y2_hasFloor_17 S x0 x1 → va_P G vwCl (wsC K ad S) H → va_D A (wsC K ad S) → va_S A s.heap H locs → lv_has ls_ 2 [(0, .ref (ad x0)), (1, .int x1)] → W p l e ({ frames := 0, cells := 0, slots := 0, locals := 0 } : Room) s m #[Value.ref (ad x0), Value.int a1] below meth c H locs 0 0 Q (F0 m 17 ls_ []) := by
    intro x1 H locs ls_ hE hp hP hD hS hl
    unfold b_Y2_hasFloor_17 at hE
    unfold q_Y2_hasFloor_17 at hp
    refine lv_iconst (v := 0) hx hb dX2_hasFloor_17 (by decide) ?_
    exact B_Y2_hasFloor_18 x1 0 _ _ _ hE hp hP hD hS (lv_sub hl [0, 1] rfl)
  have B_M : ∀ (x1 : Int32) (H : Heap) (locs : List Loc) (ls_ : Array Slot), f_Y2_hasFloor S x0 x1 = X → p_Y2_hasFloor S x0 x1 → va_P G vwCl (wsC K ad S) H → va_D A (wsC K ad S) → va_S A s.heap H locs → lv_has ls_ 2 [(0, .ref (ad x0)), (1, .int x1)] → W p l e ({ frames := 0, cells := 0, slots := 0, locals := 0 } : Room) s m #[Value.ref (ad x0), Value.int a1] below meth c H locs 0 0 Q (F0 m 0 ls_ []) := by
    intro x1 H locs ls_ hE hp hP hD hS hl
    unfold f_Y2_hasFloor at hE
    unfold p_Y2_hasFloor at hp
    refine lv_iload_n hx hb dX2_hasFloor_0 rfl (lv_at hl 1 rfl) ?_
    refine lv_iconst (v := (-1)) hx hb dX2_hasFloor_1 (by decide) ?_
    refine lv_icmp_eq (tgt := 17) hx hb dX2_hasFloor_2 (by decide) (fun c1 => ?_) (fun c1 => ?_)
    · rw [if_pos c1] at hE hp
      exact B_Y2_hasFloor_17 x1 _ _ _ hE hp hP hD hS (lv_sub hl [0, 1] rfl)
    · rw [if_neg c1] at hE hp
      refine lv_iload_n hx hb dX2_hasFloor_5 rfl (lv_at hl 1 rfl) ?_
      refine lv_aload_n hx hb dX2_hasFloor_6 rfl (lv_at hl 0 rfl) ?_
      refine va_get (D := G) (ci := 1) (v := .int (giC S x0 6)) (C := RX2) (T := TX2) (N := 8) hx hb hts iX2 hown hK hP x0 (at_1 k_x0) rfl 6 (by decide) (hw (.fieldLink RX2 44 "MotionFloor$House" "speaker" "I") (List.mem_of_getElem? (i := 0) rfl)) (fun _ h9 => h9) rfl dX2_hasFloor_7 ?_
      refine lv_icmp_ne (tgt := 17) hx hb dX2_hasFloor_10 (by decide) (fun c3 => ?_) (fun c3 => ?_)
      · rw [if_neg c3] at hE hp
        exact B_Y2_hasFloor_17 x1 _ _ _ hE hp hP hD hS (lv_sub hl [0, 1] rfl)
      · rw [if_pos c3] at hE hp
        refine lv_iconst (v := 1) hx hb dX2_hasFloor_13 (by decide) ?_
        refine lv_goto (tgt := 18) hx hb dX2_hasFloor_14 (by decide) ?_
        exact B_Y2_hasFloor_18 x1 1 _ _ _ hE hp hP hD hS (lv_sub hl [0, 1] rfl)
  exact B_M a1 _ _ _ hX hp hP hD hS hl
theorem dX8_againstMove_51 : decode cX8_againstMove 51 = .ok (.ifCond .ne 5, 3) := by decide +kernel
theorem dX8_againstMove_56 : decode cX8_againstMove 56 = .ok (.aload_n 3, 1) := by decide +kernel
theorem dX8_againstMove_57 : decode cX8_againstMove 57 = .ok (.ifnull 22, 3) := by decide +kernel
theorem dX8_againstMove_79 : decode cX8_againstMove 79 = .ok (.aload_n 0, 1) := by decide +kernel
theorem dX8_againstMove_80 : decode cX8_againstMove 80 = .ok (.getfield 34, 3) := by decide +kernel
theorem dX8_againstMove_83 : decode cX8_againstMove 83 = .ok (.invokevirtual 191, 3) := by decide +kernel
set_option maxRecDepth 100000 in
theorem zc188 : wZ (.code yX2_hasQuorum cX2_hasQuorum 1 (some .boolean)) := ⟨wT2 (List.mem_of_getElem? (i := 159) rfl), Or.inl rfl⟩
def b_Y2_hasQuorum_16 (S : Cst) (x0 : Nat) (y0 : Int32) : Int32 := y0
def q_Y2_hasQuorum_16 (S : Cst) (x0 : Nat) (y0 : Int32) : Prop := (narrow .boolean (.int y0) = .int y0) ∧ True
def f_Y2_hasQuorum (S : Cst) (x0 : Nat) : Int32 := if (giC S x0 2) < (giC S x0 4) then (b_Y2_hasQuorum_16 S x0 0) else (b_Y2_hasQuorum_16 S x0 1)
def p_Y2_hasQuorum (S : Cst) (x0 : Nat) : Prop := (if (giC S x0 2) < (giC S x0 4) then (q_Y2_hasQuorum_16 S x0 0) else (q_Y2_hasQuorum_16 S x0 1))
def e_Y2_hasQuorum : List Cond := [.fieldLink RX2 41 "MotionFloor$House" "present" "I", .fieldLink RX2 23 "MotionFloor$House" "quorum" "I"]
def v_Y2_hasQuorum : List Cond := .code yX2_hasQuorum cX2_hasQuorum 1 (some .boolean) :: (e_Y2_hasQuorum ++ (wsX20 ++ []))
theorem te_Y2_hasQuorum : GoodIn lw_tbl e_Y2_hasQuorum := wGc zc69 (wGc zc83 (wG0))
theorem t_Y2_hasQuorum : GoodIn lw_tbl v_Y2_hasQuorum := wGc zc188 (wGa te_Y2_hasQuorum (wGa zcX2 (wG0)))
set_option maxHeartbeats 4000000 in
set_option maxRecDepth 100000 in
theorem c_Y2_hasQuorum (l : Launch) (G : va_G) (K : Nat → ClassId) (ad : Nat → Nat) (S : Cst) (x0 : Nat)  (sz : Nat) : Met l yX2_hasQuorum v_Y2_hasQuorum ({ frames := 0, cells := 0, slots := 0, locals := 0 }) (va_Pc [.ref (ad x0)] (cSt G K ad sz S (iK S x0 1 ∧ p_Y2_hasQuorum S x0))) (va_Qi (fun (r : Int32) (u : Cst) => (r, u) = (f_Y2_hasQuorum S x0, S)) (cBt G K ad (va_A (wsC K ad S) sz)) (va_A (wsC K ad S) sz)) 0 0 (va_A (wsC K ad S) sz) := by
  refine Met.ofW (cc := cX2_hasQuorum) (maxL := 1) (ret := (some .boolean)) (by decide) rfl ?_
  intro p e s m args below meth c s₁ B hml hv
  obtain ⟨rfl, ⟨hsz, hP, hK, hD0, hTE⟩, hp⟩ := hv
  obtain ⟨k_x0, hp⟩ := hp
  have hx := B.exec
  have hb := B.bytes
  have hr := B.returns
  have hts := atoms_spec (ws := v_Y2_hasQuorum) B.pre
  have t_ := t_Y2_hasQuorum
  have mw : ∀ w ∈ e_Y2_hasQuorum, w ∈ v_Y2_hasQuorum := fun w h => List.mem_cons_of_mem _ (List.mem_append_left _ h)
  have hw := fun w (h : w ∈ e_Y2_hasQuorum) => hts w (mw w h)
  have iX2 : ∀ w ∈ wsX20, w ∈ v_Y2_hasQuorum := fun w h => List.mem_cons_of_mem _ (List.mem_append_right _ (List.mem_append_left _ h))
  have hown : s.vm.findClass RX2 = some m.cls := findClass_of_methodNamed B.named
  have hlocks := B.notSynchronized
  subst hsz
  have hD := hD0.self (sz := s.heap.size)
  generalize hAe : va_A (wsC K ad S) s.heap.size = A at hD ⊢
  have hA : ∀ q : Nat, s.heap.size ≤ q → A q := fun q h => by rw [← hAe]; exact Or.inr h
  have hS : va_S A s.heap s.heap [] := va_S.rf
  have hl : lv_has (lg_sl ([.ref (ad x0)]) ++ List.replicate (1 - (lg_sl ([.ref (ad x0)])).length) Slot.unset).toArray 1 [(0, .ref (ad x0))] := by
    exact lv_entry ([.ref (ad x0)]) (n := 1) (Nat.le_of_ble_eq_true rfl)
  rw [lg_entry_eq]
  generalize (lg_sl ([.ref (ad x0)]) ++ List.replicate (1 - (lg_sl ([.ref (ad x0)])).length) Slot.unset).toArray = ls_ at hl ⊢
  refine wGen (fun Q hQ => ?_)
  obtain ⟨X, hX⟩ : ∃ X, f_Y2_hasQuorum S x0 = X := ⟨_, rfl⟩
  have B_Y2_hasQuorum_16 : ∀ (y0 : Int32) (H : Heap) (locs : List Loc) (ls_ : Array Slot), b_Y2_hasQuorum_16 S x0 y0 = X → q_Y2_hasQuorum_16 S x0 y0 → va_P G vwCl (wsC K ad S) H → va_D A (wsC K ad S) → va_S A s.heap H locs → lv_has ls_ 1 [(0, .ref (ad x0))] → W p l e ({ frames := 0, cells := 0, slots := 0, locals := 0 } : Room) s m #[Value.ref (ad x0)] below meth c H locs 0 0 Q (F0 m 16 ls_ [.int y0]) := by
    intro y0 H locs ls_ hE hp hP hD hS hl
    unfold b_Y2_hasQuorum_16 at hE
    unfold q_Y2_hasQuorum_16 at hp
    obtain ⟨hy2, hp⟩ := hp
    subst hQ
    exact W.zret (v := y0) (ty := .boolean) hx hb hr hy2 (fun t ht hW => ⟨⟨y0, S, rfl, (pair_i (hE.trans hX.symm)), by rw [ht]; exact hP, hD⟩, hS.F ht⟩) hS.2.2 dX2_hasQuorum_16
  have B_M : ∀ (H : Heap) (locs : List Loc) (ls_ : Array Slot), f_Y2_hasQuorum S x0 = X → p_Y2_hasQuorum S x0 → va_P G vwCl (wsC K ad S) H → va_D A (wsC K ad S) → va_S A s.heap H locs → lv_has ls_ 1 [(0, .ref (ad x0))] → W p l e ({ frames := 0, cells := 0, slots := 0, locals := 0 } : Room) s m #[Value.ref (ad x0)] below meth c H locs 0 0 Q (F0 m 0 ls_ []) := by
    intro  H locs ls_ hE hp hP hD hS hl
    unfold f_Y2_hasQuorum at hE
    unfold p_Y2_hasQuorum at hp
    refine lv_aload_n hx hb dX2_hasQuorum_0 rfl (lv_at hl 0 rfl) ?_
    refine va_get (D := G) (ci := 1) (v := .int (giC S x0 2)) (C := RX2) (T := TX2) (N := 8) hx hb hts iX2 hown hK hP x0 (at_1 k_x0) rfl 2 (by decide) (hw (.fieldLink RX2 41 "MotionFloor$House" "present" "I") (List.mem_of_getElem? (i := 0) rfl)) (fun _ h9 => h9) rfl dX2_hasQuorum_1 ?_
    refine lv_aload_n hx hb dX2_hasQuorum_4 rfl (lv_at hl 0 rfl) ?_
    refine va_get (D := G) (ci := 1) (v := .int (giC S x0 4)) (C := RX2) (T := TX2) (N := 8) hx hb hts iX2 hown hK hP x0 (at_1 k_x0) rfl 4 (by decide) (hw (.fieldLink RX2 23 "MotionFloor$House" "quorum" "I") (List.mem_of_getElem? (i := 1) rfl)) (fun _ h9 => h9) rfl dX2_hasQuorum_5 ?_
    refine lv_icmp_lt (tgt := 15) hx hb dX2_hasQuorum_8 (by decide) (fun c1 => ?_) (fun c1 => ?_)
    · rw [if_pos c1] at hE hp
      refine lv_iconst (v := 0) hx hb dX2_hasQuorum_15 (by decide) ?_
      exact B_Y2_hasQuorum_16 0 _ _ _ hE hp hP hD hS (lv_sub hl [0] rfl)
    · rw [if_neg c1] at hE hp
      refine lv_iconst (v := 1) hx hb dX2_hasQuorum_11 (by decide) ?_
      refine lv_goto (tgt := 16) hx hb dX2_hasQuorum_12 (by decide) ?_
      exact B_Y2_hasQuorum_16 1 _ _ _ hE hp hP hD hS (lv_sub hl [0] rfl)
  exact B_M  _ _ _ hX hp hP hD hS hl
theorem dX4_needsPlace_0 : decode cX4_needsPlace 0 = .ok (.aload_n 0, 1) := by decide +kernel
theorem dX4_needsPlace_1 : decode cX4_needsPlace 1 = .ok (.getfield 36, 3) := by decide +kernel
theorem dX4_needsPlace_4 : decode cX4_needsPlace 4 = .ok (.iconst 4, 1) := by decide +kernel
theorem dX4_needsPlace_5 : decode cX4_needsPlace 5 = .ok (.if_icmp .eq 20, 3) := by decide +kernel
theorem dX4_needsPlace_8 : decode cX4_needsPlace 8 = .ok (.aload_n 0, 1) := by decide +kernel
theorem dX4_needsPlace_9 : decode cX4_needsPlace 9 = .ok (.getfield 36, 3) := by decide +kernel
theorem dX4_needsPlace_12 : decode cX4_needsPlace 12 = .ok (.iconst 5, 1) := by decide +kernel
theorem dX4_needsPlace_13 : decode cX4_needsPlace 13 = .ok (.if_icmp .eq 12, 3) := by decide +kernel
theorem dX4_needsPlace_16 : decode cX4_needsPlace 16 = .ok (.aload_n 0, 1) := by decide +kernel
theorem dX4_needsPlace_17 : decode cX4_needsPlace 17 = .ok (.getfield 36, 3) := by decide +kernel
theorem dX4_needsPlace_20 : decode cX4_needsPlace 20 = .ok (.bipush 7, 2) := by decide +kernel
theorem dX4_needsPlace_22 : decode cX4_needsPlace 22 = .ok (.if_icmp .ne 7, 3) := by decide +kernel
theorem dX4_needsPlace_25 : decode cX4_needsPlace 25 = .ok (.iconst 1, 1) := by decide +kernel
theorem dX4_needsPlace_26 : decode cX4_needsPlace 26 = .ok (.goto 4, 3) := by decide +kernel
theorem dX4_needsPlace_29 : decode cX4_needsPlace 29 = .ok (.iconst 0, 1) := by decide +kernel
theorem dX4_needsPlace_30 : decode cX4_needsPlace 30 = .ok (.ireturn, 1) := by decide +kernel
theorem dX8_againstMove_86 : decode cX8_againstMove 86 = .ok (.ifCond .ne 5, 3) := by decide +kernel
theorem dX8_againstMove_91 : decode cX8_againstMove 91 = .ok (.aload_n 2, 1) := by decide +kernel
theorem dX8_againstMove_92 : decode cX8_againstMove 92 = .ok (.ifnonnull 5, 3) := by decide +kernel
theorem dX8_againstMove_95 : decode cX8_againstMove 95 = .ok (.iconst 0, 1) := by decide +kernel
theorem dX8_againstMove_96 : decode cX8_againstMove 96 = .ok (.ireturn, 1) := by decide +kernel
theorem dX8_againstMove_97 : decode cX8_againstMove 97 = .ok (.aload_n 2, 1) := by decide +kernel
theorem dX8_againstMove_98 : decode cX8_againstMove 98 = .ok (.invokevirtual 150, 3) := by decide +kernel
theorem dX8_againstMove_101 : decode cX8_againstMove 101 = .ok (.ifCond .eq 13, 3) := by decide +kernel
theorem dX8_againstMove_114 : decode cX8_againstMove 114 = .ok (.aload_n 0, 1) := by decide +kernel
theorem dX8_againstMove_115 : decode cX8_againstMove 115 = .ok (.aload_n 2, 1) := by decide +kernel
theorem dX8_againstMove_116 : decode cX8_againstMove 116 = .ok (.aload_n 3, 1) := by decide +kernel
theorem dX8_againstMove_117 : decode cX8_againstMove 117 = .ok (.invokestatic 198, 3) := by decide +kernel
theorem dX8_lacksRoom_0 : decode cX8_lacksRoom 0 = .ok (.aload_n 0, 1) := by decide +kernel
theorem dX8_lacksRoom_1 : decode cX8_lacksRoom 1 = .ok (.getfield 86, 3) := by decide +kernel
theorem dX8_lacksRoom_4 : decode cX8_lacksRoom 4 = .ok (.getfield 117, 3) := by decide +kernel
theorem dX8_lacksRoom_7 : decode cX8_lacksRoom 7 = .ok (.bipush 9, 2) := by decide +kernel
theorem dX8_lacksRoom_9 : decode cX8_lacksRoom 9 = .ok (.if_icmp .lt 5, 3) := by decide +kernel
theorem dX8_lacksRoom_14 : decode cX8_lacksRoom 14 = .ok (.aload_n 1, 1) := by decide +kernel
theorem dX8_lacksRoom_15 : decode cX8_lacksRoom 15 = .ok (.invokevirtual 214, 3) := by decide +kernel
set_option maxRecDepth 100000 in
theorem zc189 : wZ (.code yX4_needsPlace cX4_needsPlace 1 (some .boolean)) := ⟨wT2 (List.mem_of_getElem? (i := 138) rfl), Or.inl rfl⟩
def b_Y4_needsPlace_30 (S : Cst) (x0 : Nat) (y0 : Int32) : Int32 := y0
def q_Y4_needsPlace_30 (S : Cst) (x0 : Nat) (y0 : Int32) : Prop := (narrow .boolean (.int y0) = .int y0) ∧ True
def b_Y4_needsPlace_25 (S : Cst) (x0 : Nat)  : Int32 := (b_Y4_needsPlace_30 S x0 1)
def q_Y4_needsPlace_25 (S : Cst) (x0 : Nat)  : Prop := (q_Y4_needsPlace_30 S x0 1)
def f_Y4_needsPlace (S : Cst) (x0 : Nat) : Int32 := if (giC S x0 2) = 4 then (b_Y4_needsPlace_25 S x0) else if (giC S x0 2) = 5 then (b_Y4_needsPlace_25 S x0) else if (giC S x0 2) = 7 then (b_Y4_needsPlace_25 S x0) else (b_Y4_needsPlace_30 S x0 0)
def p_Y4_needsPlace (S : Cst) (x0 : Nat) : Prop := (if (giC S x0 2) = 4 then (q_Y4_needsPlace_25 S x0) else (if (giC S x0 2) = 5 then (q_Y4_needsPlace_25 S x0) else (if (giC S x0 2) = 7 then (q_Y4_needsPlace_25 S x0) else (q_Y4_needsPlace_30 S x0 0))))
def e_Y4_needsPlace : List Cond := [.fieldLink RX4 36 "MotionFloor$Motion" "kind" "I"]
def v_Y4_needsPlace : List Cond := .code yX4_needsPlace cX4_needsPlace 1 (some .boolean) :: (e_Y4_needsPlace ++ (wsX40 ++ []))
theorem te_Y4_needsPlace : GoodIn lw_tbl e_Y4_needsPlace := wGc zc167 (wG0)
theorem t_Y4_needsPlace : GoodIn lw_tbl v_Y4_needsPlace := wGc zc189 (wGa te_Y4_needsPlace (wGa zcX4 (wG0)))
set_option maxHeartbeats 4000000 in
set_option maxRecDepth 100000 in
theorem c_Y4_needsPlace (l : Launch) (G : va_G) (K : Nat → ClassId) (ad : Nat → Nat) (S : Cst) (x0 : Nat)  (sz : Nat) : Met l yX4_needsPlace v_Y4_needsPlace ({ frames := 0, cells := 0, slots := 0, locals := 0 }) (va_Pc [.ref (ad x0)] (cSt G K ad sz S (iK S x0 3 ∧ p_Y4_needsPlace S x0))) (va_Qi (fun (r : Int32) (u : Cst) => (r, u) = (f_Y4_needsPlace S x0, S)) (cBt G K ad (va_A (wsC K ad S) sz)) (va_A (wsC K ad S) sz)) 0 0 (va_A (wsC K ad S) sz) := by
  refine Met.ofW (cc := cX4_needsPlace) (maxL := 1) (ret := (some .boolean)) (by decide) rfl ?_
  intro p e s m args below meth c s₁ B hml hv
  obtain ⟨rfl, ⟨hsz, hP, hK, hD0, hTE⟩, hp⟩ := hv
  obtain ⟨k_x0, hp⟩ := hp
  have hx := B.exec
  have hb := B.bytes
  have hr := B.returns
  have hts := atoms_spec (ws := v_Y4_needsPlace) B.pre
  have t_ := t_Y4_needsPlace
  have mw : ∀ w ∈ e_Y4_needsPlace, w ∈ v_Y4_needsPlace := fun w h => List.mem_cons_of_mem _ (List.mem_append_left _ h)
  have hw := fun w (h : w ∈ e_Y4_needsPlace) => hts w (mw w h)
  have iX4 : ∀ w ∈ wsX40, w ∈ v_Y4_needsPlace := fun w h => List.mem_cons_of_mem _ (List.mem_append_right _ (List.mem_append_left _ h))
  have hown : s.vm.findClass RX4 = some m.cls := findClass_of_methodNamed B.named
  have hlocks := B.notSynchronized
  subst hsz
  have hD := hD0.self (sz := s.heap.size)
  generalize hAe : va_A (wsC K ad S) s.heap.size = A at hD ⊢
  have hA : ∀ q : Nat, s.heap.size ≤ q → A q := fun q h => by rw [← hAe]; exact Or.inr h
  have hS : va_S A s.heap s.heap [] := va_S.rf
  have hl : lv_has (lg_sl ([.ref (ad x0)]) ++ List.replicate (1 - (lg_sl ([.ref (ad x0)])).length) Slot.unset).toArray 1 [(0, .ref (ad x0))] := by
    exact lv_entry ([.ref (ad x0)]) (n := 1) (Nat.le_of_ble_eq_true rfl)
  rw [lg_entry_eq]
  generalize (lg_sl ([.ref (ad x0)]) ++ List.replicate (1 - (lg_sl ([.ref (ad x0)])).length) Slot.unset).toArray = ls_ at hl ⊢
  refine wGen (fun Q hQ => ?_)
  obtain ⟨X, hX⟩ : ∃ X, f_Y4_needsPlace S x0 = X := ⟨_, rfl⟩
  have B_Y4_needsPlace_30 : ∀ (y0 : Int32) (H : Heap) (locs : List Loc) (ls_ : Array Slot), b_Y4_needsPlace_30 S x0 y0 = X → q_Y4_needsPlace_30 S x0 y0 → va_P G vwCl (wsC K ad S) H → va_D A (wsC K ad S) → va_S A s.heap H locs → lv_has ls_ 1 [(0, .ref (ad x0))] → W p l e ({ frames := 0, cells := 0, slots := 0, locals := 0 } : Room) s m #[Value.ref (ad x0)] below meth c H locs 0 0 Q (F0 m 30 ls_ [.int y0]) := by
    intro y0 H locs ls_ hE hp hP hD hS hl
    unfold b_Y4_needsPlace_30 at hE
    unfold q_Y4_needsPlace_30 at hp
    obtain ⟨hy2, hp⟩ := hp
    subst hQ
    exact W.zret (v := y0) (ty := .boolean) hx hb hr hy2 (fun t ht hW => ⟨⟨y0, S, rfl, (pair_i (hE.trans hX.symm)), by rw [ht]; exact hP, hD⟩, hS.F ht⟩) hS.2.2 dX4_needsPlace_30
  have B_Y4_needsPlace_25 : ∀  (H : Heap) (locs : List Loc) (ls_ : Array Slot), b_Y4_needsPlace_25 S x0 = X → q_Y4_needsPlace_25 S x0 → va_P G vwCl (wsC K ad S) H → va_D A (wsC K ad S) → va_S A s.heap H locs → lv_has ls_ 1 [(0, .ref (ad x0))] → W p l e ({ frames := 0, cells := 0, slots := 0, locals := 0 } : Room) s m #[Value.ref (ad x0)] below meth c H locs 0 0 Q (F0 m 25 ls_ []) := by
    intro  H locs ls_ hE hp hP hD hS hl
    unfold b_Y4_needsPlace_25 at hE
    unfold q_Y4_needsPlace_25 at hp
    refine lv_iconst (v := 1) hx hb dX4_needsPlace_25 (by decide) ?_
    refine lv_goto (tgt := 30) hx hb dX4_needsPlace_26 (by decide) ?_
    exact B_Y4_needsPlace_30 1 _ _ _ hE hp hP hD hS (lv_sub hl [0] rfl)
  have B_M : ∀ (H : Heap) (locs : List Loc) (ls_ : Array Slot), f_Y4_needsPlace S x0 = X → p_Y4_needsPlace S x0 → va_P G vwCl (wsC K ad S) H → va_D A (wsC K ad S) → va_S A s.heap H locs → lv_has ls_ 1 [(0, .ref (ad x0))] → W p l e ({ frames := 0, cells := 0, slots := 0, locals := 0 } : Room) s m #[Value.ref (ad x0)] below meth c H locs 0 0 Q (F0 m 0 ls_ []) := by
    intro  H locs ls_ hE hp hP hD hS hl
    unfold f_Y4_needsPlace at hE
    unfold p_Y4_needsPlace at hp
    refine lv_aload_n hx hb dX4_needsPlace_0 rfl (lv_at hl 0 rfl) ?_
    refine va_get (D := G) (ci := 3) (v := .int (giC S x0 2)) (C := RX4) (T := TX4) (N := 16) hx hb hts iX4 hown hK hP x0 (at_3 k_x0) rfl 2 (by decide) (hw (.fieldLink RX4 36 "MotionFloor$Motion" "kind" "I") (List.mem_of_getElem? (i := 0) rfl)) (fun _ h9 => h9) rfl dX4_needsPlace_1 ?_
    refine lv_iconst (v := 4) hx hb dX4_needsPlace_4 (by decide) ?_
    refine lv_icmp_eq (tgt := 25) hx hb dX4_needsPlace_5 (by decide) (fun c1 => ?_) (fun c1 => ?_)
    · rw [if_pos c1] at hE hp
      exact B_Y4_needsPlace_25  _ _ _ hE hp hP hD hS (lv_sub hl [0] rfl)
    · rw [if_neg c1] at hE hp
      refine lv_aload_n hx hb dX4_needsPlace_8 rfl (lv_at hl 0 rfl) ?_
      refine va_get (D := G) (ci := 3) (v := .int (giC S x0 2)) (C := RX4) (T := TX4) (N := 16) hx hb hts iX4 hown hK hP x0 (at_3 k_x0) rfl 2 (by decide) (hw (.fieldLink RX4 36 "MotionFloor$Motion" "kind" "I") (List.mem_of_getElem? (i := 0) rfl)) (fun _ h9 => h9) rfl dX4_needsPlace_9 ?_
      refine lv_iconst (v := 5) hx hb dX4_needsPlace_12 (by decide) ?_
      refine lv_icmp_eq (tgt := 25) hx hb dX4_needsPlace_13 (by decide) (fun c3 => ?_) (fun c3 => ?_)
      · rw [if_pos c3] at hE hp
        exact B_Y4_needsPlace_25  _ _ _ hE hp hP hD hS (lv_sub hl [0] rfl)
      · rw [if_neg c3] at hE hp
        refine lv_aload_n hx hb dX4_needsPlace_16 rfl (lv_at hl 0 rfl) ?_
        refine va_get (D := G) (ci := 3) (v := .int (giC S x0 2)) (C := RX4) (T := TX4) (N := 16) hx hb hts iX4 hown hK hP x0 (at_3 k_x0) rfl 2 (by decide) (hw (.fieldLink RX4 36 "MotionFloor$Motion" "kind" "I") (List.mem_of_getElem? (i := 0) rfl)) (fun _ h9 => h9) rfl dX4_needsPlace_17 ?_
        refine lv_bipush (v := 7) hx hb dX4_needsPlace_20 (by decide) ?_
        refine lv_icmp_ne (tgt := 29) hx hb dX4_needsPlace_22 (by decide) (fun c4 => ?_) (fun c4 => ?_)
        · rw [if_neg c4] at hE hp
          refine lv_iconst (v := 0) hx hb dX4_needsPlace_29 (by decide) ?_
          exact B_Y4_needsPlace_30 0 _ _ _ hE hp hP hD hS (lv_sub hl [0] rfl)
        · rw [if_pos c4] at hE hp
          exact B_Y4_needsPlace_25  _ _ _ hE hp hP hD hS (lv_sub hl [0] rfl)
  exact B_M  _ _ _ hX hp hP hD hS hl
theorem dX8_lacksRoom_18 : decode cX8_lacksRoom 18 = .ok (.ifCond .eq 16, 3) := by decide +kernel
theorem dX8_lacksRoom_34 : decode cX8_lacksRoom 34 = .ok (.aload_n 1, 1) := by decide +kernel
theorem dX8_lacksRoom_35 : decode cX8_lacksRoom 35 = .ok (.invokevirtual 150, 3) := by decide +kernel
theorem dX8_lacksRoom_38 : decode cX8_lacksRoom 38 = .ok (.ifCond .eq 23, 3) := by decide +kernel
theorem dX8_lacksRoom_41 : decode cX8_lacksRoom 41 = .ok (.aload_n 2, 1) := by decide +kernel
theorem dX8_lacksRoom_42 : decode cX8_lacksRoom 42 = .ok (.ifnull 19, 3) := by decide +kernel
theorem dX8_lacksRoom_45 : decode cX8_lacksRoom 45 = .ok (.aload_n 0, 1) := by decide +kernel
theorem dX8_lacksRoom_46 : decode cX8_lacksRoom 46 = .ok (.getfield 86, 3) := by decide +kernel
theorem dX8_lacksRoom_49 : decode cX8_lacksRoom 49 = .ok (.aload_n 1, 1) := by decide +kernel
theorem dX8_lacksRoom_50 : decode cX8_lacksRoom 50 = .ok (.aload_n 2, 1) := by decide +kernel
theorem dX8_lacksRoom_51 : decode cX8_lacksRoom 51 = .ok (.invokestatic 215, 3) := by decide +kernel
theorem dX8_lacksRoom_61 : decode cX8_lacksRoom 61 = .ok (.iconst 0, 1) := by decide +kernel
theorem dX8_lacksRoom_62 : decode cX8_lacksRoom 62 = .ok (.ireturn, 1) := by decide +kernel
theorem dX8_makesTextTooLong_0 : decode cX8_makesTextTooLong 0 = .ok (.aload_n 2, 1) := by decide +kernel
theorem dX8_makesTextTooLong_1 : decode cX8_makesTextTooLong 1 = .ok (.getfield 159, 3) := by decide +kernel
theorem dX8_makesTextTooLong_4 : decode cX8_makesTextTooLong 4 = .ok (.aload_n 1, 1) := by decide +kernel
theorem dX8_makesTextTooLong_5 : decode cX8_makesTextTooLong 5 = .ok (.getfield 218, 3) := by decide +kernel
theorem dX8_makesTextTooLong_8 : decode cX8_makesTextTooLong 8 = .ok (.aload_n 1, 1) := by decide +kernel
theorem dX8_makesTextTooLong_9 : decode cX8_makesTextTooLong 9 = .ok (.getfield 177, 3) := by decide +kernel
theorem dX8_makesTextTooLong_12 : decode cX8_makesTextTooLong 12 = .ok (.aload_n 1, 1) := by decide +kernel
theorem dX8_makesTextTooLong_13 : decode cX8_makesTextTooLong 13 = .ok (.getfield 159, 3) := by decide +kernel
theorem dX8_makesTextTooLong_16 : decode cX8_makesTextTooLong 16 = .ok (.getfield 163, 3) := by decide +kernel
theorem dX8_makesTextTooLong_19 : decode cX8_makesTextTooLong 19 = .ok (.invokevirtual 221, 3) := by decide +kernel
set_option maxRecDepth 100000 in
theorem zc190 : wZ (.code yX9_sizeWith cX9_sizeWith 4 (some .int)) := ⟨wT2 (List.mem_of_getElem? (i := 173) rfl), Or.inl rfl⟩
def f_Y9_sizeWith (S : Cst) (x0 : Nat) (x1 : Int32) (x2 : Int32) (x3 : Int32) : Int32 := (((giC S x0 1) - (x2 - x1)) + x3)
def p_Y9_sizeWith (S : Cst) (x0 : Nat) (x1 : Int32) (x2 : Int32) (x3 : Int32) : Prop := True
def e_Y9_sizeWith : List Cond := [.fieldLink RX9 15 "MotionFloor$Text" "size" "I"]
def v_Y9_sizeWith : List Cond := .code yX9_sizeWith cX9_sizeWith 4 (some .int) :: (e_Y9_sizeWith ++ (wsX90 ++ []))
theorem te_Y9_sizeWith : GoodIn lw_tbl e_Y9_sizeWith := wGc zc125 (wG0)
theorem t_Y9_sizeWith : GoodIn lw_tbl v_Y9_sizeWith := wGc zc190 (wGa te_Y9_sizeWith (wGa zcX9 (wG0)))
set_option maxHeartbeats 4000000 in
set_option maxRecDepth 100000 in
theorem c_Y9_sizeWith (l : Launch) (G : va_G) (K : Nat → ClassId) (ad : Nat → Nat) (S : Cst) (x0 : Nat) (a1 : Int32) (a2 : Int32) (a3 : Int32) (sz : Nat) : Met l yX9_sizeWith v_Y9_sizeWith ({ frames := 0, cells := 0, slots := 0, locals := 0 }) (va_Pc [.ref (ad x0), .int a1, .int a2, .int a3] (cSt G K ad sz S (iK S x0 6 ∧ p_Y9_sizeWith S x0 a1 a2 a3))) (va_Qi (fun (r : Int32) (u : Cst) => (r, u) = (f_Y9_sizeWith S x0 a1 a2 a3, S)) (cBt G K ad (va_A (wsC K ad S) sz)) (va_A (wsC K ad S) sz)) 0 0 (va_A (wsC K ad S) sz) := by
  refine Met.ofW (cc := cX9_sizeWith) (maxL := 4) (ret := (some .int)) (by decide) rfl ?_
  intro p e s m args below meth c s₁ B hml hv
  obtain ⟨rfl, ⟨hsz, hP, hK, hD0, hTE⟩, hp⟩ := hv
  obtain ⟨k_x0, hp⟩ := hp
  have hx := B.exec
  have hb := B.bytes
  have hr := B.returns
  have hts := atoms_spec (ws := v_Y9_sizeWith) B.pre
  have t_ := t_Y9_sizeWith
  have mw : ∀ w ∈ e_Y9_sizeWith, w ∈ v_Y9_sizeWith := fun w h => List.mem_cons_of_mem _ (List.mem_append_left _ h)
  have hw := fun w (h : w ∈ e_Y9_sizeWith) => hts w (mw w h)
  have iX9 : ∀ w ∈ wsX90, w ∈ v_Y9_sizeWith := fun w h => List.mem_cons_of_mem _ (List.mem_append_right _ (List.mem_append_left _ h))
  have hown : s.vm.findClass RX9 = some m.cls := findClass_of_methodNamed B.named
  have hlocks := B.notSynchronized
  subst hsz
  have hD := hD0.self (sz := s.heap.size)
  generalize hAe : va_A (wsC K ad S) s.heap.size = A at hD ⊢
  have hA : ∀ q : Nat, s.heap.size ≤ q → A q := fun q h => by rw [← hAe]; exact Or.inr h
  have hS : va_S A s.heap s.heap [] := va_S.rf
  have hl : lv_has (lg_sl ([.ref (ad x0), .int a1, .int a2, .int a3]) ++ List.replicate (4 - (lg_sl ([.ref (ad x0), .int a1, .int a2, .int a3])).length) Slot.unset).toArray 4 [(0, .ref (ad x0)), (1, .int a1), (2, .int a2), (3, .int a3)] := by
    exact lv_entry ([.ref (ad x0), .int a1, .int a2, .int a3]) (n := 4) (Nat.le_of_ble_eq_true rfl)
  rw [lg_entry_eq]
  generalize (lg_sl ([.ref (ad x0), .int a1, .int a2, .int a3]) ++ List.replicate (4 - (lg_sl ([.ref (ad x0), .int a1, .int a2, .int a3])).length) Slot.unset).toArray = ls_ at hl ⊢
  refine wGen (fun Q hQ => ?_)
  obtain ⟨X, hX⟩ : ∃ X, f_Y9_sizeWith S x0 a1 a2 a3 = X := ⟨_, rfl⟩
  have B_M : ∀ (x1 : Int32) (x2 : Int32) (x3 : Int32) (H : Heap) (locs : List Loc) (ls_ : Array Slot), f_Y9_sizeWith S x0 x1 x2 x3 = X → p_Y9_sizeWith S x0 x1 x2 x3 → va_P G vwCl (wsC K ad S) H → va_D A (wsC K ad S) → va_S A s.heap H locs → lv_has ls_ 4 [(0, .ref (ad x0)), (1, .int x1), (2, .int x2), (3, .int x3)] → W p l e ({ frames := 0, cells := 0, slots := 0, locals := 0 } : Room) s m #[Value.ref (ad x0), Value.int a1, Value.int a2, Value.int a3] below meth c H locs 0 0 Q (F0 m 0 ls_ []) := by
    intro x1 x2 x3 H locs ls_ hE hp hP hD hS hl
    unfold f_Y9_sizeWith at hE
    unfold p_Y9_sizeWith at hp
    refine lv_aload_n hx hb dX9_sizeWith_0 rfl (lv_at hl 0 rfl) ?_
    refine va_get (D := G) (ci := 6) (v := .int (giC S x0 1)) (C := RX9) (T := TX9) (N := 2) hx hb hts iX9 hown hK hP x0 (at_6 k_x0) rfl 1 (by decide) (hw (.fieldLink RX9 15 "MotionFloor$Text" "size" "I") (List.mem_of_getElem? (i := 0) rfl)) (fun _ h9 => h9) rfl dX9_sizeWith_1 ?_
    refine lv_iload_n hx hb dX9_sizeWith_4 rfl (lv_at hl 2 rfl) ?_
    refine lv_iload_n hx hb dX9_sizeWith_5 rfl (lv_at hl 1 rfl) ?_
    refine lv_isub hx hb dX9_sizeWith_6 ?_
    refine lv_isub hx hb dX9_sizeWith_7 ?_
    refine lv_iload_n hx hb dX9_sizeWith_8 rfl (lv_at hl 3 rfl) ?_
    refine lv_iadd hx hb dX9_sizeWith_9 ?_
    subst hQ
    exact W.iret (v := (((giC S x0 1) - (x2 - x1)) + x3)) hx hb hr (fun t ht hW => ⟨⟨(((giC S x0 1) - (x2 - x1)) + x3), S, rfl, (pair_i (hE.trans hX.symm)), by rw [ht]; exact hP, hD⟩, hS.F ht⟩) hS.2.2 dX9_sizeWith_10
  exact B_M a1 a2 a3 _ _ _ hX hp hP hD hS hl
theorem dX8_makesTextTooLong_22 : decode cX8_makesTextTooLong 22 = .ok (.istore_n 3, 1) := by decide +kernel
theorem dX8_makesTextTooLong_23 : decode cX8_makesTextTooLong 23 = .ok (.aload_n 0, 1) := by decide +kernel
theorem dX8_makesTextTooLong_24 : decode cX8_makesTextTooLong 24 = .ok (.aload_n 0, 1) := by decide +kernel
theorem dX8_makesTextTooLong_25 : decode cX8_makesTextTooLong 25 = .ok (.getfield 117, 3) := by decide +kernel
theorem dX8_makesTextTooLong_28 : decode cX8_makesTextTooLong 28 = .ok (.iconst 2, 1) := by decide +kernel
theorem dX8_makesTextTooLong_29 : decode cX8_makesTextTooLong 29 = .ok (.isub, 1) := by decide +kernel
theorem dX8_makesTextTooLong_30 : decode cX8_makesTextTooLong 30 = .ok (.invokevirtual 225, 3) := by decide +kernel
theorem dX8_makesTextTooLong_33 : decode cX8_makesTextTooLong 33 = .ok (.astore 4, 2) := by decide +kernel
theorem dX8_makesTextTooLong_35 : decode cX8_makesTextTooLong 35 = .ok (.iload_n 3, 1) := by decide +kernel
theorem dX8_makesTextTooLong_36 : decode cX8_makesTextTooLong 36 = .ok (.sipush 400, 3) := by decide +kernel
theorem dX8_makesTextTooLong_39 : decode cX8_makesTextTooLong 39 = .ok (.if_icmp .le 5, 3) := by decide +kernel
theorem dX8_makesTextTooLong_42 : decode cX8_makesTextTooLong 42 = .ok (.iconst 1, 1) := by decide +kernel
theorem dX8_makesTextTooLong_43 : decode cX8_makesTextTooLong 43 = .ok (.ireturn, 1) := by decide +kernel
theorem dX8_makesTextTooLong_44 : decode cX8_makesTextTooLong 44 = .ok (.aload_n 1, 1) := by decide +kernel
theorem dX8_makesTextTooLong_45 : decode cX8_makesTextTooLong 45 = .ok (.getfield 128, 3) := by decide +kernel
theorem dX8_makesTextTooLong_48 : decode cX8_makesTextTooLong 48 = .ok (.iconst 3, 1) := by decide +kernel
theorem dX8_makesTextTooLong_49 : decode cX8_makesTextTooLong 49 = .ok (.if_icmp .ne 35, 3) := by decide +kernel
theorem dX8_makesTextTooLong_52 : decode cX8_makesTextTooLong 52 = .ok (.aload 4, 2) := by decide +kernel
theorem dX8_makesTextTooLong_54 : decode cX8_makesTextTooLong 54 = .ok (.ifnull 30, 3) := by decide +kernel
theorem dX8_makesTextTooLong_57 : decode cX8_makesTextTooLong 57 = .ok (.aload 4, 2) := by decide +kernel
theorem dX8_makesTextTooLong_59 : decode cX8_makesTextTooLong 59 = .ok (.getfield 159, 3) := by decide +kernel
theorem dX8_makesTextTooLong_62 : decode cX8_makesTextTooLong 62 = .ok (.aload_n 2, 1) := by decide +kernel
theorem dX8_makesTextTooLong_63 : decode cX8_makesTextTooLong 63 = .ok (.getfield 218, 3) := by decide +kernel
theorem dX8_makesTextTooLong_66 : decode cX8_makesTextTooLong 66 = .ok (.aload_n 2, 1) := by decide +kernel
theorem dX8_makesTextTooLong_67 : decode cX8_makesTextTooLong 67 = .ok (.getfield 177, 3) := by decide +kernel
theorem dX8_makesTextTooLong_70 : decode cX8_makesTextTooLong 70 = .ok (.iload_n 3, 1) := by decide +kernel
theorem dX8_makesTextTooLong_71 : decode cX8_makesTextTooLong 71 = .ok (.invokevirtual 221, 3) := by decide +kernel
theorem dX8_makesTextTooLong_74 : decode cX8_makesTextTooLong 74 = .ok (.sipush 400, 3) := by decide +kernel
theorem dX8_makesTextTooLong_77 : decode cX8_makesTextTooLong 77 = .ok (.if_icmp .le 7, 3) := by decide +kernel
theorem dX8_makesTextTooLong_80 : decode cX8_makesTextTooLong 80 = .ok (.iconst 1, 1) := by decide +kernel
theorem dX8_makesTextTooLong_81 : decode cX8_makesTextTooLong 81 = .ok (.goto 4, 3) := by decide +kernel
theorem dX8_makesTextTooLong_84 : decode cX8_makesTextTooLong 84 = .ok (.iconst 0, 1) := by decide +kernel
theorem dX8_makesTextTooLong_85 : decode cX8_makesTextTooLong 85 = .ok (.ireturn, 1) := by decide +kernel
set_option maxRecDepth 100000 in
theorem zc191 : wZ (.methodLink RX8 225 yX5_at) := ⟨wT2 (List.mem_of_getElem? (i := 174) (by decide +kernel)), Or.inl rfl⟩
set_option maxRecDepth 100000 in
theorem zc192 : wZ (.selects RX9 yX9_sizeWith yX9_sizeWith) := ⟨wT2 (List.mem_of_getElem? (i := 172) (by decide +kernel)), Or.inl rfl⟩
set_option maxRecDepth 100000 in
theorem zc193 : wZ (.instanceMethod yX9_sizeWith) := ⟨wT2 (List.mem_of_getElem? (i := 171) (by decide +kernel)), Or.inl rfl⟩
set_option maxRecDepth 100000 in
theorem zc194 : wZ (.methodLink RX8 221 yX9_sizeWith) := ⟨wT2 (List.mem_of_getElem? (i := 170) (by decide +kernel)), Or.inl rfl⟩
set_option maxRecDepth 100000 in
theorem zc195 : wZ (.fieldLink RX8 163 "MotionFloor$Text" "size" "I") := ⟨wT1 (List.mem_of_getElem? (i := 159) (by decide +kernel)), Or.inl rfl⟩
set_option maxRecDepth 100000 in
theorem zc196 : wZ (.fieldLink RX8 177 "MotionFloor$Motion" "to" "I") := ⟨wT3 (List.mem_of_getElem? (i := 45) (by decide +kernel)), Or.inl rfl⟩
set_option maxRecDepth 100000 in
theorem zc197 : wZ (.fieldLink RX8 218 "MotionFloor$Motion" "from" "I") := ⟨wT3 (List.mem_of_getElem? (i := 40) (by decide +kernel)), Or.inl rfl⟩
set_option maxRecDepth 100000 in
theorem zc198 : wZ (.fieldLink RX8 159 "MotionFloor$Motion" "text" "LMotionFloor$Text;") := ⟨wT3 (List.mem_of_getElem? (i := 57) (by decide +kernel)), Or.inl rfl⟩
set_option maxRecDepth 100000 in
theorem zc199 : wZ (.code yX8_makesTextTooLong cX8_makesTextTooLong 5 (some .boolean)) := ⟨wT2 (List.mem_of_getElem? (i := 169) rfl), Or.inl rfl⟩
def b_Y8_makesTextTooLong_85 (S : Cst) (x0 : Nat) (x1 : Option Nat) (x2 : Option Nat) (x3 : Int32) (x4 : Option Nat) (y0 : Int32) : Int32 := y0
def q_Y8_makesTextTooLong_85 (S : Cst) (x0 : Nat) (x1 : Option Nat) (x2 : Option Nat) (x3 : Int32) (x4 : Option Nat) (y0 : Int32) : Prop := (narrow .boolean (.int y0) = .int y0) ∧ True
def b_Y8_makesTextTooLong_84 (S : Cst) (x0 : Nat) (x1 : Option Nat) (x2 : Option Nat) (x3 : Int32) (x4 : Option Nat) : Int32 := (b_Y8_makesTextTooLong_85 S x0 x1 x2 x3 x4 0)
def q_Y8_makesTextTooLong_84 (S : Cst) (x0 : Nat) (x1 : Option Nat) (x2 : Option Nat) (x3 : Int32) (x4 : Option Nat) : Prop := (q_Y8_makesTextTooLong_85 S x0 x1 x2 x3 x4 0)
def b_Y8_makesTextTooLong_74a (S : Cst) (x0 : Nat) (x1 : Option Nat) (x2 : Option Nat) (x3 : Int32) (x4 : Option Nat) (y0 : Int32) : Int32 := if y0 ≤ 400 then (b_Y8_makesTextTooLong_84 S x0 x1 x2 x3 x4) else (b_Y8_makesTextTooLong_85 S x0 x1 x2 x3 x4 1)
def q_Y8_makesTextTooLong_74a (S : Cst) (x0 : Nat) (x1 : Option Nat) (x2 : Option Nat) (x3 : Int32) (x4 : Option Nat) (y0 : Int32) : Prop := (if y0 ≤ 400 then (q_Y8_makesTextTooLong_84 S x0 x1 x2 x3 x4) else (q_Y8_makesTextTooLong_85 S x0 x1 x2 x3 x4 1))
def b_Y8_makesTextTooLong_22a (S : Cst) (x0 : Nat) (x1 : Option Nat) (x2 : Option Nat) (y0 : Int32) : Int32 := if y0 ≤ 400 then if (giC S (x1.getD 0) 2) = 3 then if (f_Y5_at S x0 ((giC S x0 1) - 2)) = none then (b_Y8_makesTextTooLong_84 S x0 x1 x2 y0 (f_Y5_at S x0 ((giC S x0 1) - 2))) else (b_Y8_makesTextTooLong_74a S x0 x1 x2 y0 (f_Y5_at S x0 ((giC S x0 1) - 2)) (f_Y9_sizeWith S ((grC S ((f_Y5_at S x0 ((giC S x0 1) - 2)).getD 0) 12).getD 0) (giC S (x2.getD 0) 8) (giC S (x2.getD 0) 9) y0)) else (b_Y8_makesTextTooLong_84 S x0 x1 x2 y0 (f_Y5_at S x0 ((giC S x0 1) - 2))) else (1 : Int32)
def q_Y8_makesTextTooLong_22a (S : Cst) (x0 : Nat) (x1 : Option Nat) (x2 : Option Nat) (y0 : Int32) : Prop := (p_Y5_at S x0 ((giC S x0 1) - 2)) ∧ (if y0 ≤ 400 then (iR S x1 3) ∧ (if (giC S (x1.getD 0) 2) = 3 then (if (f_Y5_at S x0 ((giC S x0 1) - 2)) = none then (q_Y8_makesTextTooLong_84 S x0 x1 x2 y0 (f_Y5_at S x0 ((giC S x0 1) - 2))) else (iR S (f_Y5_at S x0 ((giC S x0 1) - 2)) 3) ∧ (iR S x2 3) ∧ (iR S x2 3) ∧ (iR S (grC S ((f_Y5_at S x0 ((giC S x0 1) - 2)).getD 0) 12) 6) ∧ (p_Y9_sizeWith S ((grC S ((f_Y5_at S x0 ((giC S x0 1) - 2)).getD 0) 12).getD 0) (giC S (x2.getD 0) 8) (giC S (x2.getD 0) 9) y0) ∧ (q_Y8_makesTextTooLong_74a S x0 x1 x2 y0 (f_Y5_at S x0 ((giC S x0 1) - 2)) (f_Y9_sizeWith S ((grC S ((f_Y5_at S x0 ((giC S x0 1) - 2)).getD 0) 12).getD 0) (giC S (x2.getD 0) 8) (giC S (x2.getD 0) 9) y0))) else (q_Y8_makesTextTooLong_84 S x0 x1 x2 y0 (f_Y5_at S x0 ((giC S x0 1) - 2)))) else True)
def f_Y8_makesTextTooLong (S : Cst) (x0 : Nat) (x1 : Option Nat) (x2 : Option Nat) : Int32 := (b_Y8_makesTextTooLong_22a S x0 x1 x2 (f_Y9_sizeWith S ((grC S (x2.getD 0) 12).getD 0) (giC S (x1.getD 0) 8) (giC S (x1.getD 0) 9) (giC S ((grC S (x1.getD 0) 12).getD 0) 1)))
def p_Y8_makesTextTooLong (S : Cst) (x0 : Nat) (x1 : Option Nat) (x2 : Option Nat) : Prop := (iR S x2 3) ∧ (iR S x1 3) ∧ (iR S x1 3) ∧ (iR S x1 3) ∧ (iR S (grC S (x1.getD 0) 12) 6) ∧ (iR S (grC S (x2.getD 0) 12) 6) ∧ (p_Y9_sizeWith S ((grC S (x2.getD 0) 12).getD 0) (giC S (x1.getD 0) 8) (giC S (x1.getD 0) 9) (giC S ((grC S (x1.getD 0) 12).getD 0) 1)) ∧ (q_Y8_makesTextTooLong_22a S x0 x1 x2 (f_Y9_sizeWith S ((grC S (x2.getD 0) 12).getD 0) (giC S (x1.getD 0) 8) (giC S (x1.getD 0) 9) (giC S ((grC S (x1.getD 0) 12).getD 0) 1)))
def e_Y8_makesTextTooLong : List Cond := [.fieldLink RX8 159 "MotionFloor$Motion" "text" "LMotionFloor$Text;", .fieldLink RX8 218 "MotionFloor$Motion" "from" "I", .fieldLink RX8 177 "MotionFloor$Motion" "to" "I", .fieldLink RX8 163 "MotionFloor$Text" "size" "I", .methodLink RX8 221 yX9_sizeWith, .instanceMethod yX9_sizeWith, .selects RX9 yX9_sizeWith yX9_sizeWith, .initialized RX9, .fieldLink RX8 117 "MotionFloor$Pile" "size" "I", .methodLink RX8 225 yX5_at, .instanceMethod yX5_at, .selects RX5 yX5_at yX5_at, .initialized RX5, .fieldLink RX8 128 "MotionFloor$Motion" "kind" "I"]
def v_Y8_makesTextTooLong : List Cond := .code yX8_makesTextTooLong cX8_makesTextTooLong 5 (some .boolean) :: (e_Y8_makesTextTooLong ++ (wsX40 ++ (wsX90 ++ (wsX50 ++ (v_Y9_sizeWith ++ (v_Y5_at ++ []))))))
theorem te_Y8_makesTextTooLong : GoodIn lw_tbl e_Y8_makesTextTooLong := wGc zc198 (wGc zc197 (wGc zc196 (wGc zc195 (wGc zc194 (wGc zc193 (wGc zc192 (wGc zc135 (wGc zc163 (wGc zc191 (wGc zc128 (wGc zc127 (wGc zc34 (wGc zc155 (wG0))))))))))))))
theorem t_Y8_makesTextTooLong : GoodIn lw_tbl v_Y8_makesTextTooLong := wGc zc199 (wGa te_Y8_makesTextTooLong (wGa zcX4 (wGa zcX9 (wGa zcX5 (wGa t_Y9_sizeWith (wGa t_Y5_at (wG0)))))))
set_option maxHeartbeats 4000000 in
set_option maxRecDepth 100000 in
theorem c_Y8_makesTextTooLong (l : Launch) (G : va_G) (K : Nat → ClassId) (ad : Nat → Nat) (S : Cst) (x0 : Nat) (a1 : Option Nat) (a2 : Option Nat) (sz : Nat) : Met l yX8_makesTextTooLong v_Y8_makesTextTooLong ({ frames := 1, cells := 0, slots := 0, locals := 23 }) (va_Pc [.ref (ad x0), va_re ad a1, va_re ad a2] (cSt G K ad sz S (iK S x0 4 ∧ p_Y8_makesTextTooLong S x0 a1 a2))) (va_Qi (fun (r : Int32) (u : Cst) => (r, u) = (f_Y8_makesTextTooLong S x0 a1 a2, S)) (cBt G K ad (va_A (wsC K ad S) sz)) (va_A (wsC K ad S) sz)) 0 0 (va_A (wsC K ad S) sz) := by
  refine Met.ofW (cc := cX8_makesTextTooLong) (maxL := 5) (ret := (some .boolean)) (by decide) rfl ?_
  intro p e s m args below meth c s₁ B hml hv
  obtain ⟨rfl, ⟨hsz, hP, hK, hD0, hTE⟩, hp⟩ := hv
  obtain ⟨k_x0, hp⟩ := hp
  have hx := B.exec
  have hb := B.bytes
  have hr := B.returns
  have hts := atoms_spec (ws := v_Y8_makesTextTooLong) B.pre
  have t_ := t_Y8_makesTextTooLong
  have mw : ∀ w ∈ e_Y8_makesTextTooLong, w ∈ v_Y8_makesTextTooLong := fun w h => List.mem_cons_of_mem _ (List.mem_append_left _ h)
  have hw := fun w (h : w ∈ e_Y8_makesTextTooLong) => hts w (mw w h)
  have iX4 : ∀ w ∈ wsX40, w ∈ v_Y8_makesTextTooLong := fun w h => List.mem_cons_of_mem _ (List.mem_append_right _ (List.mem_append_left _ h))
  have iX9 : ∀ w ∈ wsX90, w ∈ v_Y8_makesTextTooLong := fun w h => List.mem_cons_of_mem _ (List.mem_append_right _ (List.mem_append_right _ (List.mem_append_left _ h)))
  have iX5 : ∀ w ∈ wsX50, w ∈ v_Y8_makesTextTooLong := fun w h => List.mem_cons_of_mem _ (List.mem_append_right _ (List.mem_append_right _ (List.mem_append_right _ (List.mem_append_left _ h))))
  have j_Y9_sizeWith : ∀ w ∈ v_Y9_sizeWith, w ∈ v_Y8_makesTextTooLong := fun w h => List.mem_cons_of_mem _ (List.mem_append_right _ (List.mem_append_right _ (List.mem_append_right _ (List.mem_append_right _ (List.mem_append_left _ h)))))
  have j_Y5_at : ∀ w ∈ v_Y5_at, w ∈ v_Y8_makesTextTooLong := fun w h => List.mem_cons_of_mem _ (List.mem_append_right _ (List.mem_append_right _ (List.mem_append_right _ (List.mem_append_right _ (List.mem_append_right _ (List.mem_append_left _ h))))))
  have hown : s.vm.findClass RX8 = some m.cls := findClass_of_methodNamed B.named
  have hlocks := B.notSynchronized
  subst hsz
  have hD := hD0.self (sz := s.heap.size)
  generalize hAe : va_A (wsC K ad S) s.heap.size = A at hD ⊢
  have hA : ∀ q : Nat, s.heap.size ≤ q → A q := fun q h => by rw [← hAe]; exact Or.inr h
  have hS : va_S A s.heap s.heap [] := va_S.rf
  have hl : lv_has (lg_sl ([.ref (ad x0), va_re ad a1, va_re ad a2]) ++ List.replicate (5 - (lg_sl ([.ref (ad x0), va_re ad a1, va_re ad a2])).length) Slot.unset).toArray 5 [(0, .ref (ad x0)), (1, va_re ad a1), (2, va_re ad a2)] := by
    cases a1 <;> cases a2 <;> exact lv_entry _ (n := 5) (Nat.le_of_ble_eq_true rfl)
  rw [lg_entry_eq]
  generalize (lg_sl ([.ref (ad x0), va_re ad a1, va_re ad a2]) ++ List.replicate (5 - (lg_sl ([.ref (ad x0), va_re ad a1, va_re ad a2])).length) Slot.unset).toArray = ls_ at hl ⊢
  refine wGen (fun Q hQ => ?_)
  obtain ⟨X, hX⟩ : ∃ X, f_Y8_makesTextTooLong S x0 a1 a2 = X := ⟨_, rfl⟩
  have B_Y8_makesTextTooLong_85 : ∀ (x1 : Option Nat) (x2 : Option Nat) (x3 : Int32) (x4 : Option Nat) (y0 : Int32) (H : Heap) (locs : List Loc) (ls_ : Array Slot), b_Y8_makesTextTooLong_85 S x0 x1 x2 x3 x4 y0 = X → q_Y8_makesTextTooLong_85 S x0 x1 x2 x3 x4 y0 → va_P G vwCl (wsC K ad S) H → va_D A (wsC K ad S) → va_S A s.heap H locs → lv_has ls_ 5 [(0, .ref (ad x0)), (1, va_re ad x1), (2, va_re ad x2), (3, .int x3), (4, va_re ad x4)] → W p l e ({ frames := 1, cells := 0, slots := 0, locals := 23 } : Room) s m #[Value.ref (ad x0), va_re ad a1, va_re ad a2] below meth c H locs 0 0 Q (F0 m 85 ls_ [.int y0]) := by
    intro x1 x2 x3 x4 y0 H locs ls_ hE hp hP hD hS hl
    unfold b_Y8_makesTextTooLong_85 at hE
    unfold q_Y8_makesTextTooLong_85 at hp
    obtain ⟨hy16, hp⟩ := hp
    subst hQ
    exact W.zret (v := y0) (ty := .boolean) hx hb hr hy16 (fun t ht hW => ⟨⟨y0, S, rfl, (pair_i (hE.trans hX.symm)), by rw [ht]; exact hP, hD⟩, hS.F ht⟩) hS.2.2 dX8_makesTextTooLong_85
  have B_Y8_makesTextTooLong_84 : ∀ (x1 : Option Nat) (x2 : Option Nat) (x3 : Int32) (x4 : Option Nat) (H : Heap) (locs : List Loc) (ls_ : Array Slot), b_Y8_makesTextTooLong_84 S x0 x1 x2 x3 x4 = X → q_Y8_makesTextTooLong_84 S x0 x1 x2 x3 x4 → va_P G vwCl (wsC K ad S) H → va_D A (wsC K ad S) → va_S A s.heap H locs → lv_has ls_ 5 [(0, .ref (ad x0)), (1, va_re ad x1), (2, va_re ad x2), (3, .int x3), (4, va_re ad x4)] → W p l e ({ frames := 1, cells := 0, slots := 0, locals := 23 } : Room) s m #[Value.ref (ad x0), va_re ad a1, va_re ad a2] below meth c H locs 0 0 Q (F0 m 84 ls_ []) := by
    intro x1 x2 x3 x4 H locs ls_ hE hp hP hD hS hl
    unfold b_Y8_makesTextTooLong_84 at hE
    unfold q_Y8_makesTextTooLong_84 at hp
    refine lv_iconst (v := 0) hx hb dX8_makesTextTooLong_84 (by decide) ?_
    exact B_Y8_makesTextTooLong_85 x1 x2 x3 x4 0 _ _ _ hE hp hP hD hS (lv_sub hl [0, 1, 2, 3, 4] rfl)
  have B_Y8_makesTextTooLong_74a : ∀ (x1 : Option Nat) (x2 : Option Nat) (x3 : Int32) (x4 : Option Nat) (y0 : Int32) (H : Heap) (locs : List Loc) (ls_ : Array Slot), b_Y8_makesTextTooLong_74a S x0 x1 x2 x3 x4 y0 = X → q_Y8_makesTextTooLong_74a S x0 x1 x2 x3 x4 y0 → va_P G vwCl (wsC K ad S) H → va_D A (wsC K ad S) → va_S A s.heap H locs → lv_has ls_ 5 [(0, .ref (ad x0)), (1, va_re ad x1), (2, va_re ad x2), (3, .int x3), (4, va_re ad x4)] → W p l e ({ frames := 1, cells := 0, slots := 0, locals := 23 } : Room) s m #[Value.ref (ad x0), va_re ad a1, va_re ad a2] below meth c H locs 0 0 Q (F0 m 74 ls_ [.int y0]) := by
    intro x1 x2 x3 x4 y0 H locs ls_ hE hp hP hD hS hl
    unfold b_Y8_makesTextTooLong_74a at hE
    unfold q_Y8_makesTextTooLong_74a at hp
    refine lv_sipush (v := 400) hx hb dX8_makesTextTooLong_74 (by decide) ?_
    refine lv_icmp_le (tgt := 84) hx hb dX8_makesTextTooLong_77 (by decide) (fun c25 => ?_) (fun c25 => ?_)
    · rw [if_pos c25] at hE hp
      exact B_Y8_makesTextTooLong_84 x1 x2 x3 x4 _ _ _ hE hp hP hD hS (lv_sub hl [0, 1, 2, 3, 4] rfl)
    · rw [if_neg c25] at hE hp
      refine lv_iconst (v := 1) hx hb dX8_makesTextTooLong_80 (by decide) ?_
      refine lv_goto (tgt := 85) hx hb dX8_makesTextTooLong_81 (by decide) ?_
      exact B_Y8_makesTextTooLong_85 x1 x2 x3 x4 1 _ _ _ hE hp hP hD hS (lv_sub hl [0, 1, 2, 3, 4] rfl)
  have B_Y8_makesTextTooLong_22a : ∀ (x1 : Option Nat) (x2 : Option Nat) (y0 : Int32) (H : Heap) (locs : List Loc) (ls_ : Array Slot), b_Y8_makesTextTooLong_22a S x0 x1 x2 y0 = X → q_Y8_makesTextTooLong_22a S x0 x1 x2 y0 → va_P G vwCl (wsC K ad S) H → va_D A (wsC K ad S) → va_S A s.heap H locs → lv_has ls_ 5 [(0, .ref (ad x0)), (1, va_re ad x1), (2, va_re ad x2)] → W p l e ({ frames := 1, cells := 0, slots := 0, locals := 23 } : Room) s m #[Value.ref (ad x0), va_re ad a1, va_re ad a2] below meth c H locs 0 0 Q (F0 m 22 ls_ [.int y0]) := by
    intro x1 x2 y0 H locs ls_ hE hp hP hD hS hl
    unfold b_Y8_makesTextTooLong_22a at hE
    unfold q_Y8_makesTextTooLong_22a at hp
    refine lv_istore_n (i := 3) (lv' := [(3, .int y0), (0, .ref (ad x0)), (1, va_re ad x1), (2, va_re ad x2)]) hx hb dX8_makesTextTooLong_22 rfl hl (by decide) (by simp [List.filter, re_cat]) (fun ls_ hl => ?_)
    refine lv_aload_n hx hb dX8_makesTextTooLong_23 rfl (lv_at hl 1 rfl) ?_
    refine lv_aload_n hx hb dX8_makesTextTooLong_24 rfl (lv_at hl 1 rfl) ?_
    refine va_get (D := G) (ci := 4) (v := .int (giC S x0 1)) (C := RX5) (T := TX5) (N := 2) hx hb hts iX5 hown hK hP x0 (at_4 k_x0) rfl 1 (by decide) (hw (.fieldLink RX8 117 "MotionFloor$Pile" "size" "I") (List.mem_of_getElem? (i := 8) rfl)) (fun _ h9 => h9) rfl dX8_makesTextTooLong_25 ?_
    refine lv_iconst (v := 2) hx hb dX8_makesTextTooLong_28 (by decide) ?_
    refine lv_isub hx hb dX8_makesTextTooLong_29 ?_
    obtain ⟨hy10, hp⟩ := hp
    refine cGoq (va_runV (As := [.int ((giC S x0 1) - 2)]) (rest := []) ⟨hx, hb, hml, hown, hts⟩ (c_Y5_at l G K ad S x0 ((giC S x0 1) - 2) _) (cwV 1 hts (wGV t_ (mw (.methodLink RX8 225 yX5_at) (List.mem_of_getElem? (i := 9) rfl)) (mw (.instanceMethod yX5_at) (List.mem_of_getElem? (i := 10) rfl)) (mw (.selects RX5 yX5_at yX5_at) (List.mem_of_getElem? (i := 11) rfl)) (mw (.initialized RX5) (List.mem_of_getElem? (i := 12) rfl)) j_Y5_at) rfl rfl rfl (by decide +kernel) ⟨Nat.le_of_ble_eq_true rfl, Nat.le_of_ble_eq_true rfl⟩) (cPV hK hTE hP hD 4 rfl (at_4 k_x0) ⟨k_x0, hy10⟩) rfl rfl hl.1 rfl (lv_room (Nat.le_of_ble_eq_true rfl)) dX8_makesTextTooLong_30 ⟨Nat.le_of_ble_eq_true rfl, Nat.le_of_ble_eq_true rfl⟩) hP hD hS hA (fun r12 u11 H locs hv hP hD hS => ?_)
    have h1 := congrArg Prod.fst hv
    have h2 := (congrArg Prod.snd hv).symm
    dsimp only at h1 h2
    subst h1
    subst h2
    refine cAstore (ad := ad) (r := (f_Y5_at S x0 ((giC S x0 1) - 2))) (i := 4) (lv' := [(4, va_re ad (f_Y5_at S x0 ((giC S x0 1) - 2))), (3, .int y0), (0, .ref (ad x0)), (1, va_re ad x1), (2, va_re ad x2)]) hx hb dX8_makesTextTooLong_33 hl (by decide) rfl (fun ls_ hl => ?_)
    refine lv_iload_n hx hb dX8_makesTextTooLong_35 rfl (lv_at hl 1 rfl) ?_
    refine lv_sipush (v := 400) hx hb dX8_makesTextTooLong_36 (by decide) ?_
    refine lv_icmp_le (tgt := 44) hx hb dX8_makesTextTooLong_39 (by decide) (fun c13 => ?_) (fun c13 => ?_)
    · rw [if_pos c13] at hE hp
      refine cAload_n (ad := ad) (r := x1) hx hb dX8_makesTextTooLong_44 rfl (lv_at hl 3 rfl) ?_
      obtain ⟨hy14, hp⟩ := hp
      refine cTop (r := x1) hy14.1 ?_
      refine va_get (D := G) (ci := 3) (v := .int (giC S (x1.getD 0) 2)) (C := RX4) (T := TX4) (N := 16) hx hb hts iX4 hown hK hP (x1.getD 0) (at_3 hy14.2) rfl 2 (by decide) (hw (.fieldLink RX8 128 "MotionFloor$Motion" "kind" "I") (List.mem_of_getElem? (i := 13) rfl)) (fun _ h9 => h9) rfl dX8_makesTextTooLong_45 ?_
      refine lv_iconst (v := 3) hx hb dX8_makesTextTooLong_48 (by decide) ?_
      refine lv_icmp_ne (tgt := 84) hx hb dX8_makesTextTooLong_49 (by decide) (fun c15 => ?_) (fun c15 => ?_)
      · rw [if_neg c15] at hE hp
        exact B_Y8_makesTextTooLong_84 x1 x2 y0 (f_Y5_at S x0 ((giC S x0 1) - 2)) _ _ _ hE hp hP hD hS (lv_sub hl [2, 3, 4, 1, 0] rfl)
      · rw [if_pos c15] at hE hp
        refine cAload (ad := ad) (r := (f_Y5_at S x0 ((giC S x0 1) - 2))) hx hb dX8_makesTextTooLong_52 (lv_at hl 0 rfl) ?_
        refine cIfnull (ad := ad) (r := (f_Y5_at S x0 ((giC S x0 1) - 2))) (tgt := 84) hx hb dX8_makesTextTooLong_54 (by decide) (fun c17 => ?_) (fun c17 => ?_)
        · rw [if_pos c17] at hE hp
          exact B_Y8_makesTextTooLong_84 x1 x2 y0 (f_Y5_at S x0 ((giC S x0 1) - 2)) _ _ _ hE hp hP hD hS (lv_sub hl [2, 3, 4, 1, 0] rfl)
        · rw [if_neg c17] at hE hp
          refine cAload (ad := ad) (r := (f_Y5_at S x0 ((giC S x0 1) - 2))) hx hb dX8_makesTextTooLong_57 (lv_at hl 0 rfl) ?_
          obtain ⟨hy18, hp⟩ := hp
          refine cTop (r := (f_Y5_at S x0 ((giC S x0 1) - 2))) hy18.1 ?_
          refine va_get (D := G) (ci := 3) (v := va_re ad (grC S ((f_Y5_at S x0 ((giC S x0 1) - 2)).getD 0) 12)) (C := RX4) (T := TX4) (N := 16) hx hb hts iX4 hown hK hP ((f_Y5_at S x0 ((giC S x0 1) - 2)).getD 0) (at_3 hy18.2) rfl 12 (by decide) (hw (.fieldLink RX8 159 "MotionFloor$Motion" "text" "LMotionFloor$Text;") (List.mem_of_getElem? (i := 0) rfl)) (fun _ h9 => h9) rfl dX8_makesTextTooLong_59 ?_
          refine cAload_n (ad := ad) (r := x2) hx hb dX8_makesTextTooLong_62 rfl (lv_at hl 4 rfl) ?_
          obtain ⟨hy19, hp⟩ := hp
          refine cTop (r := x2) hy19.1 ?_
          refine va_get (D := G) (ci := 3) (v := .int (giC S (x2.getD 0) 8)) (C := RX4) (T := TX4) (N := 16) hx hb hts iX4 hown hK hP (x2.getD 0) (at_3 hy19.2) rfl 8 (by decide) (hw (.fieldLink RX8 218 "MotionFloor$Motion" "from" "I") (List.mem_of_getElem? (i := 1) rfl)) (fun _ h9 => h9) rfl dX8_makesTextTooLong_63 ?_
          refine cAload_n (ad := ad) (r := x2) hx hb dX8_makesTextTooLong_66 rfl (lv_at hl 4 rfl) ?_
          obtain ⟨hy20, hp⟩ := hp
          refine cTop (r := x2) hy20.1 ?_
          refine va_get (D := G) (ci := 3) (v := .int (giC S (x2.getD 0) 9)) (C := RX4) (T := TX4) (N := 16) hx hb hts iX4 hown hK hP (x2.getD 0) (at_3 hy20.2) rfl 9 (by decide) (hw (.fieldLink RX8 177 "MotionFloor$Motion" "to" "I") (List.mem_of_getElem? (i := 2) rfl)) (fun _ h9 => h9) rfl dX8_makesTextTooLong_67 ?_
          refine lv_iload_n hx hb dX8_makesTextTooLong_70 rfl (lv_at hl 1 rfl) ?_
          obtain ⟨hy21, hp⟩ := hp
          refine cTop4 (r := (grC S ((f_Y5_at S x0 ((giC S x0 1) - 2)).getD 0) 12)) hy21.1 ?_
          obtain ⟨hy22, hp⟩ := hp
          refine cGoi (va_runV (As := [.int (giC S (x2.getD 0) 8), .int (giC S (x2.getD 0) 9), .int y0]) (rest := []) ⟨hx, hb, hml, hown, hts⟩ (c_Y9_sizeWith l G K ad S ((grC S ((f_Y5_at S x0 ((giC S x0 1) - 2)).getD 0) 12).getD 0) (giC S (x2.getD 0) 8) (giC S (x2.getD 0) 9) y0 _) (cwV 3 hts (wGV t_ (mw (.methodLink RX8 221 yX9_sizeWith) (List.mem_of_getElem? (i := 4) rfl)) (mw (.instanceMethod yX9_sizeWith) (List.mem_of_getElem? (i := 5) rfl)) (mw (.selects RX9 yX9_sizeWith yX9_sizeWith) (List.mem_of_getElem? (i := 6) rfl)) (mw (.initialized RX9) (List.mem_of_getElem? (i := 7) rfl)) j_Y9_sizeWith) rfl rfl rfl (by decide +kernel) ⟨Nat.le_of_ble_eq_true rfl, Nat.le_of_ble_eq_true rfl⟩) (cPV hK hTE hP hD 6 rfl (at_6 hy21.2) ⟨hy21.2, hy22⟩) rfl rfl hl.1 rfl (lv_room (Nat.le_of_ble_eq_true rfl)) dX8_makesTextTooLong_71 ⟨Nat.le_of_ble_eq_true rfl, Nat.le_of_ble_eq_true rfl⟩) hP hD hS hA (fun r24 u23 H locs hv hP hD hS => ?_)
          have h1 := congrArg Prod.fst hv
          have h2 := (congrArg Prod.snd hv).symm
          dsimp only at h1 h2
          subst h1
          subst h2
          exact B_Y8_makesTextTooLong_74a x1 x2 y0 (f_Y5_at S x0 ((giC S x0 1) - 2)) (f_Y9_sizeWith S ((grC S ((f_Y5_at S x0 ((giC S x0 1) - 2)).getD 0) 12).getD 0) (giC S (x2.getD 0) 8) (giC S (x2.getD 0) 9) y0) _ _ _ hE hp hP hD hS (lv_sub hl [2, 3, 4, 1, 0] rfl)
    · rw [if_neg c13] at hE hp
      refine lv_iconst (v := 1) hx hb dX8_makesTextTooLong_42 (by decide) ?_
      subst hQ
      exact W.zret (v := (1 : Int32)) (ty := .boolean) hx hb hr rfl (fun t ht hW => ⟨⟨(1 : Int32), S, rfl, (pair_i (hE.trans hX.symm)), by rw [ht]; exact hP, hD⟩, hS.F ht⟩) hS.2.2 dX8_makesTextTooLong_43
  have B_M : ∀ (x1 : Option Nat) (x2 : Option Nat) (H : Heap) (locs : List Loc) (ls_ : Array Slot), f_Y8_makesTextTooLong S x0 x1 x2 = X → p_Y8_makesTextTooLong S x0 x1 x2 → va_P G vwCl (wsC K ad S) H → va_D A (wsC K ad S) → va_S A s.heap H locs → lv_has ls_ 5 [(0, .ref (ad x0)), (1, va_re ad x1), (2, va_re ad x2)] → W p l e ({ frames := 1, cells := 0, slots := 0, locals := 23 } : Room) s m #[Value.ref (ad x0), va_re ad a1, va_re ad a2] below meth c H locs 0 0 Q (F0 m 0 ls_ []) := by
    intro x1 x2 H locs ls_ hE hp hP hD hS hl
    unfold f_Y8_makesTextTooLong at hE
    unfold p_Y8_makesTextTooLong at hp
    refine cAload_n (ad := ad) (r := x2) hx hb dX8_makesTextTooLong_0 rfl (lv_at hl 2 rfl) ?_
    obtain ⟨hy1, hp⟩ := hp
    refine cTop (r := x2) hy1.1 ?_
    refine va_get (D := G) (ci := 3) (v := va_re ad (grC S (x2.getD 0) 12)) (C := RX4) (T := TX4) (N := 16) hx hb hts iX4 hown hK hP (x2.getD 0) (at_3 hy1.2) rfl 12 (by decide) (hw (.fieldLink RX8 159 "MotionFloor$Motion" "text" "LMotionFloor$Text;") (List.mem_of_getElem? (i := 0) rfl)) (fun _ h9 => h9) rfl dX8_makesTextTooLong_1 ?_
    refine cAload_n (ad := ad) (r := x1) hx hb dX8_makesTextTooLong_4 rfl (lv_at hl 1 rfl) ?_
    obtain ⟨hy2, hp⟩ := hp
    refine cTop (r := x1) hy2.1 ?_
    refine va_get (D := G) (ci := 3) (v := .int (giC S (x1.getD 0) 8)) (C := RX4) (T := TX4) (N := 16) hx hb hts iX4 hown hK hP (x1.getD 0) (at_3 hy2.2) rfl 8 (by decide) (hw (.fieldLink RX8 218 "MotionFloor$Motion" "from" "I") (List.mem_of_getElem? (i := 1) rfl)) (fun _ h9 => h9) rfl dX8_makesTextTooLong_5 ?_
    refine cAload_n (ad := ad) (r := x1) hx hb dX8_makesTextTooLong_8 rfl (lv_at hl 1 rfl) ?_
    obtain ⟨hy3, hp⟩ := hp
    refine cTop (r := x1) hy3.1 ?_
    refine va_get (D := G) (ci := 3) (v := .int (giC S (x1.getD 0) 9)) (C := RX4) (T := TX4) (N := 16) hx hb hts iX4 hown hK hP (x1.getD 0) (at_3 hy3.2) rfl 9 (by decide) (hw (.fieldLink RX8 177 "MotionFloor$Motion" "to" "I") (List.mem_of_getElem? (i := 2) rfl)) (fun _ h9 => h9) rfl dX8_makesTextTooLong_9 ?_
    refine cAload_n (ad := ad) (r := x1) hx hb dX8_makesTextTooLong_12 rfl (lv_at hl 1 rfl) ?_
    obtain ⟨hy4, hp⟩ := hp
    refine cTop (r := x1) hy4.1 ?_
    refine va_get (D := G) (ci := 3) (v := va_re ad (grC S (x1.getD 0) 12)) (C := RX4) (T := TX4) (N := 16) hx hb hts iX4 hown hK hP (x1.getD 0) (at_3 hy4.2) rfl 12 (by decide) (hw (.fieldLink RX8 159 "MotionFloor$Motion" "text" "LMotionFloor$Text;") (List.mem_of_getElem? (i := 0) rfl)) (fun _ h9 => h9) rfl dX8_makesTextTooLong_13 ?_
    obtain ⟨hy5, hp⟩ := hp
    refine cTop (r := (grC S (x1.getD 0) 12)) hy5.1 ?_
    refine va_get (D := G) (ci := 6) (v := .int (giC S ((grC S (x1.getD 0) 12).getD 0) 1)) (C := RX9) (T := TX9) (N := 2) hx hb hts iX9 hown hK hP ((grC S (x1.getD 0) 12).getD 0) (at_6 hy5.2) rfl 1 (by decide) (hw (.fieldLink RX8 163 "MotionFloor$Text" "size" "I") (List.mem_of_getElem? (i := 3) rfl)) (fun _ h9 => h9) rfl dX8_makesTextTooLong_16 ?_
    obtain ⟨hy6, hp⟩ := hp
    refine cTop4 (r := (grC S (x2.getD 0) 12)) hy6.1 ?_
    obtain ⟨hy7, hp⟩ := hp
    refine cGoi (va_runV (As := [.int (giC S (x1.getD 0) 8), .int (giC S (x1.getD 0) 9), .int (giC S ((grC S (x1.getD 0) 12).getD 0) 1)]) (rest := []) ⟨hx, hb, hml, hown, hts⟩ (c_Y9_sizeWith l G K ad S ((grC S (x2.getD 0) 12).getD 0) (giC S (x1.getD 0) 8) (giC S (x1.getD 0) 9) (giC S ((grC S (x1.getD 0) 12).getD 0) 1) _) (cwV 3 hts (wGV t_ (mw (.methodLink RX8 221 yX9_sizeWith) (List.mem_of_getElem? (i := 4) rfl)) (mw (.instanceMethod yX9_sizeWith) (List.mem_of_getElem? (i := 5) rfl)) (mw (.selects RX9 yX9_sizeWith yX9_sizeWith) (List.mem_of_getElem? (i := 6) rfl)) (mw (.initialized RX9) (List.mem_of_getElem? (i := 7) rfl)) j_Y9_sizeWith) rfl rfl rfl (by decide +kernel) ⟨Nat.le_of_ble_eq_true rfl, Nat.le_of_ble_eq_true rfl⟩) (cPV hK hTE hP hD 6 rfl (at_6 hy6.2) ⟨hy6.2, hy7⟩) rfl rfl hl.1 rfl (lv_room (Nat.le_of_ble_eq_true rfl)) dX8_makesTextTooLong_19 ⟨Nat.le_of_ble_eq_true rfl, Nat.le_of_ble_eq_true rfl⟩) hP hD hS hA (fun r9 u8 H locs hv hP hD hS => ?_)
    have h1 := congrArg Prod.fst hv
    have h2 := (congrArg Prod.snd hv).symm
    dsimp only at h1 h2
    subst h1
    subst h2
    exact B_Y8_makesTextTooLong_22a x1 x2 (f_Y9_sizeWith S ((grC S (x2.getD 0) 12).getD 0) (giC S (x1.getD 0) 8) (giC S (x1.getD 0) 9) (giC S ((grC S (x1.getD 0) 12).getD 0) 1)) _ _ _ hE hp hP hD hS (lv_sub hl [0, 1, 2] rfl)
  exact B_M a1 a2 _ _ _ hX hp hP hD hS hl
theorem dX8_lacksRoom_12 : decode cX8_lacksRoom 12 = .ok (.iconst 1, 1) := by decide +kernel
theorem dX8_lacksRoom_13 : decode cX8_lacksRoom 13 = .ok (.ireturn, 1) := by decide +kernel
theorem dX8_lacksRoom_21 : decode cX8_lacksRoom 21 = .ok (.aload_n 0, 1) := by decide +kernel
theorem dX8_lacksRoom_22 : decode cX8_lacksRoom 22 = .ok (.invokevirtual 180, 3) := by decide +kernel
theorem dX8_lacksRoom_25 : decode cX8_lacksRoom 25 = .ok (.ifCond .ne 7, 3) := by decide +kernel
theorem dX8_lacksRoom_28 : decode cX8_lacksRoom 28 = .ok (.iconst 1, 1) := by decide +kernel
theorem dX8_lacksRoom_29 : decode cX8_lacksRoom 29 = .ok (.goto 4, 3) := by decide +kernel
theorem dX8_lacksRoom_32 : decode cX8_lacksRoom 32 = .ok (.iconst 0, 1) := by decide +kernel
theorem dX8_lacksRoom_33 : decode cX8_lacksRoom 33 = .ok (.ireturn, 1) := by decide +kernel
theorem dX8_lacksRoom_54 : decode cX8_lacksRoom 54 = .ok (.ifCond .eq 7, 3) := by decide +kernel
theorem dX8_lacksRoom_57 : decode cX8_lacksRoom 57 = .ok (.iconst 1, 1) := by decide +kernel
theorem dX8_lacksRoom_58 : decode cX8_lacksRoom 58 = .ok (.goto 4, 3) := by decide +kernel
set_option maxRecDepth 100000 in
theorem zc200 : wZ (.selects RX0 yX0_freePlaces yX0_freePlaces) := ⟨wT2 (List.mem_of_getElem? (i := 128) (by decide +kernel)), Or.inl rfl⟩
set_option maxRecDepth 100000 in
theorem zc201 : wZ (.instanceMethod yX0_freePlaces) := ⟨wT2 (List.mem_of_getElem? (i := 127) (by decide +kernel)), Or.inl rfl⟩
set_option maxRecDepth 100000 in
theorem zc202 : wZ (.methodLink RX8 180 yX0_freePlaces) := ⟨wT2 (List.mem_of_getElem? (i := 126) (by decide +kernel)), Or.inl rfl⟩
set_option maxRecDepth 100000 in
theorem zc203 : wZ (.static yX8_makesTextTooLong) := ⟨wT2 (List.mem_of_getElem? (i := 168) (by decide +kernel)), Or.inl rfl⟩
set_option maxRecDepth 100000 in
theorem zc204 : wZ (.methodLink RX8 215 yX8_makesTextTooLong) := ⟨wT2 (List.mem_of_getElem? (i := 167) (by decide +kernel)), Or.inl rfl⟩
set_option maxRecDepth 100000 in
theorem zc205 : wZ (.selects RX4 yX4_needsPlace yX4_needsPlace) := ⟨wT2 (List.mem_of_getElem? (i := 137) (by decide +kernel)), Or.inl rfl⟩
set_option maxRecDepth 100000 in
theorem zc206 : wZ (.instanceMethod yX4_needsPlace) := ⟨wT2 (List.mem_of_getElem? (i := 136) (by decide +kernel)), Or.inl rfl⟩
set_option maxRecDepth 100000 in
theorem zc207 : wZ (.methodLink RX8 214 yX4_needsPlace) := ⟨wT2 (List.mem_of_getElem? (i := 166) (by decide +kernel)), Or.inl rfl⟩
set_option maxRecDepth 100000 in
theorem zc208 : wZ (.code yX8_lacksRoom cX8_lacksRoom 3 (some .boolean)) := ⟨wT2 (List.mem_of_getElem? (i := 165) rfl), Or.inl rfl⟩
def b_Y8_lacksRoom_62 (S : Cst) (x0 : Nat) (x1 : Option Nat) (x2 : Option Nat) (y0 : Int32) : Int32 := y0
def q_Y8_lacksRoom_62 (S : Cst) (x0 : Nat) (x1 : Option Nat) (x2 : Option Nat) (y0 : Int32) : Prop := (narrow .boolean (.int y0) = .int y0) ∧ True
def b_Y8_lacksRoom_61 (S : Cst) (x0 : Nat) (x1 : Option Nat) (x2 : Option Nat) : Int32 := (b_Y8_lacksRoom_62 S x0 x1 x2 0)
def q_Y8_lacksRoom_61 (S : Cst) (x0 : Nat) (x1 : Option Nat) (x2 : Option Nat) : Prop := (q_Y8_lacksRoom_62 S x0 x1 x2 0)
def b_Y8_lacksRoom_33 (S : Cst) (x0 : Nat) (x1 : Option Nat) (x2 : Option Nat) (y0 : Int32) : Int32 := y0
def q_Y8_lacksRoom_33 (S : Cst) (x0 : Nat) (x1 : Option Nat) (x2 : Option Nat) (y0 : Int32) : Prop := (narrow .boolean (.int y0) = .int y0) ∧ True
def f_Y8_lacksRoom (S : Cst) (x0 : Nat) (x1 : Option Nat) (x2 : Option Nat) : Int32 := if (giC S ((grC S x0 1).getD 0) 1) < 9 then if (f_Y4_needsPlace S (x1.getD 0)) = 0 then if (f_Y4_amends S (x1.getD 0)) = 0 then (b_Y8_lacksRoom_61 S x0 x1 x2) else if x2 = none then (b_Y8_lacksRoom_61 S x0 x1 x2) else if (f_Y8_makesTextTooLong S ((grC S x0 1).getD 0) x1 x2) = 0 then (b_Y8_lacksRoom_61 S x0 x1 x2) else (b_Y8_lacksRoom_62 S x0 x1 x2 1) else if (f_Y0_freePlaces S x0) = 0 then (b_Y8_lacksRoom_33 S x0 x1 x2 1) else (b_Y8_lacksRoom_33 S x0 x1 x2 0) else (1 : Int32)
def p_Y8_lacksRoom (S : Cst) (x0 : Nat) (x1 : Option Nat) (x2 : Option Nat) : Prop := (iR S (grC S x0 1) 4) ∧ (if (giC S ((grC S x0 1).getD 0) 1) < 9 then (iR S x1 3) ∧ (p_Y4_needsPlace S (x1.getD 0)) ∧ (if (f_Y4_needsPlace S (x1.getD 0)) = 0 then (iR S x1 3) ∧ (p_Y4_amends S (x1.getD 0)) ∧ (if (f_Y4_amends S (x1.getD 0)) = 0 then (q_Y8_lacksRoom_61 S x0 x1 x2) else (if x2 = none then (q_Y8_lacksRoom_61 S x0 x1 x2) else (iR S (grC S x0 1) 4) ∧ (p_Y8_makesTextTooLong S ((grC S x0 1).getD 0) x1 x2) ∧ (if (f_Y8_makesTextTooLong S ((grC S x0 1).getD 0) x1 x2) = 0 then (q_Y8_lacksRoom_61 S x0 x1 x2) else (q_Y8_lacksRoom_62 S x0 x1 x2 1)))) else (p_Y0_freePlaces S x0) ∧ (if (f_Y0_freePlaces S x0) = 0 then (q_Y8_lacksRoom_33 S x0 x1 x2 1) else (q_Y8_lacksRoom_33 S x0 x1 x2 0))) else True)
def e_Y8_lacksRoom : List Cond := [.fieldLink RX8 86 "MotionFloor$Assembly" "pending" "LMotionFloor$Pile;", .fieldLink RX8 117 "MotionFloor$Pile" "size" "I", .methodLink RX8 214 yX4_needsPlace, .instanceMethod yX4_needsPlace, .selects RX4 yX4_needsPlace yX4_needsPlace, .initialized RX4, .methodLink RX8 150 yX4_amends, .instanceMethod yX4_amends, .selects RX4 yX4_amends yX4_amends, .methodLink RX8 215 yX8_makesTextTooLong, .static yX8_makesTextTooLong, .initialized RX8, .methodLink RX8 180 yX0_freePlaces, .instanceMethod yX0_freePlaces, .selects RX0 yX0_freePlaces yX0_freePlaces, .initialized RX0]
def v_Y8_lacksRoom : List Cond := .code yX8_lacksRoom cX8_lacksRoom 3 (some .boolean) :: (e_Y8_lacksRoom ++ (wsX00 ++ (wsX50 ++ (v_Y4_needsPlace ++ (v_Y4_amends ++ (v_Y8_makesTextTooLong ++ (v_Y0_freePlaces ++ [])))))))
theorem te_Y8_lacksRoom : GoodIn lw_tbl e_Y8_lacksRoom := wGc zc164 (wGc zc163 (wGc zc207 (wGc zc206 (wGc zc205 (wGc zc182 (wGc zc185 (wGc zc184 (wGc zc183 (wGc zc204 (wGc zc203 (wGc zc157 (wGc zc202 (wGc zc201 (wGc zc200 (wGc zc39 (wG0))))))))))))))))
theorem t_Y8_lacksRoom : GoodIn lw_tbl v_Y8_lacksRoom := wGc zc208 (wGa te_Y8_lacksRoom (wGa zcX0 (wGa zcX5 (wGa t_Y4_needsPlace (wGa t_Y4_amends (wGa t_Y8_makesTextTooLong (wGa t_Y0_freePlaces (wG0))))))))
set_option maxHeartbeats 4000000 in
set_option maxRecDepth 100000 in
theorem c_Y8_lacksRoom (l : Launch) (G : va_G) (K : Nat → ClassId) (ad : Nat → Nat) (S : Cst) (x0 : Nat) (a1 : Option Nat) (a2 : Option Nat) (sz : Nat) : Met l yX8_lacksRoom v_Y8_lacksRoom ({ frames := 2, cells := 0, slots := 0, locals := 47 }) (va_Pc [.ref (ad x0), va_re ad a1, va_re ad a2] (cSt G K ad sz S (iK S x0 0 ∧ p_Y8_lacksRoom S x0 a1 a2))) (va_Qi (fun (r : Int32) (u : Cst) => (r, u) = (f_Y8_lacksRoom S x0 a1 a2, S)) (cBt G K ad (va_A (wsC K ad S) sz)) (va_A (wsC K ad S) sz)) 0 0 (va_A (wsC K ad S) sz) := by
  refine Met.ofW (cc := cX8_lacksRoom) (maxL := 3) (ret := (some .boolean)) (by decide) rfl ?_
  intro p e s m args below meth c s₁ B hml hv
  obtain ⟨rfl, ⟨hsz, hP, hK, hD0, hTE⟩, hp⟩ := hv
  obtain ⟨k_x0, hp⟩ := hp
  have hx := B.exec
  have hb := B.bytes
  have hr := B.returns
  have hts := atoms_spec (ws := v_Y8_lacksRoom) B.pre
  have t_ := t_Y8_lacksRoom
  have mw : ∀ w ∈ e_Y8_lacksRoom, w ∈ v_Y8_lacksRoom := fun w h => List.mem_cons_of_mem _ (List.mem_append_left _ h)
  have hw := fun w (h : w ∈ e_Y8_lacksRoom) => hts w (mw w h)
  have iX0 : ∀ w ∈ wsX00, w ∈ v_Y8_lacksRoom := fun w h => List.mem_cons_of_mem _ (List.mem_append_right _ (List.mem_append_left _ h))
  have iX5 : ∀ w ∈ wsX50, w ∈ v_Y8_lacksRoom := fun w h => List.mem_cons_of_mem _ (List.mem_append_right _ (List.mem_append_right _ (List.mem_append_left _ h)))
  have j_Y4_needsPlace : ∀ w ∈ v_Y4_needsPlace, w ∈ v_Y8_lacksRoom := fun w h => List.mem_cons_of_mem _ (List.mem_append_right _ (List.mem_append_right _ (List.mem_append_right _ (List.mem_append_left _ h))))
  have j_Y4_amends : ∀ w ∈ v_Y4_amends, w ∈ v_Y8_lacksRoom := fun w h => List.mem_cons_of_mem _ (List.mem_append_right _ (List.mem_append_right _ (List.mem_append_right _ (List.mem_append_right _ (List.mem_append_left _ h)))))
  have j_Y8_makesTextTooLong : ∀ w ∈ v_Y8_makesTextTooLong, w ∈ v_Y8_lacksRoom := fun w h => List.mem_cons_of_mem _ (List.mem_append_right _ (List.mem_append_right _ (List.mem_append_right _ (List.mem_append_right _ (List.mem_append_right _ (List.mem_append_left _ h))))))
  have j_Y0_freePlaces : ∀ w ∈ v_Y0_freePlaces, w ∈ v_Y8_lacksRoom := fun w h => List.mem_cons_of_mem _ (List.mem_append_right _ (List.mem_append_right _ (List.mem_append_right _ (List.mem_append_right _ (List.mem_append_right _ (List.mem_append_right _ (List.mem_append_left _ h)))))))
  have hown : s.vm.findClass RX8 = some m.cls := findClass_of_methodNamed B.named
  have hlocks := B.notSynchronized
  subst hsz
  have hD := hD0.self (sz := s.heap.size)
  generalize hAe : va_A (wsC K ad S) s.heap.size = A at hD ⊢
  have hA : ∀ q : Nat, s.heap.size ≤ q → A q := fun q h => by rw [← hAe]; exact Or.inr h
  have hS : va_S A s.heap s.heap [] := va_S.rf
  have hl : lv_has (lg_sl ([.ref (ad x0), va_re ad a1, va_re ad a2]) ++ List.replicate (3 - (lg_sl ([.ref (ad x0), va_re ad a1, va_re ad a2])).length) Slot.unset).toArray 3 [(0, .ref (ad x0)), (1, va_re ad a1), (2, va_re ad a2)] := by
    cases a1 <;> cases a2 <;> exact lv_entry _ (n := 3) (Nat.le_of_ble_eq_true rfl)
  rw [lg_entry_eq]
  generalize (lg_sl ([.ref (ad x0), va_re ad a1, va_re ad a2]) ++ List.replicate (3 - (lg_sl ([.ref (ad x0), va_re ad a1, va_re ad a2])).length) Slot.unset).toArray = ls_ at hl ⊢
  refine wGen (fun Q hQ => ?_)
  obtain ⟨X, hX⟩ : ∃ X, f_Y8_lacksRoom S x0 a1 a2 = X := ⟨_, rfl⟩
  have B_Y8_lacksRoom_62 : ∀ (x1 : Option Nat) (x2 : Option Nat) (y0 : Int32) (H : Heap) (locs : List Loc) (ls_ : Array Slot), b_Y8_lacksRoom_62 S x0 x1 x2 y0 = X → q_Y8_lacksRoom_62 S x0 x1 x2 y0 → va_P G vwCl (wsC K ad S) H → va_D A (wsC K ad S) → va_S A s.heap H locs → lv_has ls_ 3 [(0, .ref (ad x0)), (1, va_re ad x1), (2, va_re ad x2)] → W p l e ({ frames := 2, cells := 0, slots := 0, locals := 47 } : Room) s m #[Value.ref (ad x0), va_re ad a1, va_re ad a2] below meth c H locs 0 0 Q (F0 m 62 ls_ [.int y0]) := by
    intro x1 x2 y0 H locs ls_ hE hp hP hD hS hl
    unfold b_Y8_lacksRoom_62 at hE
    unfold q_Y8_lacksRoom_62 at hp
    obtain ⟨hy13, hp⟩ := hp
    subst hQ
    exact W.zret (v := y0) (ty := .boolean) hx hb hr hy13 (fun t ht hW => ⟨⟨y0, S, rfl, (pair_i (hE.trans hX.symm)), by rw [ht]; exact hP, hD⟩, hS.F ht⟩) hS.2.2 dX8_lacksRoom_62
  have B_Y8_lacksRoom_61 : ∀ (x1 : Option Nat) (x2 : Option Nat) (H : Heap) (locs : List Loc) (ls_ : Array Slot), b_Y8_lacksRoom_61 S x0 x1 x2 = X → q_Y8_lacksRoom_61 S x0 x1 x2 → va_P G vwCl (wsC K ad S) H → va_D A (wsC K ad S) → va_S A s.heap H locs → lv_has ls_ 3 [(0, .ref (ad x0)), (1, va_re ad x1), (2, va_re ad x2)] → W p l e ({ frames := 2, cells := 0, slots := 0, locals := 47 } : Room) s m #[Value.ref (ad x0), va_re ad a1, va_re ad a2] below meth c H locs 0 0 Q (F0 m 61 ls_ []) := by
    intro x1 x2 H locs ls_ hE hp hP hD hS hl
    unfold b_Y8_lacksRoom_61 at hE
    unfold q_Y8_lacksRoom_61 at hp
    refine lv_iconst (v := 0) hx hb dX8_lacksRoom_61 (by decide) ?_
    exact B_Y8_lacksRoom_62 x1 x2 0 _ _ _ hE hp hP hD hS (lv_sub hl [0, 1, 2] rfl)
  have B_Y8_lacksRoom_33 : ∀ (x1 : Option Nat) (x2 : Option Nat) (y0 : Int32) (H : Heap) (locs : List Loc) (ls_ : Array Slot), b_Y8_lacksRoom_33 S x0 x1 x2 y0 = X → q_Y8_lacksRoom_33 S x0 x1 x2 y0 → va_P G vwCl (wsC K ad S) H → va_D A (wsC K ad S) → va_S A s.heap H locs → lv_has ls_ 3 [(0, .ref (ad x0)), (1, va_re ad x1), (2, va_re ad x2)] → W p l e ({ frames := 2, cells := 0, slots := 0, locals := 47 } : Room) s m #[Value.ref (ad x0), va_re ad a1, va_re ad a2] below meth c H locs 0 0 Q (F0 m 33 ls_ [.int y0]) := by
    intro x1 x2 y0 H locs ls_ hE hp hP hD hS hl
    unfold b_Y8_lacksRoom_33 at hE
    unfold q_Y8_lacksRoom_33 at hp
    obtain ⟨hy24, hp⟩ := hp
    subst hQ
    exact W.zret (v := y0) (ty := .boolean) hx hb hr hy24 (fun t ht hW => ⟨⟨y0, S, rfl, (pair_i (hE.trans hX.symm)), by rw [ht]; exact hP, hD⟩, hS.F ht⟩) hS.2.2 dX8_lacksRoom_33
  have B_M : ∀ (x1 : Option Nat) (x2 : Option Nat) (H : Heap) (locs : List Loc) (ls_ : Array Slot), f_Y8_lacksRoom S x0 x1 x2 = X → p_Y8_lacksRoom S x0 x1 x2 → va_P G vwCl (wsC K ad S) H → va_D A (wsC K ad S) → va_S A s.heap H locs → lv_has ls_ 3 [(0, .ref (ad x0)), (1, va_re ad x1), (2, va_re ad x2)] → W p l e ({ frames := 2, cells := 0, slots := 0, locals := 47 } : Room) s m #[Value.ref (ad x0), va_re ad a1, va_re ad a2] below meth c H locs 0 0 Q (F0 m 0 ls_ []) := by
    intro x1 x2 H locs ls_ hE hp hP hD hS hl
    unfold f_Y8_lacksRoom at hE
    unfold p_Y8_lacksRoom at hp
    refine lv_aload_n hx hb dX8_lacksRoom_0 rfl (lv_at hl 0 rfl) ?_
    refine va_get (D := G) (ci := 0) (v := va_re ad (grC S x0 1)) (C := RX0) (T := TX0) (N := 11) hx hb hts iX0 hown hK hP x0 (at_0 k_x0) rfl 1 (by decide) (hw (.fieldLink RX8 86 "MotionFloor$Assembly" "pending" "LMotionFloor$Pile;") (List.mem_of_getElem? (i := 0) rfl)) (fun _ h9 => h9) rfl dX8_lacksRoom_1 ?_
    obtain ⟨hy1, hp⟩ := hp
    refine cTop (r := (grC S x0 1)) hy1.1 ?_
    refine va_get (D := G) (ci := 4) (v := .int (giC S ((grC S x0 1).getD 0) 1)) (C := RX5) (T := TX5) (N := 2) hx hb hts iX5 hown hK hP ((grC S x0 1).getD 0) (at_4 hy1.2) rfl 1 (by decide) (hw (.fieldLink RX8 117 "MotionFloor$Pile" "size" "I") (List.mem_of_getElem? (i := 1) rfl)) (fun _ h9 => h9) rfl dX8_lacksRoom_4 ?_
    refine lv_bipush (v := 9) hx hb dX8_lacksRoom_7 (by decide) ?_
    refine lv_icmp_lt (tgt := 14) hx hb dX8_lacksRoom_9 (by decide) (fun c2 => ?_) (fun c2 => ?_)
    · rw [if_pos c2] at hE hp
      refine cAload_n (ad := ad) (r := x1) hx hb dX8_lacksRoom_14 rfl (lv_at hl 1 rfl) ?_
      obtain ⟨hy3, hp⟩ := hp
      refine cTop (r := x1) hy3.1 ?_
      obtain ⟨hy4, hp⟩ := hp
      refine cGoi (va_runV (As := []) (rest := []) ⟨hx, hb, hml, hown, hts⟩ (c_Y4_needsPlace l G K ad S (x1.getD 0) _) (cwV 0 hts (wGV t_ (mw (.methodLink RX8 214 yX4_needsPlace) (List.mem_of_getElem? (i := 2) rfl)) (mw (.instanceMethod yX4_needsPlace) (List.mem_of_getElem? (i := 3) rfl)) (mw (.selects RX4 yX4_needsPlace yX4_needsPlace) (List.mem_of_getElem? (i := 4) rfl)) (mw (.initialized RX4) (List.mem_of_getElem? (i := 5) rfl)) j_Y4_needsPlace) rfl rfl rfl (by decide +kernel) ⟨Nat.le_of_ble_eq_true rfl, Nat.le_of_ble_eq_true rfl⟩) (cPV hK hTE hP hD 3 rfl (at_3 hy3.2) ⟨hy3.2, hy4⟩) rfl rfl hl.1 rfl (lv_room (Nat.le_of_ble_eq_true rfl)) dX8_lacksRoom_15 ⟨Nat.le_of_ble_eq_true rfl, Nat.le_of_ble_eq_true rfl⟩) hP hD hS hA (fun r6 u5 H locs hv hP hD hS => ?_)
      have h1 := congrArg Prod.fst hv
      have h2 := (congrArg Prod.snd hv).symm
      dsimp only at h1 h2
      subst h1
      subst h2
      refine lv_if_eq (tgt := 34) hx hb dX8_lacksRoom_18 (by decide) (fun c7 => ?_) (fun c7 => ?_)
      · rw [if_pos c7] at hE hp
        refine cAload_n (ad := ad) (r := x1) hx hb dX8_lacksRoom_34 rfl (lv_at hl 1 rfl) ?_
        obtain ⟨hy8, hp⟩ := hp
        refine cTop (r := x1) hy8.1 ?_
        obtain ⟨hy9, hp⟩ := hp
        refine cGoi (va_runV (As := []) (rest := []) ⟨hx, hb, hml, hown, hts⟩ (c_Y4_amends l G K ad S (x1.getD 0) _) (cwV 0 hts (wGV t_ (mw (.methodLink RX8 150 yX4_amends) (List.mem_of_getElem? (i := 6) rfl)) (mw (.instanceMethod yX4_amends) (List.mem_of_getElem? (i := 7) rfl)) (mw (.selects RX4 yX4_amends yX4_amends) (List.mem_of_getElem? (i := 8) rfl)) (mw (.initialized RX4) (List.mem_of_getElem? (i := 5) rfl)) j_Y4_amends) rfl rfl rfl (by decide +kernel) ⟨Nat.le_of_ble_eq_true rfl, Nat.le_of_ble_eq_true rfl⟩) (cPV hK hTE hP hD 3 rfl (at_3 hy8.2) ⟨hy8.2, hy9⟩) rfl rfl hl.1 rfl (lv_room (Nat.le_of_ble_eq_true rfl)) dX8_lacksRoom_35 ⟨Nat.le_of_ble_eq_true rfl, Nat.le_of_ble_eq_true rfl⟩) hP hD hS hA (fun r11 u10 H locs hv hP hD hS => ?_)
        have h1 := congrArg Prod.fst hv
        have h2 := (congrArg Prod.snd hv).symm
        dsimp only at h1 h2
        subst h1
        subst h2
        refine lv_if_eq (tgt := 61) hx hb dX8_lacksRoom_38 (by decide) (fun c12 => ?_) (fun c12 => ?_)
        · rw [if_pos c12] at hE hp
          exact B_Y8_lacksRoom_61 x1 x2 _ _ _ hE hp hP hD hS (lv_sub hl [0, 1, 2] rfl)
        · rw [if_neg c12] at hE hp
          refine cAload_n (ad := ad) (r := x2) hx hb dX8_lacksRoom_41 rfl (lv_at hl 2 rfl) ?_
          refine cIfnull (ad := ad) (r := x2) (tgt := 61) hx hb dX8_lacksRoom_42 (by decide) (fun c14 => ?_) (fun c14 => ?_)
          · rw [if_pos c14] at hE hp
            exact B_Y8_lacksRoom_61 x1 x2 _ _ _ hE hp hP hD hS (lv_sub hl [0, 1, 2] rfl)
          · rw [if_neg c14] at hE hp
            refine lv_aload_n hx hb dX8_lacksRoom_45 rfl (lv_at hl 0 rfl) ?_
            refine va_get (D := G) (ci := 0) (v := va_re ad (grC S x0 1)) (C := RX0) (T := TX0) (N := 11) hx hb hts iX0 hown hK hP x0 (at_0 k_x0) rfl 1 (by decide) (hw (.fieldLink RX8 86 "MotionFloor$Assembly" "pending" "LMotionFloor$Pile;") (List.mem_of_getElem? (i := 0) rfl)) (fun _ h9 => h9) rfl dX8_lacksRoom_46 ?_
            refine cAload_n (ad := ad) (r := x1) hx hb dX8_lacksRoom_49 rfl (lv_at hl 1 rfl) ?_
            refine cAload_n (ad := ad) (r := x2) hx hb dX8_lacksRoom_50 rfl (lv_at hl 2 rfl) ?_
            obtain ⟨hy15, hp⟩ := hp
            refine cTop3 (r := (grC S x0 1)) hy15.1 ?_
            obtain ⟨hy16, hp⟩ := hp
            refine cGoi (va_runS (As := [.ref (ad ((grC S x0 1).getD 0)), va_re ad x1, va_re ad x2]) (rest := []) ⟨hx, hb, hml, hown, hts⟩ (c_Y8_makesTextTooLong l G K ad S ((grC S x0 1).getD 0) x1 x2 _) (va_cwS 3 hts (wGS t_ (mw (.methodLink RX8 215 yX8_makesTextTooLong) (List.mem_of_getElem? (i := 9) rfl)) (mw (.static yX8_makesTextTooLong) (List.mem_of_getElem? (i := 10) rfl)) (mw (.initialized RX8) (List.mem_of_getElem? (i := 11) rfl)) j_Y8_makesTextTooLong) rfl rfl rfl (by decide +kernel) ⟨Nat.le_of_ble_eq_true rfl, Nat.le_of_ble_eq_true rfl⟩) (cPS hK hTE hP hD ⟨hy15.2, hy16⟩) rfl rfl hl.1 rfl (lv_room (Nat.le_of_ble_eq_true rfl)) dX8_lacksRoom_51 ⟨Nat.le_of_ble_eq_true rfl, Nat.le_of_ble_eq_true rfl⟩) hP hD hS hA (fun r18 u17 H locs hv hP hD hS => ?_)
            have h1 := congrArg Prod.fst hv
            have h2 := (congrArg Prod.snd hv).symm
            dsimp only at h1 h2
            subst h1
            subst h2
            refine lv_if_eq (tgt := 61) hx hb dX8_lacksRoom_54 (by decide) (fun c19 => ?_) (fun c19 => ?_)
            · rw [if_pos c19] at hE hp
              exact B_Y8_lacksRoom_61 x1 x2 _ _ _ hE hp hP hD hS (lv_sub hl [0, 1, 2] rfl)
            · rw [if_neg c19] at hE hp
              refine lv_iconst (v := 1) hx hb dX8_lacksRoom_57 (by decide) ?_
              refine lv_goto (tgt := 62) hx hb dX8_lacksRoom_58 (by decide) ?_
              exact B_Y8_lacksRoom_62 x1 x2 1 _ _ _ hE hp hP hD hS (lv_sub hl [0, 1, 2] rfl)
      · rw [if_neg c7] at hE hp
        refine lv_aload_n hx hb dX8_lacksRoom_21 rfl (lv_at hl 0 rfl) ?_
        obtain ⟨hy20, hp⟩ := hp
        refine cGoi (va_runV (As := []) (rest := []) ⟨hx, hb, hml, hown, hts⟩ (c_Y0_freePlaces l G K ad S x0 _) (cwV 0 hts (wGV t_ (mw (.methodLink RX8 180 yX0_freePlaces) (List.mem_of_getElem? (i := 12) rfl)) (mw (.instanceMethod yX0_freePlaces) (List.mem_of_getElem? (i := 13) rfl)) (mw (.selects RX0 yX0_freePlaces yX0_freePlaces) (List.mem_of_getElem? (i := 14) rfl)) (mw (.initialized RX0) (List.mem_of_getElem? (i := 15) rfl)) j_Y0_freePlaces) rfl rfl rfl (by decide +kernel) ⟨Nat.le_of_ble_eq_true rfl, Nat.le_of_ble_eq_true rfl⟩) (cPV hK hTE hP hD 0 rfl (at_0 k_x0) ⟨k_x0, hy20⟩) rfl rfl hl.1 rfl (lv_room (Nat.le_of_ble_eq_true rfl)) dX8_lacksRoom_22 ⟨Nat.le_of_ble_eq_true rfl, Nat.le_of_ble_eq_true rfl⟩) hP hD hS hA (fun r22 u21 H locs hv hP hD hS => ?_)
        have h1 := congrArg Prod.fst hv
        have h2 := (congrArg Prod.snd hv).symm
        dsimp only at h1 h2
        subst h1
        subst h2
        refine lv_if_ne (tgt := 32) hx hb dX8_lacksRoom_25 (by decide) (fun c23 => ?_) (fun c23 => ?_)
        · rw [if_neg c23] at hE hp
          refine lv_iconst (v := 0) hx hb dX8_lacksRoom_32 (by decide) ?_
          exact B_Y8_lacksRoom_33 x1 x2 0 _ _ _ hE hp hP hD hS (lv_sub hl [0, 1, 2] rfl)
        · rw [if_pos c23] at hE hp
          refine lv_iconst (v := 1) hx hb dX8_lacksRoom_28 (by decide) ?_
          refine lv_goto (tgt := 33) hx hb dX8_lacksRoom_29 (by decide) ?_
          exact B_Y8_lacksRoom_33 x1 x2 1 _ _ _ hE hp hP hD hS (lv_sub hl [0, 1, 2] rfl)
    · rw [if_neg c2] at hE hp
      refine lv_iconst (v := 1) hx hb dX8_lacksRoom_12 (by decide) ?_
      subst hQ
      exact W.zret (v := (1 : Int32)) (ty := .boolean) hx hb hr rfl (fun t ht hW => ⟨⟨(1 : Int32), S, rfl, (pair_i (hE.trans hX.symm)), by rw [ht]; exact hP, hD⟩, hS.F ht⟩) hS.2.2 dX8_lacksRoom_13
  exact B_M a1 a2 _ _ _ hX hp hP hD hS hl
theorem dX8_againstMove_104 : decode cX8_againstMove 104 = .ok (.aload_n 2, 1) := by decide +kernel
theorem dX8_againstMove_105 : decode cX8_againstMove 105 = .ok (.aload_n 3, 1) := by decide +kernel
theorem dX8_againstMove_106 : decode cX8_againstMove 106 = .ok (.invokestatic 194, 3) := by decide +kernel
theorem dX8_againstMove_120 : decode cX8_againstMove 120 = .ok (.ifCond .eq 8, 3) := by decide +kernel
theorem dX8_againstMove_123 : decode cX8_againstMove 123 = .ok (.bipush 10, 2) := by decide +kernel
theorem dX8_againstMove_125 : decode cX8_againstMove 125 = .ok (.goto 4, 3) := by decide +kernel
theorem dX8_againstMove_128 : decode cX8_againstMove 128 = .ok (.iconst 0, 1) := by decide +kernel
theorem dX8_againstMove_129 : decode cX8_againstMove 129 = .ok (.ireturn, 1) := by decide +kernel
theorem dX8_isOffSubject_0 : decode cX8_isOffSubject 0 = .ok (.aload_n 1, 1) := by decide +kernel
theorem dX8_isOffSubject_1 : decode cX8_isOffSubject 1 = .ok (.ifnull 10, 3) := by decide +kernel
theorem dX8_isOffSubject_4 : decode cX8_isOffSubject 4 = .ok (.aload_n 0, 1) := by decide +kernel
theorem dX8_isOffSubject_5 : decode cX8_isOffSubject 5 = .ok (.getfield 205, 3) := by decide +kernel
theorem dX8_isOffSubject_8 : decode cX8_isOffSubject 8 = .ok (.ifCond .eq 5, 3) := by decide +kernel
theorem dX8_isOffSubject_11 : decode cX8_isOffSubject 11 = .ok (.iconst 1, 1) := by decide +kernel
theorem dX8_isOffSubject_12 : decode cX8_isOffSubject 12 = .ok (.ireturn, 1) := by decide +kernel
theorem dX8_isOffSubject_13 : decode cX8_isOffSubject 13 = .ok (.aload_n 0, 1) := by decide +kernel
theorem dX8_isOffSubject_14 : decode cX8_isOffSubject 14 = .ok (.getfield 153, 3) := by decide +kernel
theorem dX8_isOffSubject_17 : decode cX8_isOffSubject 17 = .ok (.ifCond .eq 14, 3) := by decide +kernel
theorem dX8_isOffSubject_20 : decode cX8_isOffSubject 20 = .ok (.aload_n 0, 1) := by decide +kernel
theorem dX8_isOffSubject_21 : decode cX8_isOffSubject 21 = .ok (.getfield 208, 3) := by decide +kernel
theorem dX8_isOffSubject_24 : decode cX8_isOffSubject 24 = .ok (.aload_n 1, 1) := by decide +kernel
theorem dX8_isOffSubject_25 : decode cX8_isOffSubject 25 = .ok (.getfield 211, 3) := by decide +kernel
theorem dX8_isOffSubject_28 : decode cX8_isOffSubject 28 = .ok (.if_icmp .ne 17, 3) := by decide +kernel
theorem dX8_isOffSubject_31 : decode cX8_isOffSubject 31 = .ok (.aload_n 0, 1) := by decide +kernel
theorem dX8_isOffSubject_32 : decode cX8_isOffSubject 32 = .ok (.getfield 177, 3) := by decide +kernel
theorem dX8_isOffSubject_35 : decode cX8_isOffSubject 35 = .ok (.aload_n 1, 1) := by decide +kernel
theorem dX8_isOffSubject_36 : decode cX8_isOffSubject 36 = .ok (.getfield 159, 3) := by decide +kernel
theorem dX8_isOffSubject_39 : decode cX8_isOffSubject 39 = .ok (.getfield 163, 3) := by decide +kernel
theorem dX8_isOffSubject_42 : decode cX8_isOffSubject 42 = .ok (.if_icmp .le 7, 3) := by decide +kernel
theorem dX8_isOffSubject_45 : decode cX8_isOffSubject 45 = .ok (.iconst 1, 1) := by decide +kernel
theorem dX8_isOffSubject_46 : decode cX8_isOffSubject 46 = .ok (.goto 4, 3) := by decide +kernel
theorem dX8_isOffSubject_49 : decode cX8_isOffSubject 49 = .ok (.iconst 0, 1) := by decide +kernel
theorem dX8_isOffSubject_50 : decode cX8_isOffSubject 50 = .ok (.ireturn, 1) := by decide +kernel
set_option maxRecDepth 100000 in
theorem zc209 : wZ (.fieldLink RX8 211 "MotionFloor$Motion" "name" "I") := ⟨wT3 (List.mem_of_getElem? (i := 9) (by decide +kernel)), Or.inl rfl⟩
set_option maxRecDepth 100000 in
theorem zc210 : wZ (.fieldLink RX8 208 "MotionFloor$Motion" "subject" "I") := ⟨wT3 (List.mem_of_getElem? (i := 13) (by decide +kernel)), Or.inl rfl⟩
set_option maxRecDepth 100000 in
theorem zc211 : wZ (.fieldLink RX8 153 "MotionFloor$Motion" "laid" "Z") := ⟨wT3 (List.mem_of_getElem? (i := 49) (by decide +kernel)), Or.inl rfl⟩
set_option maxRecDepth 100000 in
theorem zc212 : wZ (.fieldLink RX8 205 "MotionFloor$Motion" "outOfOrder" "Z") := ⟨wT3 (List.mem_of_getElem? (i := 52) (by decide +kernel)), Or.inl rfl⟩
set_option maxRecDepth 100000 in
theorem zc213 : wZ (.code yX8_isOffSubject cX8_isOffSubject 2 (some .boolean)) := ⟨wT2 (List.mem_of_getElem? (i := 162) rfl), Or.inl rfl⟩
def b_Y8_isOffSubject_11 (S : Cst)  (x0 : Option Nat) (x1 : Option Nat) : Int32 := (1 : Int32)
def q_Y8_isOffSubject_11 (S : Cst)  (x0 : Option Nat) (x1 : Option Nat) : Prop := True
def b_Y8_isOffSubject_50 (S : Cst)  (x0 : Option Nat) (x1 : Option Nat) (y0 : Int32) : Int32 := y0
def q_Y8_isOffSubject_50 (S : Cst)  (x0 : Option Nat) (x1 : Option Nat) (y0 : Int32) : Prop := (narrow .boolean (.int y0) = .int y0) ∧ True
def b_Y8_isOffSubject_45 (S : Cst)  (x0 : Option Nat) (x1 : Option Nat) : Int32 := (b_Y8_isOffSubject_50 S x0 x1 1)
def q_Y8_isOffSubject_45 (S : Cst)  (x0 : Option Nat) (x1 : Option Nat) : Prop := (q_Y8_isOffSubject_50 S x0 x1 1)
def b_Y8_isOffSubject_31 (S : Cst)  (x0 : Option Nat) (x1 : Option Nat) : Int32 := if (giC S (x0.getD 0) 9) ≤ (giC S ((grC S (x1.getD 0) 12).getD 0) 1) then (b_Y8_isOffSubject_50 S x0 x1 0) else (b_Y8_isOffSubject_45 S x0 x1)
def q_Y8_isOffSubject_31 (S : Cst)  (x0 : Option Nat) (x1 : Option Nat) : Prop := (iR S x0 3) ∧ (iR S x1 3) ∧ (iR S (grC S (x1.getD 0) 12) 6) ∧ (if (giC S (x0.getD 0) 9) ≤ (giC S ((grC S (x1.getD 0) 12).getD 0) 1) then (q_Y8_isOffSubject_50 S x0 x1 0) else (q_Y8_isOffSubject_45 S x0 x1))
def f_Y8_isOffSubject (S : Cst) (x0 : Option Nat) (x1 : Option Nat) : Int32 := if x1 = none then (b_Y8_isOffSubject_11 S x0 x1) else if (giC S (x0.getD 0) 11) = 0 then if (giC S (x0.getD 0) 10) = 0 then (b_Y8_isOffSubject_31 S x0 x1) else if (giC S (x0.getD 0) 1) = (giC S (x1.getD 0) 0) then (b_Y8_isOffSubject_31 S x0 x1) else (b_Y8_isOffSubject_45 S x0 x1) else (b_Y8_isOffSubject_11 S x0 x1)
def p_Y8_isOffSubject (S : Cst) (x0 : Option Nat) (x1 : Option Nat) : Prop := (if x1 = none then (q_Y8_isOffSubject_11 S x0 x1) else (iR S x0 3) ∧ (if (giC S (x0.getD 0) 11) = 0 then (iR S x0 3) ∧ (if (giC S (x0.getD 0) 10) = 0 then (q_Y8_isOffSubject_31 S x0 x1) else (iR S x0 3) ∧ (iR S x1 3) ∧ (if (giC S (x0.getD 0) 1) = (giC S (x1.getD 0) 0) then (q_Y8_isOffSubject_31 S x0 x1) else (q_Y8_isOffSubject_45 S x0 x1))) else (q_Y8_isOffSubject_11 S x0 x1)))
def e_Y8_isOffSubject : List Cond := [.fieldLink RX8 205 "MotionFloor$Motion" "outOfOrder" "Z", .fieldLink RX8 153 "MotionFloor$Motion" "laid" "Z", .fieldLink RX8 177 "MotionFloor$Motion" "to" "I", .fieldLink RX8 159 "MotionFloor$Motion" "text" "LMotionFloor$Text;", .fieldLink RX8 163 "MotionFloor$Text" "size" "I", .fieldLink RX8 208 "MotionFloor$Motion" "subject" "I", .fieldLink RX8 211 "MotionFloor$Motion" "name" "I"]
def v_Y8_isOffSubject : List Cond := .code yX8_isOffSubject cX8_isOffSubject 2 (some .boolean) :: (e_Y8_isOffSubject ++ (wsX40 ++ (wsX90 ++ [])))
theorem te_Y8_isOffSubject : GoodIn lw_tbl e_Y8_isOffSubject := wGc zc212 (wGc zc211 (wGc zc196 (wGc zc198 (wGc zc195 (wGc zc210 (wGc zc209 (wG0)))))))
theorem t_Y8_isOffSubject : GoodIn lw_tbl v_Y8_isOffSubject := wGc zc213 (wGa te_Y8_isOffSubject (wGa zcX4 (wGa zcX9 (wG0))))
set_option maxHeartbeats 4000000 in
set_option maxRecDepth 100000 in
theorem c_Y8_isOffSubject (l : Launch) (G : va_G) (K : Nat → ClassId) (ad : Nat → Nat) (S : Cst)  (a0 : Option Nat) (a1 : Option Nat) (sz : Nat) : Met l yX8_isOffSubject v_Y8_isOffSubject ({ frames := 0, cells := 0, slots := 0, locals := 0 }) (va_Pc [va_re ad a0, va_re ad a1] (cSt G K ad sz S (p_Y8_isOffSubject S a0 a1))) (va_Qi (fun (r : Int32) (u : Cst) => (r, u) = (f_Y8_isOffSubject S a0 a1, S)) (cBt G K ad (va_A (wsC K ad S) sz)) (va_A (wsC K ad S) sz)) 0 0 (va_A (wsC K ad S) sz) := by
  refine Met.ofW (cc := cX8_isOffSubject) (maxL := 2) (ret := (some .boolean)) (by decide) rfl ?_
  intro p e s m args below meth c s₁ B hml hv
  obtain ⟨rfl, ⟨hsz, hP, hK, hD0, hTE⟩, hp⟩ := hv
  have hx := B.exec
  have hb := B.bytes
  have hr := B.returns
  have hts := atoms_spec (ws := v_Y8_isOffSubject) B.pre
  have t_ := t_Y8_isOffSubject
  have mw : ∀ w ∈ e_Y8_isOffSubject, w ∈ v_Y8_isOffSubject := fun w h => List.mem_cons_of_mem _ (List.mem_append_left _ h)
  have hw := fun w (h : w ∈ e_Y8_isOffSubject) => hts w (mw w h)
  have iX4 : ∀ w ∈ wsX40, w ∈ v_Y8_isOffSubject := fun w h => List.mem_cons_of_mem _ (List.mem_append_right _ (List.mem_append_left _ h))
  have iX9 : ∀ w ∈ wsX90, w ∈ v_Y8_isOffSubject := fun w h => List.mem_cons_of_mem _ (List.mem_append_right _ (List.mem_append_right _ (List.mem_append_left _ h)))
  have hown : s.vm.findClass RX8 = some m.cls := findClass_of_methodNamed B.named
  have hlocks := B.notSynchronized
  subst hsz
  have hD := hD0.self (sz := s.heap.size)
  generalize hAe : va_A (wsC K ad S) s.heap.size = A at hD ⊢
  have hA : ∀ q : Nat, s.heap.size ≤ q → A q := fun q h => by rw [← hAe]; exact Or.inr h
  have hS : va_S A s.heap s.heap [] := va_S.rf
  have hl : lv_has (lg_sl ([va_re ad a0, va_re ad a1]) ++ List.replicate (2 - (lg_sl ([va_re ad a0, va_re ad a1])).length) Slot.unset).toArray 2 [(0, va_re ad a0), (1, va_re ad a1)] := by
    cases a0 <;> cases a1 <;> exact lv_entry _ (n := 2) (Nat.le_of_ble_eq_true rfl)
  rw [lg_entry_eq]
  generalize (lg_sl ([va_re ad a0, va_re ad a1]) ++ List.replicate (2 - (lg_sl ([va_re ad a0, va_re ad a1])).length) Slot.unset).toArray = ls_ at hl ⊢
  refine wGen (fun Q hQ => ?_)
  obtain ⟨X, hX⟩ : ∃ X, f_Y8_isOffSubject S a0 a1 = X := ⟨_, rfl⟩
  have B_Y8_isOffSubject_11 : ∀ (x0 : Option Nat) (x1 : Option Nat) (H : Heap) (locs : List Loc) (ls_ : Array Slot), b_Y8_isOffSubject_11 S x0 x1 = X → q_Y8_isOffSubject_11 S x0 x1 → va_P G vwCl (wsC K ad S) H → va_D A (wsC K ad S) → va_S A s.heap H locs → lv_has ls_ 2 [(0, va_re ad x0), (1, va_re ad x1)] → W p l e ({ frames := 0, cells := 0, slots := 0, locals := 0 } : Room) s m #[va_re ad a0, va_re ad a1] below meth c H locs 0 0 Q (F0 m 11 ls_ []) := by
    intro x0 x1 H locs ls_ hE hp hP hD hS hl
    unfold b_Y8_isOffSubject_11 at hE
    unfold q_Y8_isOffSubject_11 at hp
    refine lv_iconst (v := 1) hx hb dX8_isOffSubject_11 (by decide) ?_
    subst hQ
    exact W.zret (v := (1 : Int32)) (ty := .boolean) hx hb hr rfl (fun t ht hW => ⟨⟨(1 : Int32), S, rfl, (pair_i (hE.trans hX.symm)), by rw [ht]; exact hP, hD⟩, hS.F ht⟩) hS.2.2 dX8_isOffSubject_12
  have B_Y8_isOffSubject_50 : ∀ (x0 : Option Nat) (x1 : Option Nat) (y0 : Int32) (H : Heap) (locs : List Loc) (ls_ : Array Slot), b_Y8_isOffSubject_50 S x0 x1 y0 = X → q_Y8_isOffSubject_50 S x0 x1 y0 → va_P G vwCl (wsC K ad S) H → va_D A (wsC K ad S) → va_S A s.heap H locs → lv_has ls_ 2 [(0, va_re ad x0), (1, va_re ad x1)] → W p l e ({ frames := 0, cells := 0, slots := 0, locals := 0 } : Room) s m #[va_re ad a0, va_re ad a1] below meth c H locs 0 0 Q (F0 m 50 ls_ [.int y0]) := by
    intro x0 x1 y0 H locs ls_ hE hp hP hD hS hl
    unfold b_Y8_isOffSubject_50 at hE
    unfold q_Y8_isOffSubject_50 at hp
    obtain ⟨hy10, hp⟩ := hp
    subst hQ
    exact W.zret (v := y0) (ty := .boolean) hx hb hr hy10 (fun t ht hW => ⟨⟨y0, S, rfl, (pair_i (hE.trans hX.symm)), by rw [ht]; exact hP, hD⟩, hS.F ht⟩) hS.2.2 dX8_isOffSubject_50
  have B_Y8_isOffSubject_45 : ∀ (x0 : Option Nat) (x1 : Option Nat) (H : Heap) (locs : List Loc) (ls_ : Array Slot), b_Y8_isOffSubject_45 S x0 x1 = X → q_Y8_isOffSubject_45 S x0 x1 → va_P G vwCl (wsC K ad S) H → va_D A (wsC K ad S) → va_S A s.heap H locs → lv_has ls_ 2 [(0, va_re ad x0), (1, va_re ad x1)] → W p l e ({ frames := 0, cells := 0, slots := 0, locals := 0 } : Room) s m #[va_re ad a0, va_re ad a1] below meth c H locs 0 0 Q (F0 m 45 ls_ []) := by
    intro x0 x1 H locs ls_ hE hp hP hD hS hl
    unfold b_Y8_isOffSubject_45 at hE
    unfold q_Y8_isOffSubject_45 at hp
    refine lv_iconst (v := 1) hx hb dX8_isOffSubject_45 (by decide) ?_
    refine lv_goto (tgt := 50) hx hb dX8_isOffSubject_46 (by decide) ?_
    exact B_Y8_isOffSubject_50 x0 x1 1 _ _ _ hE hp hP hD hS (lv_sub hl [0, 1] rfl)
  have B_Y8_isOffSubject_31 : ∀ (x0 : Option Nat) (x1 : Option Nat) (H : Heap) (locs : List Loc) (ls_ : Array Slot), b_Y8_isOffSubject_31 S x0 x1 = X → q_Y8_isOffSubject_31 S x0 x1 → va_P G vwCl (wsC K ad S) H → va_D A (wsC K ad S) → va_S A s.heap H locs → lv_has ls_ 2 [(0, va_re ad x0), (1, va_re ad x1)] → W p l e ({ frames := 0, cells := 0, slots := 0, locals := 0 } : Room) s m #[va_re ad a0, va_re ad a1] below meth c H locs 0 0 Q (F0 m 31 ls_ []) := by
    intro x0 x1 H locs ls_ hE hp hP hD hS hl
    unfold b_Y8_isOffSubject_31 at hE
    unfold q_Y8_isOffSubject_31 at hp
    refine cAload_n (ad := ad) (r := x0) hx hb dX8_isOffSubject_31 rfl (lv_at hl 0 rfl) ?_
    obtain ⟨hy6, hp⟩ := hp
    refine cTop (r := x0) hy6.1 ?_
    refine va_get (D := G) (ci := 3) (v := .int (giC S (x0.getD 0) 9)) (C := RX4) (T := TX4) (N := 16) hx hb hts iX4 hown hK hP (x0.getD 0) (at_3 hy6.2) rfl 9 (by decide) (hw (.fieldLink RX8 177 "MotionFloor$Motion" "to" "I") (List.mem_of_getElem? (i := 2) rfl)) (fun _ h9 => h9) rfl dX8_isOffSubject_32 ?_
    refine cAload_n (ad := ad) (r := x1) hx hb dX8_isOffSubject_35 rfl (lv_at hl 1 rfl) ?_
    obtain ⟨hy7, hp⟩ := hp
    refine cTop (r := x1) hy7.1 ?_
    refine va_get (D := G) (ci := 3) (v := va_re ad (grC S (x1.getD 0) 12)) (C := RX4) (T := TX4) (N := 16) hx hb hts iX4 hown hK hP (x1.getD 0) (at_3 hy7.2) rfl 12 (by decide) (hw (.fieldLink RX8 159 "MotionFloor$Motion" "text" "LMotionFloor$Text;") (List.mem_of_getElem? (i := 3) rfl)) (fun _ h9 => h9) rfl dX8_isOffSubject_36 ?_
    obtain ⟨hy8, hp⟩ := hp
    refine cTop (r := (grC S (x1.getD 0) 12)) hy8.1 ?_
    refine va_get (D := G) (ci := 6) (v := .int (giC S ((grC S (x1.getD 0) 12).getD 0) 1)) (C := RX9) (T := TX9) (N := 2) hx hb hts iX9 hown hK hP ((grC S (x1.getD 0) 12).getD 0) (at_6 hy8.2) rfl 1 (by decide) (hw (.fieldLink RX8 163 "MotionFloor$Text" "size" "I") (List.mem_of_getElem? (i := 4) rfl)) (fun _ h9 => h9) rfl dX8_isOffSubject_39 ?_
    refine lv_icmp_le (tgt := 49) hx hb dX8_isOffSubject_42 (by decide) (fun c9 => ?_) (fun c9 => ?_)
    · rw [if_pos c9] at hE hp
      refine lv_iconst (v := 0) hx hb dX8_isOffSubject_49 (by decide) ?_
      exact B_Y8_isOffSubject_50 x0 x1 0 _ _ _ hE hp hP hD hS (lv_sub hl [0, 1] rfl)
    · rw [if_neg c9] at hE hp
      exact B_Y8_isOffSubject_45 x0 x1 _ _ _ hE hp hP hD hS (lv_sub hl [0, 1] rfl)
  have B_M : ∀ (x0 : Option Nat) (x1 : Option Nat) (H : Heap) (locs : List Loc) (ls_ : Array Slot), f_Y8_isOffSubject S x0 x1 = X → p_Y8_isOffSubject S x0 x1 → va_P G vwCl (wsC K ad S) H → va_D A (wsC K ad S) → va_S A s.heap H locs → lv_has ls_ 2 [(0, va_re ad x0), (1, va_re ad x1)] → W p l e ({ frames := 0, cells := 0, slots := 0, locals := 0 } : Room) s m #[va_re ad a0, va_re ad a1] below meth c H locs 0 0 Q (F0 m 0 ls_ []) := by
    intro x0 x1 H locs ls_ hE hp hP hD hS hl
    unfold f_Y8_isOffSubject at hE
    unfold p_Y8_isOffSubject at hp
    refine cAload_n (ad := ad) (r := x1) hx hb dX8_isOffSubject_0 rfl (lv_at hl 1 rfl) ?_
    refine cIfnull (ad := ad) (r := x1) (tgt := 11) hx hb dX8_isOffSubject_1 (by decide) (fun c1 => ?_) (fun c1 => ?_)
    · rw [if_pos c1] at hE hp
      exact B_Y8_isOffSubject_11 x0 x1 _ _ _ hE hp hP hD hS (lv_sub hl [0, 1] rfl)
    · rw [if_neg c1] at hE hp
      refine cAload_n (ad := ad) (r := x0) hx hb dX8_isOffSubject_4 rfl (lv_at hl 0 rfl) ?_
      obtain ⟨hy2, hp⟩ := hp
      refine cTop (r := x0) hy2.1 ?_
      refine va_get (D := G) (ci := 3) (v := .int (giC S (x0.getD 0) 11)) (C := RX4) (T := TX4) (N := 16) hx hb hts iX4 hown hK hP (x0.getD 0) (at_3 hy2.2) rfl 11 (by decide) (hw (.fieldLink RX8 205 "MotionFloor$Motion" "outOfOrder" "Z") (List.mem_of_getElem? (i := 0) rfl)) (fun _ h9 => h9) rfl dX8_isOffSubject_5 ?_
      refine lv_if_eq (tgt := 13) hx hb dX8_isOffSubject_8 (by decide) (fun c3 => ?_) (fun c3 => ?_)
      · rw [if_pos c3] at hE hp
        refine cAload_n (ad := ad) (r := x0) hx hb dX8_isOffSubject_13 rfl (lv_at hl 0 rfl) ?_
        obtain ⟨hy4, hp⟩ := hp
        refine cTop (r := x0) hy4.1 ?_
        refine va_get (D := G) (ci := 3) (v := .int (giC S (x0.getD 0) 10)) (C := RX4) (T := TX4) (N := 16) hx hb hts iX4 hown hK hP (x0.getD 0) (at_3 hy4.2) rfl 10 (by decide) (hw (.fieldLink RX8 153 "MotionFloor$Motion" "laid" "Z") (List.mem_of_getElem? (i := 1) rfl)) (fun _ h9 => h9) rfl dX8_isOffSubject_14 ?_
        refine lv_if_eq (tgt := 31) hx hb dX8_isOffSubject_17 (by decide) (fun c5 => ?_) (fun c5 => ?_)
        · rw [if_pos c5] at hE hp
          exact B_Y8_isOffSubject_31 x0 x1 _ _ _ hE hp hP hD hS (lv_sub hl [0, 1] rfl)
        · rw [if_neg c5] at hE hp
          refine cAload_n (ad := ad) (r := x0) hx hb dX8_isOffSubject_20 rfl (lv_at hl 0 rfl) ?_
          obtain ⟨hy11, hp⟩ := hp
          refine cTop (r := x0) hy11.1 ?_
          refine va_get (D := G) (ci := 3) (v := .int (giC S (x0.getD 0) 1)) (C := RX4) (T := TX4) (N := 16) hx hb hts iX4 hown hK hP (x0.getD 0) (at_3 hy11.2) rfl 1 (by decide) (hw (.fieldLink RX8 208 "MotionFloor$Motion" "subject" "I") (List.mem_of_getElem? (i := 5) rfl)) (fun _ h9 => h9) rfl dX8_isOffSubject_21 ?_
          refine cAload_n (ad := ad) (r := x1) hx hb dX8_isOffSubject_24 rfl (lv_at hl 1 rfl) ?_
          obtain ⟨hy12, hp⟩ := hp
          refine cTop (r := x1) hy12.1 ?_
          refine va_get (D := G) (ci := 3) (v := .int (giC S (x1.getD 0) 0)) (C := RX4) (T := TX4) (N := 16) hx hb hts iX4 hown hK hP (x1.getD 0) (at_3 hy12.2) rfl 0 (by decide) (hw (.fieldLink RX8 211 "MotionFloor$Motion" "name" "I") (List.mem_of_getElem? (i := 6) rfl)) (fun _ h9 => h9) rfl dX8_isOffSubject_25 ?_
          refine lv_icmp_ne (tgt := 45) hx hb dX8_isOffSubject_28 (by decide) (fun c13 => ?_) (fun c13 => ?_)
          · rw [if_neg c13] at hE hp
            exact B_Y8_isOffSubject_45 x0 x1 _ _ _ hE hp hP hD hS (lv_sub hl [0, 1] rfl)
          · rw [if_pos c13] at hE hp
            exact B_Y8_isOffSubject_31 x0 x1 _ _ _ hE hp hP hD hS (lv_sub hl [0, 1] rfl)
      · rw [if_neg c3] at hE hp
        exact B_Y8_isOffSubject_11 x0 x1 _ _ _ hE hp hP hD hS (lv_sub hl [0, 1] rfl)
  exact B_M a0 a1 _ _ _ hX hp hP hD hS hl
