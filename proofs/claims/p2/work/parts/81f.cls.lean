theorem dX5_needsPlace_0 : decode cX5_needsPlace 0 = .ok (.iconst 0, 1) := by decide +kernel
theorem dX5_needsPlace_1 : decode cX5_needsPlace 1 = .ok (.istore_n 1, 1) := by decide +kernel
theorem dX5_needsPlace_2 : decode cX5_needsPlace 2 = .ok (.iload_n 1, 1) := by decide +kernel
theorem dX5_needsPlace_3 : decode cX5_needsPlace 3 = .ok (.aload_n 0, 1) := by decide +kernel
theorem dX5_needsPlace_4 : decode cX5_needsPlace 4 = .ok (.getfield 17, 3) := by decide +kernel
theorem dX5_needsPlace_7 : decode cX5_needsPlace 7 = .ok (.if_icmp .ge 28, 3) := by decide +kernel
theorem dX5_needsPlace_10 : decode cX5_needsPlace 10 = .ok (.aload_n 0, 1) := by decide +kernel
theorem dX5_needsPlace_11 : decode cX5_needsPlace 11 = .ok (.iload_n 1, 1) := by decide +kernel
theorem dX5_needsPlace_12 : decode cX5_needsPlace 12 = .ok (.invokevirtual 21, 3) := by decide +kernel
theorem dX5_needsPlace_15 : decode cX5_needsPlace 15 = .ok (.astore_n 2, 1) := by decide +kernel
theorem dX5_needsPlace_16 : decode cX5_needsPlace 16 = .ok (.aload_n 2, 1) := by decide +kernel
theorem dX5_needsPlace_17 : decode cX5_needsPlace 17 = .ok (.ifnull 12, 3) := by decide +kernel
theorem dX5_needsPlace_20 : decode cX5_needsPlace 20 = .ok (.aload_n 2, 1) := by decide +kernel
theorem dX5_needsPlace_21 : decode cX5_needsPlace 21 = .ok (.invokevirtual 38, 3) := by decide +kernel
theorem dX5_needsPlace_24 : decode cX5_needsPlace 24 = .ok (.ifCond .eq 5, 3) := by decide +kernel
theorem dX5_needsPlace_27 : decode cX5_needsPlace 27 = .ok (.iconst 1, 1) := by decide +kernel
theorem dX5_needsPlace_28 : decode cX5_needsPlace 28 = .ok (.ireturn, 1) := by decide +kernel
theorem dX5_needsPlace_29 : decode cX5_needsPlace 29 = .ok (.iinc 1 1, 3) := by decide +kernel
theorem dX5_needsPlace_32 : decode cX5_needsPlace 32 = .ok (.goto (-30), 3) := by decide +kernel
theorem dX5_needsPlace_35 : decode cX5_needsPlace 35 = .ok (.iconst 0, 1) := by decide +kernel
theorem dX5_needsPlace_36 : decode cX5_needsPlace 36 = .ok (.ireturn, 1) := by decide +kernel
theorem dX8_againstLay_0 : decode cX8_againstLay 0 = .ok (.aload_n 0, 1) := by decide +kernel
theorem dX8_againstLay_1 : decode cX8_againstLay 1 = .ok (.iload_n 1, 1) := by decide +kernel
theorem dX8_againstLay_2 : decode cX8_againstLay 2 = .ok (.invokevirtual 166, 3) := by decide +kernel
theorem dX8_againstLay_5 : decode cX8_againstLay 5 = .ok (.astore_n 2, 1) := by decide +kernel
theorem dX8_againstLay_6 : decode cX8_againstLay 6 = .ok (.aload_n 2, 1) := by decide +kernel
theorem dX8_againstLay_7 : decode cX8_againstLay 7 = .ok (.ifnonnull 6, 3) := by decide +kernel
theorem dX8_againstLay_10 : decode cX8_againstLay 10 = .ok (.bipush 9, 2) := by decide +kernel
theorem dX8_againstLay_12 : decode cX8_againstLay 12 = .ok (.ireturn, 1) := by decide +kernel
theorem dX8_againstLay_13 : decode cX8_againstLay 13 = .ok (.aload_n 0, 1) := by decide +kernel
theorem dX8_againstLay_14 : decode cX8_againstLay 14 = .ok (.getfield 141, 3) := by decide +kernel
theorem dX8_againstLay_17 : decode cX8_againstLay 17 = .ok (.invokevirtual 170, 3) := by decide +kernel
theorem dX8_againstLay_20 : decode cX8_againstLay 20 = .ok (.ifCond .ne 10, 3) := by decide +kernel
theorem dX8_againstLay_23 : decode cX8_againstLay 23 = .ok (.aload_n 2, 1) := by decide +kernel
theorem dX8_againstLay_24 : decode cX8_againstLay 24 = .ok (.invokevirtual 170, 3) := by decide +kernel
theorem dX8_againstLay_27 : decode cX8_againstLay 27 = .ok (.ifCond .ne 6, 3) := by decide +kernel
theorem dX8_againstLay_30 : decode cX8_againstLay 30 = .ok (.bipush 11, 2) := by decide +kernel
theorem dX8_againstLay_32 : decode cX8_againstLay 32 = .ok (.ireturn, 1) := by decide +kernel
theorem dX8_againstLay_33 : decode cX8_againstLay 33 = .ok (.aload_n 0, 1) := by decide +kernel
theorem dX8_againstLay_34 : decode cX8_againstLay 34 = .ok (.getfield 141, 3) := by decide +kernel
theorem dX8_againstLay_37 : decode cX8_againstLay 37 = .ok (.invokevirtual 145, 3) := by decide +kernel
theorem dX8_againstLay_40 : decode cX8_againstLay 40 = .ok (.astore_n 3, 1) := by decide +kernel
theorem dX8_againstLay_41 : decode cX8_againstLay 41 = .ok (.aload_n 3, 1) := by decide +kernel
theorem dX8_againstLay_42 : decode cX8_againstLay 42 = .ok (.ifnull 59, 3) := by decide +kernel
theorem dX8_againstLay_101 : decode cX8_againstLay 101 = .ok (.aload_n 0, 1) := by decide +kernel
theorem dX8_againstLay_102 : decode cX8_againstLay 102 = .ok (.invokevirtual 180, 3) := by decide +kernel
theorem dX8_againstLay_105 : decode cX8_againstLay 105 = .ok (.iconst 1, 1) := by decide +kernel
theorem dX8_againstLay_106 : decode cX8_againstLay 106 = .ok (.if_icmp .ne 18, 3) := by decide +kernel
theorem dX8_againstLay_109 : decode cX8_againstLay 109 = .ok (.aload_n 0, 1) := by decide +kernel
theorem dX8_againstLay_110 : decode cX8_againstLay 110 = .ok (.getfield 86, 3) := by decide +kernel
theorem dX8_againstLay_113 : decode cX8_againstLay 113 = .ok (.invokevirtual 184, 3) := by decide +kernel
theorem dX8_againstLay_124 : decode cX8_againstLay 124 = .ok (.iconst 0, 1) := by decide +kernel
theorem dX8_againstLay_125 : decode cX8_againstLay 125 = .ok (.ireturn, 1) := by decide +kernel
theorem dX8_againstOnPaper_71 : decode cX8_againstOnPaper 71 = .ok (.ireturn, 1) := by decide +kernel
theorem dX8_againstOnPaper_72 : decode cX8_againstOnPaper 72 = .ok (.aload_n 0, 1) := by decide +kernel
theorem dX8_againstOnPaper_73 : decode cX8_againstOnPaper 73 = .ok (.iload_n 2, 1) := by decide +kernel
theorem dX8_againstOnPaper_74 : decode cX8_againstOnPaper 74 = .ok (.invokestatic 70, 3) := by decide +kernel
set_option maxRecDepth 100000 in
theorem zc255 : wZ (.methodLink RX5 38 yX4_needsPlace) := ⟨wT2 (List.mem_of_getElem? (i := 135) (by decide +kernel)), Or.inl rfl⟩
set_option maxRecDepth 100000 in
theorem zc256 : wZ (.code yX5_needsPlace cX5_needsPlace 3 (some .boolean)) := ⟨wT2 (List.mem_of_getElem? (i := 134) rfl), Or.inl rfl⟩
def b_Y5_needsPlace_29 (S : Cst) (x0 : Nat) (x1 : Int32) (x2 : Option Nat) : (Int32) ⊕ (Int32) := Sum.inr ((x1 + 1))
def q_Y5_needsPlace_29 (S : Cst) (x0 : Nat) (x1 : Int32) (x2 : Option Nat) : Prop := True
def st_Y5_needsPlace_2 (S : Cst) (x0 : Nat) (x1 : Int32) : (Int32) ⊕ (Int32) := if (giC S x0 1) ≤ x1 then Sum.inl ((0 : Int32)) else if (f_Y5_at S x0 x1) = none then (b_Y5_needsPlace_29 S x0 x1 (f_Y5_at S x0 x1)) else if (f_Y4_needsPlace S ((f_Y5_at S x0 x1).getD 0)) = 0 then (b_Y5_needsPlace_29 S x0 x1 (f_Y5_at S x0 x1)) else Sum.inl ((1 : Int32))
def ps_Y5_needsPlace_2 (S : Cst) (x0 : Nat) (x1 : Int32) : Prop := (if (giC S x0 1) ≤ x1 then True else (p_Y5_at S x0 x1) ∧ (if (f_Y5_at S x0 x1) = none then (q_Y5_needsPlace_29 S x0 x1 (f_Y5_at S x0 x1)) else (iR S (f_Y5_at S x0 x1) 3) ∧ (p_Y4_needsPlace S ((f_Y5_at S x0 x1).getD 0)) ∧ (if (f_Y4_needsPlace S ((f_Y5_at S x0 x1).getD 0)) = 0 then (q_Y5_needsPlace_29 S x0 x1 (f_Y5_at S x0 x1)) else True)))
def lp_Y5_needsPlace_2 (S : Cst) (x0 : Nat) : Nat → Int32 → Int32
  | 0, _ => 0
  | n + 1, x1 => match st_Y5_needsPlace_2 S x0 x1 with
    | Sum.inl r => r
    | Sum.inr q => lp_Y5_needsPlace_2 S x0 n q
def lq_Y5_needsPlace_2 (S : Cst) (x0 : Nat) : Nat → Int32 → Prop
  | 0, _ => False
  | n + 1, x1 => ps_Y5_needsPlace_2 S x0 x1 ∧ (match st_Y5_needsPlace_2 S x0 x1 with
    | Sum.inl _ => True
    | Sum.inr q => lq_Y5_needsPlace_2 S x0 n q)
def f_Y5_needsPlace (S : Cst) (x0 : Nat) : Int32 := (lp_Y5_needsPlace_2 S x0 100000 0)
def p_Y5_needsPlace (S : Cst) (x0 : Nat) : Prop := (lq_Y5_needsPlace_2 S x0 100000 0)
def e_Y5_needsPlace : List Cond := [.fieldLink RX5 17 "MotionFloor$Pile" "size" "I", .methodLink RX5 21 yX5_at, .instanceMethod yX5_at, .selects RX5 yX5_at yX5_at, .initialized RX5, .methodLink RX5 38 yX4_needsPlace, .instanceMethod yX4_needsPlace, .selects RX4 yX4_needsPlace yX4_needsPlace, .initialized RX4]
def v_Y5_needsPlace : List Cond := .code yX5_needsPlace cX5_needsPlace 3 (some .boolean) :: (e_Y5_needsPlace ++ (wsX50 ++ (v_Y5_at ++ (v_Y4_needsPlace ++ []))))
theorem te_Y5_needsPlace : GoodIn lw_tbl e_Y5_needsPlace := wGc zc3 (wGc zc143 (wGc zc128 (wGc zc127 (wGc zc34 (wGc zc255 (wGc zc206 (wGc zc205 (wGc zc182 (wG0)))))))))
theorem t_Y5_needsPlace : GoodIn lw_tbl v_Y5_needsPlace := wGc zc256 (wGa te_Y5_needsPlace (wGa zcX5 (wGa t_Y5_at (wGa t_Y4_needsPlace (wG0)))))
set_option maxHeartbeats 4000000 in
set_option maxRecDepth 100000 in
theorem c_Y5_needsPlace (l : Launch) (G : va_G) (K : Nat → ClassId) (ad : Nat → Nat) (S : Cst) (x0 : Nat)  (sz : Nat) : Met l yX5_needsPlace v_Y5_needsPlace ({ frames := 1, cells := 0, slots := 0, locals := 21 }) (va_Pc [.ref (ad x0)] (cSt G K ad sz S (iK S x0 4 ∧ p_Y5_needsPlace S x0))) (va_Qi (fun (r : Int32) (u : Cst) => (r, u) = (f_Y5_needsPlace S x0, S)) (cBt G K ad (va_A (wsC K ad S) sz)) (va_A (wsC K ad S) sz)) 0 0 (va_A (wsC K ad S) sz) := by
  refine Met.ofW (cc := cX5_needsPlace) (maxL := 3) (ret := (some .boolean)) (by decide) rfl ?_
  intro p e s m args below meth c s₁ B hml hv
  obtain ⟨rfl, ⟨hsz, hP, hK, hD0, hTE⟩, hp⟩ := hv
  obtain ⟨k_x0, hp⟩ := hp
  have hx := B.exec
  have hb := B.bytes
  have hr := B.returns
  have hts := atoms_spec (ws := v_Y5_needsPlace) B.pre
  have t_ := t_Y5_needsPlace
  have mw : ∀ w ∈ e_Y5_needsPlace, w ∈ v_Y5_needsPlace := fun w h => List.mem_cons_of_mem _ (List.mem_append_left _ h)
  have hw := fun w (h : w ∈ e_Y5_needsPlace) => hts w (mw w h)
  have iX5 : ∀ w ∈ wsX50, w ∈ v_Y5_needsPlace := fun w h => List.mem_cons_of_mem _ (List.mem_append_right _ (List.mem_append_left _ h))
  have j_Y5_at : ∀ w ∈ v_Y5_at, w ∈ v_Y5_needsPlace := fun w h => List.mem_cons_of_mem _ (List.mem_append_right _ (List.mem_append_right _ (List.mem_append_left _ h)))
  have j_Y4_needsPlace : ∀ w ∈ v_Y4_needsPlace, w ∈ v_Y5_needsPlace := fun w h => List.mem_cons_of_mem _ (List.mem_append_right _ (List.mem_append_right _ (List.mem_append_right _ (List.mem_append_left _ h))))
  have hown : s.vm.findClass RX5 = some m.cls := findClass_of_methodNamed B.named
  have hlocks := B.notSynchronized
  subst hsz
  have hD := hD0.self (sz := s.heap.size)
  generalize hAe : va_A (wsC K ad S) s.heap.size = A at hD ⊢
  have hA : ∀ q : Nat, s.heap.size ≤ q → A q := fun q h => by rw [← hAe]; exact Or.inr h
  have hS : va_S A s.heap s.heap [] := va_S.rf
  have hl : lv_has (lg_sl ([.ref (ad x0)]) ++ List.replicate (3 - (lg_sl ([.ref (ad x0)])).length) Slot.unset).toArray 3 [(0, .ref (ad x0))] := by
    exact lv_entry ([.ref (ad x0)]) (n := 3) (Nat.le_of_ble_eq_true rfl)
  rw [lg_entry_eq]
  generalize (lg_sl ([.ref (ad x0)]) ++ List.replicate (3 - (lg_sl ([.ref (ad x0)])).length) Slot.unset).toArray = ls_ at hl ⊢
  refine wGen (fun Q hQ => ?_)
  obtain ⟨X, hX⟩ : ∃ X, f_Y5_needsPlace S x0 = X := ⟨_, rfl⟩
  have L_2 : ∀ (n : Nat) (x1 : Int32) (H : Heap) (locs : List Loc) (ls_ : Array Slot), lp_Y5_needsPlace_2 S x0 n x1 = X → lq_Y5_needsPlace_2 S x0 n x1 → va_P G vwCl (wsC K ad S) H → va_D A (wsC K ad S) → va_S A s.heap H locs → lv_has ls_ 3 [(0, .ref (ad x0)), (1, .int x1)] → W p l e ({ frames := 1, cells := 0, slots := 0, locals := 21 } : Room) s m #[Value.ref (ad x0)] below meth c H locs 0 0 Q (F0 m 2 ls_ []) := by
    intro n1
    induction n1 with
    | zero => intro x1 H locs ls_ hE hp; exact False.elim hp
    | succ n1 ih1 =>
      intro x1 H locs ls_ hO1 hp hP hD hS hl
      rw [lp_Y5_needsPlace_2] at hO1
      rw [lq_Y5_needsPlace_2] at hp
      obtain ⟨hp, hq1⟩ := hp
      generalize hE : st_Y5_needsPlace_2 S x0 x1 = Y1 at hO1 hq1
      unfold st_Y5_needsPlace_2 at hE
      unfold ps_Y5_needsPlace_2 at hp
      have B_Y5_needsPlace_29 : ∀ (x1 : Int32) (x2 : Option Nat) (H : Heap) (locs : List Loc) (ls_ : Array Slot), b_Y5_needsPlace_29 S x0 x1 x2 = Y1 → q_Y5_needsPlace_29 S x0 x1 x2 → va_P G vwCl (wsC K ad S) H → va_D A (wsC K ad S) → va_S A s.heap H locs → lv_has ls_ 3 [(0, .ref (ad x0)), (1, .int x1), (2, va_re ad x2)] → W p l e ({ frames := 1, cells := 0, slots := 0, locals := 21 } : Room) s m #[Value.ref (ad x0)] below meth c H locs 0 0 Q (F0 m 29 ls_ []) := by
        intro x1 x2 H locs ls_ hE hp hP hD hS hl
        unfold b_Y5_needsPlace_29 at hE
        unfold q_Y5_needsPlace_29 at hp
        refine lv_iinc (i := 1) (v := (x1 + 1)) (lv' := [(1, .int (x1 + 1)), (0, .ref (ad x0)), (2, va_re ad x2)]) hx hb dX5_needsPlace_29 hl (k := 1) rfl rfl (by decide) rfl (fun ls_ hl => ?_)
        refine lv_goto (tgt := 2) hx hb dX5_needsPlace_32 (by decide) ?_
        subst hE
        dsimp only at hO1 hq1
        exact ih1 (x1 + 1) _ _ _ hO1 hq1 hP hD hS (lv_sub hl [1, 0] rfl)
      refine lv_iload_n hx hb dX5_needsPlace_2 rfl (lv_at hl 1 rfl) ?_
      refine lv_aload_n hx hb dX5_needsPlace_3 rfl (lv_at hl 0 rfl) ?_
      refine va_get (D := G) (ci := 4) (v := .int (giC S x0 1)) (C := RX5) (T := TX5) (N := 2) hx hb hts iX5 hown hK hP x0 (at_4 k_x0) rfl 1 (by decide) (hw (.fieldLink RX5 17 "MotionFloor$Pile" "size" "I") (List.mem_of_getElem? (i := 0) rfl)) (fun _ h9 => h9) rfl dX5_needsPlace_4 ?_
      refine lv_icmp_ge (tgt := 35) hx hb dX5_needsPlace_7 (by decide) (fun c1 => ?_) (fun c1 => ?_)
      · rw [if_pos c1] at hE hp
        subst hE
        have hE := hO1
        dsimp only at hE
        refine lv_iconst (v := 0) hx hb dX5_needsPlace_35 (by decide) ?_
        subst hQ
        exact W.zret (v := (0 : Int32)) (ty := .boolean) hx hb hr rfl (fun t ht hW => ⟨⟨(0 : Int32), S, rfl, (pair_i (hE.trans hX.symm)), by rw [ht]; exact hP, hD⟩, hS.F ht⟩) hS.2.2 dX5_needsPlace_36
      · rw [if_neg c1] at hE hp
        refine lv_aload_n hx hb dX5_needsPlace_10 rfl (lv_at hl 0 rfl) ?_
        refine lv_iload_n hx hb dX5_needsPlace_11 rfl (lv_at hl 1 rfl) ?_
        obtain ⟨hy2, hp⟩ := hp
        refine cGoq (va_runV (As := [.int x1]) (rest := []) ⟨hx, hb, hml, hown, hts⟩ (c_Y5_at l G K ad S x0 x1 _) (cwV 1 hts (wGV t_ (mw (.methodLink RX5 21 yX5_at) (List.mem_of_getElem? (i := 1) rfl)) (mw (.instanceMethod yX5_at) (List.mem_of_getElem? (i := 2) rfl)) (mw (.selects RX5 yX5_at yX5_at) (List.mem_of_getElem? (i := 3) rfl)) (mw (.initialized RX5) (List.mem_of_getElem? (i := 4) rfl)) j_Y5_at) rfl rfl rfl (by decide +kernel) ⟨Nat.le_of_ble_eq_true rfl, Nat.le_of_ble_eq_true rfl⟩) (cPV hK hTE hP hD 4 rfl (at_4 k_x0) ⟨k_x0, hy2⟩) rfl rfl hl.1 rfl (lv_room (Nat.le_of_ble_eq_true rfl)) dX5_needsPlace_12 ⟨Nat.le_of_ble_eq_true rfl, Nat.le_of_ble_eq_true rfl⟩) hP hD hS hA (fun r4 u3 H locs hv hP hD hS => ?_)
        have h1 := congrArg Prod.fst hv
        have h2 := (congrArg Prod.snd hv).symm
        dsimp only at h1 h2
        subst h1
        subst h2
        refine cAstore_n (ad := ad) (r := (f_Y5_at S x0 x1)) (i := 2) (lv' := [(2, va_re ad (f_Y5_at S x0 x1)), (0, .ref (ad x0)), (1, .int x1)]) hx hb dX5_needsPlace_15 rfl hl (by decide) rfl (fun ls_ hl => ?_)
        refine cAload_n (ad := ad) (r := (f_Y5_at S x0 x1)) hx hb dX5_needsPlace_16 rfl (lv_at hl 0 rfl) ?_
        refine cIfnull (ad := ad) (r := (f_Y5_at S x0 x1)) (tgt := 29) hx hb dX5_needsPlace_17 (by decide) (fun c5 => ?_) (fun c5 => ?_)
        · rw [if_pos c5] at hE hp
          exact B_Y5_needsPlace_29 x1 (f_Y5_at S x0 x1) _ _ _ hE hp hP hD hS (lv_sub hl [1, 2, 0] rfl)
        · rw [if_neg c5] at hE hp
          refine cAload_n (ad := ad) (r := (f_Y5_at S x0 x1)) hx hb dX5_needsPlace_20 rfl (lv_at hl 0 rfl) ?_
          obtain ⟨hy6, hp⟩ := hp
          refine cTop (r := (f_Y5_at S x0 x1)) hy6.1 ?_
          obtain ⟨hy7, hp⟩ := hp
          refine cGoi (va_runV (As := []) (rest := []) ⟨hx, hb, hml, hown, hts⟩ (c_Y4_needsPlace l G K ad S ((f_Y5_at S x0 x1).getD 0) _) (cwV 0 hts (wGV t_ (mw (.methodLink RX5 38 yX4_needsPlace) (List.mem_of_getElem? (i := 5) rfl)) (mw (.instanceMethod yX4_needsPlace) (List.mem_of_getElem? (i := 6) rfl)) (mw (.selects RX4 yX4_needsPlace yX4_needsPlace) (List.mem_of_getElem? (i := 7) rfl)) (mw (.initialized RX4) (List.mem_of_getElem? (i := 8) rfl)) j_Y4_needsPlace) rfl rfl rfl (by decide +kernel) ⟨Nat.le_of_ble_eq_true rfl, Nat.le_of_ble_eq_true rfl⟩) (cPV hK hTE hP hD 3 rfl (at_3 hy6.2) ⟨hy6.2, hy7⟩) rfl rfl hl.1 rfl (lv_room (Nat.le_of_ble_eq_true rfl)) dX5_needsPlace_21 ⟨Nat.le_of_ble_eq_true rfl, Nat.le_of_ble_eq_true rfl⟩) hP hD hS hA (fun r9 u8 H locs hv hP hD hS => ?_)
          have h1 := congrArg Prod.fst hv
          have h2 := (congrArg Prod.snd hv).symm
          dsimp only at h1 h2
          subst h1
          subst h2
          refine lv_if_eq (tgt := 29) hx hb dX5_needsPlace_24 (by decide) (fun c10 => ?_) (fun c10 => ?_)
          · rw [if_pos c10] at hE hp
            exact B_Y5_needsPlace_29 x1 (f_Y5_at S x0 x1) _ _ _ hE hp hP hD hS (lv_sub hl [1, 2, 0] rfl)
          · rw [if_neg c10] at hE hp
            subst hE
            have hE := hO1
            dsimp only at hE
            refine lv_iconst (v := 1) hx hb dX5_needsPlace_27 (by decide) ?_
            subst hQ
            exact W.zret (v := (1 : Int32)) (ty := .boolean) hx hb hr rfl (fun t ht hW => ⟨⟨(1 : Int32), S, rfl, (pair_i (hE.trans hX.symm)), by rw [ht]; exact hP, hD⟩, hS.F ht⟩) hS.2.2 dX5_needsPlace_28
  have B_M : ∀ (H : Heap) (locs : List Loc) (ls_ : Array Slot), f_Y5_needsPlace S x0 = X → p_Y5_needsPlace S x0 → va_P G vwCl (wsC K ad S) H → va_D A (wsC K ad S) → va_S A s.heap H locs → lv_has ls_ 3 [(0, .ref (ad x0))] → W p l e ({ frames := 1, cells := 0, slots := 0, locals := 21 } : Room) s m #[Value.ref (ad x0)] below meth c H locs 0 0 Q (F0 m 0 ls_ []) := by
    intro  H locs ls_ hE hp hP hD hS hl
    unfold f_Y5_needsPlace at hE
    unfold p_Y5_needsPlace at hp
    refine lv_iconst (v := 0) hx hb dX5_needsPlace_0 (by decide) ?_
    refine lv_istore_n (i := 1) (lv' := [(1, .int 0), (0, .ref (ad x0))]) hx hb dX5_needsPlace_1 rfl hl (by decide) rfl (fun ls_ hl => ?_)
    exact L_2 100000 0 _ _ _ hE hp hP hD hS (lv_sub hl [1, 0] rfl)
  exact B_M  _ _ _ hX hp hP hD hS hl
theorem dX8_againstLay_45 : decode cX8_againstLay 45 = .ok (.aload_n 3, 1) := by decide +kernel
theorem dX8_againstLay_46 : decode cX8_againstLay 46 = .ok (.invokevirtual 150, 3) := by decide +kernel
theorem dX8_againstLay_49 : decode cX8_againstLay 49 = .ok (.ifCond .eq 52, 3) := by decide +kernel
theorem dX8_againstLay_52 : decode cX8_againstLay 52 = .ok (.aload_n 3, 1) := by decide +kernel
theorem dX8_againstLay_53 : decode cX8_againstLay 53 = .ok (.getfield 153, 3) := by decide +kernel
theorem dX8_againstLay_56 : decode cX8_againstLay 56 = .ok (.ifCond .ne 45, 3) := by decide +kernel
theorem dX8_againstLay_59 : decode cX8_againstLay 59 = .ok (.aload_n 0, 1) := by decide +kernel
theorem dX8_againstLay_60 : decode cX8_againstLay 60 = .ok (.getfield 86, 3) := by decide +kernel
theorem dX8_againstLay_63 : decode cX8_againstLay 63 = .ok (.invokevirtual 90, 3) := by decide +kernel
theorem dX8_againstLay_66 : decode cX8_againstLay 66 = .ok (.astore 4, 2) := by decide +kernel
theorem dX8_againstLay_68 : decode cX8_againstLay 68 = .ok (.aload 4, 2) := by decide +kernel
theorem dX8_againstLay_70 : decode cX8_againstLay 70 = .ok (.ifnull 12, 3) := by decide +kernel
theorem dX8_againstLay_73 : decode cX8_againstLay 73 = .ok (.aload_n 3, 1) := by decide +kernel
theorem dX8_againstLay_74 : decode cX8_againstLay 74 = .ok (.aload 4, 2) := by decide +kernel
theorem dX8_againstLay_76 : decode cX8_againstLay 76 = .ok (.invokevirtual 173, 3) := by decide +kernel
theorem dX8_againstLay_79 : decode cX8_againstLay 79 = .ok (.ifCond .ne 5, 3) := by decide +kernel
theorem dX8_againstLay_82 : decode cX8_againstLay 82 = .ok (.iconst 1, 1) := by decide +kernel
theorem dX8_againstLay_83 : decode cX8_againstLay 83 = .ok (.ireturn, 1) := by decide +kernel
theorem dX8_againstLay_84 : decode cX8_againstLay 84 = .ok (.aload_n 3, 1) := by decide +kernel
theorem dX8_againstLay_85 : decode cX8_againstLay 85 = .ok (.getfield 177, 3) := by decide +kernel
theorem dX8_againstLay_88 : decode cX8_againstLay 88 = .ok (.aload 4, 2) := by decide +kernel
theorem dX8_againstLay_90 : decode cX8_againstLay 90 = .ok (.getfield 159, 3) := by decide +kernel
theorem dX8_againstLay_93 : decode cX8_againstLay 93 = .ok (.getfield 163, 3) := by decide +kernel
theorem dX8_againstLay_96 : decode cX8_againstLay 96 = .ok (.if_icmp .le 5, 3) := by decide +kernel
theorem dX8_againstLay_99 : decode cX8_againstLay 99 = .ok (.iconst 5, 1) := by decide +kernel
theorem dX8_againstLay_100 : decode cX8_againstLay 100 = .ok (.ireturn, 1) := by decide +kernel
theorem dX8_againstLay_116 : decode cX8_againstLay 116 = .ok (.ifCond .eq 8, 3) := by decide +kernel
theorem dX8_againstLay_119 : decode cX8_againstLay 119 = .ok (.bipush 10, 2) := by decide +kernel
theorem dX8_againstLay_121 : decode cX8_againstLay 121 = .ok (.goto 4, 3) := by decide +kernel
set_option maxRecDepth 100000 in
theorem zc257 : wZ (.selects RX5 yX5_needsPlace yX5_needsPlace) := ⟨wT2 (List.mem_of_getElem? (i := 133) (by decide +kernel)), Or.inl rfl⟩
set_option maxRecDepth 100000 in
theorem zc258 : wZ (.instanceMethod yX5_needsPlace) := ⟨wT2 (List.mem_of_getElem? (i := 132) (by decide +kernel)), Or.inl rfl⟩
set_option maxRecDepth 100000 in
theorem zc259 : wZ (.methodLink RX8 184 yX5_needsPlace) := ⟨wT2 (List.mem_of_getElem? (i := 131) (by decide +kernel)), Or.inl rfl⟩
set_option maxRecDepth 100000 in
theorem zc260 : wZ (.selects RX0 yX0_placeAt yX0_placeAt) := ⟨wT2 (List.mem_of_getElem? (i := 116) (by decide +kernel)), Or.inl rfl⟩
set_option maxRecDepth 100000 in
theorem zc261 : wZ (.instanceMethod yX0_placeAt) := ⟨wT2 (List.mem_of_getElem? (i := 115) (by decide +kernel)), Or.inl rfl⟩
set_option maxRecDepth 100000 in
theorem zc262 : wZ (.methodLink RX8 166 yX0_placeAt) := ⟨wT2 (List.mem_of_getElem? (i := 114) (by decide +kernel)), Or.inl rfl⟩
set_option maxRecDepth 100000 in
theorem zc263 : wZ (.code yX8_againstLay cX8_againstLay 5 (some .int)) := ⟨wT2 (List.mem_of_getElem? (i := 113) rfl), Or.inl rfl⟩
def b_Y8_againstLay_30 (S : Cst) (x0 : Nat) (x1 : Int32) (x2 : Option Nat) : Int32 := (11 : Int32)
def q_Y8_againstLay_30 (S : Cst) (x0 : Nat) (x1 : Int32) (x2 : Option Nat) : Prop := True
def b_Y8_againstLay_125 (S : Cst) (x0 : Nat) (x1 : Int32) (x2 : Option Nat) (x3 : Option Nat) (y0 : Int32) : Int32 := y0
def q_Y8_againstLay_125 (S : Cst) (x0 : Nat) (x1 : Int32) (x2 : Option Nat) (x3 : Option Nat) (y0 : Int32) : Prop := True
def b_Y8_againstLay_124 (S : Cst) (x0 : Nat) (x1 : Int32) (x2 : Option Nat) (x3 : Option Nat) : Int32 := (b_Y8_againstLay_125 S x0 x1 x2 x3 0)
def q_Y8_againstLay_124 (S : Cst) (x0 : Nat) (x1 : Int32) (x2 : Option Nat) (x3 : Option Nat) : Prop := (q_Y8_againstLay_125 S x0 x1 x2 x3 0)
def b_Y8_againstLay_101 (S : Cst) (x0 : Nat) (x1 : Int32) (x2 : Option Nat) (x3 : Option Nat) : Int32 := if (f_Y0_freePlaces S x0) = 1 then if (f_Y5_needsPlace S ((grC S x0 1).getD 0)) = 0 then (b_Y8_againstLay_124 S x0 x1 x2 x3) else (b_Y8_againstLay_125 S x0 x1 x2 x3 10) else (b_Y8_againstLay_124 S x0 x1 x2 x3)
def q_Y8_againstLay_101 (S : Cst) (x0 : Nat) (x1 : Int32) (x2 : Option Nat) (x3 : Option Nat) : Prop := (p_Y0_freePlaces S x0) ∧ (if (f_Y0_freePlaces S x0) = 1 then (iR S (grC S x0 1) 4) ∧ (p_Y5_needsPlace S ((grC S x0 1).getD 0)) ∧ (if (f_Y5_needsPlace S ((grC S x0 1).getD 0)) = 0 then (q_Y8_againstLay_124 S x0 x1 x2 x3) else (q_Y8_againstLay_125 S x0 x1 x2 x3 10)) else (q_Y8_againstLay_124 S x0 x1 x2 x3))
def b_Y8_againstLay_82 (S : Cst) (x0 : Nat) (x1 : Int32) (x2 : Option Nat) (x3 : Option Nat) (x4 : Option Nat) : Int32 := (1 : Int32)
def q_Y8_againstLay_82 (S : Cst) (x0 : Nat) (x1 : Int32) (x2 : Option Nat) (x3 : Option Nat) (x4 : Option Nat) : Prop := True
def b_Y8_againstLay_79a (S : Cst) (x0 : Nat) (x1 : Int32) (x2 : Option Nat) (x3 : Option Nat) (x4 : Option Nat) (y0 : Int32) : Int32 := if y0 = 0 then (b_Y8_againstLay_82 S x0 x1 x2 x3 x4) else if (giC S (x3.getD 0) 9) ≤ (giC S ((grC S (x4.getD 0) 12).getD 0) 1) then (b_Y8_againstLay_101 S x0 x1 x2 x3) else (5 : Int32)
def q_Y8_againstLay_79a (S : Cst) (x0 : Nat) (x1 : Int32) (x2 : Option Nat) (x3 : Option Nat) (x4 : Option Nat) (y0 : Int32) : Prop := (if y0 = 0 then (q_Y8_againstLay_82 S x0 x1 x2 x3 x4) else (iR S x3 3) ∧ (iR S x4 3) ∧ (iR S (grC S (x4.getD 0) 12) 6) ∧ (if (giC S (x3.getD 0) 9) ≤ (giC S ((grC S (x4.getD 0) 12).getD 0) 1) then (q_Y8_againstLay_101 S x0 x1 x2 x3) else True))
def f_Y8_againstLay (S : Cst) (x0 : Nat) (x1 : Int32) : Int32 := if (f_Y0_placeAt S x0 x1) = none then (9 : Int32) else if (f_Y6_isEmpty S ((grC S x0 2).getD 0)) = 0 then if (f_Y6_isEmpty S ((f_Y0_placeAt S x0 x1).getD 0)) = 0 then (b_Y8_againstLay_30 S x0 x1 (f_Y0_placeAt S x0 x1)) else if (f_Y6_motion S ((grC S x0 2).getD 0)) = none then (b_Y8_againstLay_101 S x0 x1 (f_Y0_placeAt S x0 x1) (f_Y6_motion S ((grC S x0 2).getD 0))) else if (f_Y4_amends S ((f_Y6_motion S ((grC S x0 2).getD 0)).getD 0)) = 0 then (b_Y8_againstLay_101 S x0 x1 (f_Y0_placeAt S x0 x1) (f_Y6_motion S ((grC S x0 2).getD 0))) else if (giC S ((f_Y6_motion S ((grC S x0 2).getD 0)).getD 0) 10) = 0 then if (f_Y5_top S ((grC S x0 1).getD 0)) = none then (b_Y8_againstLay_82 S x0 x1 (f_Y0_placeAt S x0 x1) (f_Y6_motion S ((grC S x0 2).getD 0)) (f_Y5_top S ((grC S x0 1).getD 0))) else (b_Y8_againstLay_79a S x0 x1 (f_Y0_placeAt S x0 x1) (f_Y6_motion S ((grC S x0 2).getD 0)) (f_Y5_top S ((grC S x0 1).getD 0)) (f_Y4_canBeAbout S ((f_Y6_motion S ((grC S x0 2).getD 0)).getD 0) (f_Y5_top S ((grC S x0 1).getD 0)))) else (b_Y8_againstLay_101 S x0 x1 (f_Y0_placeAt S x0 x1) (f_Y6_motion S ((grC S x0 2).getD 0))) else (b_Y8_againstLay_30 S x0 x1 (f_Y0_placeAt S x0 x1))
def p_Y8_againstLay (S : Cst) (x0 : Nat) (x1 : Int32) : Prop := (p_Y0_placeAt S x0 x1) ∧ (if (f_Y0_placeAt S x0 x1) = none then True else (iR S (grC S x0 2) 5) ∧ (p_Y6_isEmpty S ((grC S x0 2).getD 0)) ∧ (if (f_Y6_isEmpty S ((grC S x0 2).getD 0)) = 0 then (iR S (f_Y0_placeAt S x0 x1) 5) ∧ (p_Y6_isEmpty S ((f_Y0_placeAt S x0 x1).getD 0)) ∧ (if (f_Y6_isEmpty S ((f_Y0_placeAt S x0 x1).getD 0)) = 0 then (q_Y8_againstLay_30 S x0 x1 (f_Y0_placeAt S x0 x1)) else (iR S (grC S x0 2) 5) ∧ (p_Y6_motion S ((grC S x0 2).getD 0)) ∧ (if (f_Y6_motion S ((grC S x0 2).getD 0)) = none then (q_Y8_againstLay_101 S x0 x1 (f_Y0_placeAt S x0 x1) (f_Y6_motion S ((grC S x0 2).getD 0))) else (iR S (f_Y6_motion S ((grC S x0 2).getD 0)) 3) ∧ (p_Y4_amends S ((f_Y6_motion S ((grC S x0 2).getD 0)).getD 0)) ∧ (if (f_Y4_amends S ((f_Y6_motion S ((grC S x0 2).getD 0)).getD 0)) = 0 then (q_Y8_againstLay_101 S x0 x1 (f_Y0_placeAt S x0 x1) (f_Y6_motion S ((grC S x0 2).getD 0))) else (iR S (f_Y6_motion S ((grC S x0 2).getD 0)) 3) ∧ (if (giC S ((f_Y6_motion S ((grC S x0 2).getD 0)).getD 0) 10) = 0 then (iR S (grC S x0 1) 4) ∧ (p_Y5_top S ((grC S x0 1).getD 0)) ∧ (if (f_Y5_top S ((grC S x0 1).getD 0)) = none then (q_Y8_againstLay_82 S x0 x1 (f_Y0_placeAt S x0 x1) (f_Y6_motion S ((grC S x0 2).getD 0)) (f_Y5_top S ((grC S x0 1).getD 0))) else (iR S (f_Y6_motion S ((grC S x0 2).getD 0)) 3) ∧ (p_Y4_canBeAbout S ((f_Y6_motion S ((grC S x0 2).getD 0)).getD 0) (f_Y5_top S ((grC S x0 1).getD 0))) ∧ (q_Y8_againstLay_79a S x0 x1 (f_Y0_placeAt S x0 x1) (f_Y6_motion S ((grC S x0 2).getD 0)) (f_Y5_top S ((grC S x0 1).getD 0)) (f_Y4_canBeAbout S ((f_Y6_motion S ((grC S x0 2).getD 0)).getD 0) (f_Y5_top S ((grC S x0 1).getD 0))))) else (q_Y8_againstLay_101 S x0 x1 (f_Y0_placeAt S x0 x1) (f_Y6_motion S ((grC S x0 2).getD 0))))))) else (q_Y8_againstLay_30 S x0 x1 (f_Y0_placeAt S x0 x1))))
def e_Y8_againstLay : List Cond := [.methodLink RX8 166 yX0_placeAt, .instanceMethod yX0_placeAt, .selects RX0 yX0_placeAt yX0_placeAt, .initialized RX0, .fieldLink RX8 141 "MotionFloor$Assembly" "draft" "LMotionFloor$Place;", .methodLink RX8 170 yX6_isEmpty, .instanceMethod yX6_isEmpty, .selects RX6 yX6_isEmpty yX6_isEmpty, .initialized RX6, .methodLink RX8 145 yX6_motion, .instanceMethod yX6_motion, .selects RX6 yX6_motion yX6_motion, .methodLink RX8 180 yX0_freePlaces, .instanceMethod yX0_freePlaces, .selects RX0 yX0_freePlaces yX0_freePlaces, .fieldLink RX8 86 "MotionFloor$Assembly" "pending" "LMotionFloor$Pile;", .methodLink RX8 184 yX5_needsPlace, .instanceMethod yX5_needsPlace, .selects RX5 yX5_needsPlace yX5_needsPlace, .initialized RX5, .methodLink RX8 150 yX4_amends, .instanceMethod yX4_amends, .selects RX4 yX4_amends yX4_amends, .initialized RX4, .fieldLink RX8 153 "MotionFloor$Motion" "laid" "Z", .methodLink RX8 90 yX5_top, .instanceMethod yX5_top, .selects RX5 yX5_top yX5_top, .methodLink RX8 173 yX4_canBeAbout, .instanceMethod yX4_canBeAbout, .selects RX4 yX4_canBeAbout yX4_canBeAbout, .fieldLink RX8 177 "MotionFloor$Motion" "to" "I", .fieldLink RX8 159 "MotionFloor$Motion" "text" "LMotionFloor$Text;", .fieldLink RX8 163 "MotionFloor$Text" "size" "I"]
def v_Y8_againstLay : List Cond := .code yX8_againstLay cX8_againstLay 5 (some .int) :: (e_Y8_againstLay ++ (wsX00 ++ (wsX40 ++ (wsX90 ++ (v_Y0_placeAt ++ (v_Y6_isEmpty ++ (v_Y6_motion ++ (v_Y0_freePlaces ++ (v_Y5_needsPlace ++ (v_Y4_amends ++ (v_Y5_top ++ (v_Y4_canBeAbout ++ []))))))))))))
theorem te_Y8_againstLay : GoodIn lw_tbl e_Y8_againstLay := wGc zc262 (wGc zc261 (wGc zc260 (wGc zc39 (wGc zc232 (wGc zc231 (wGc zc120 (wGc zc119 (wGc zc118 (wGc zc230 (wGc zc133 (wGc zc132 (wGc zc202 (wGc zc201 (wGc zc200 (wGc zc164 (wGc zc259 (wGc zc258 (wGc zc257 (wGc zc34 (wGc zc185 (wGc zc184 (wGc zc183 (wGc zc182 (wGc zc211 (wGc zc229 (wGc zc228 (wGc zc227 (wGc zc178 (wGc zc177 (wGc zc176 (wGc zc196 (wGc zc198 (wGc zc195 (wG0))))))))))))))))))))))))))))))))))
theorem t_Y8_againstLay : GoodIn lw_tbl v_Y8_againstLay := wGc zc263 (wGa te_Y8_againstLay (wGa zcX0 (wGa zcX4 (wGa zcX9 (wGa t_Y0_placeAt (wGa t_Y6_isEmpty (wGa t_Y6_motion (wGa t_Y0_freePlaces (wGa t_Y5_needsPlace (wGa t_Y4_amends (wGa t_Y5_top (wGa t_Y4_canBeAbout (wG0)))))))))))))
set_option maxHeartbeats 4000000 in
set_option maxRecDepth 100000 in
theorem c_Y8_againstLay (l : Launch) (G : va_G) (K : Nat → ClassId) (ad : Nat → Nat) (S : Cst) (x0 : Nat) (a1 : Int32) (sz : Nat) : Met l yX8_againstLay v_Y8_againstLay ({ frames := 2, cells := 0, slots := 0, locals := 43 }) (va_Pc [.ref (ad x0), .int a1] (cSt G K ad sz S (iK S x0 0 ∧ p_Y8_againstLay S x0 a1))) (va_Qi (fun (r : Int32) (u : Cst) => (r, u) = (f_Y8_againstLay S x0 a1, S)) (cBt G K ad (va_A (wsC K ad S) sz)) (va_A (wsC K ad S) sz)) 0 0 (va_A (wsC K ad S) sz) := by
  refine Met.ofW (cc := cX8_againstLay) (maxL := 5) (ret := (some .int)) (by decide) rfl ?_
  intro p e s m args below meth c s₁ B hml hv
  obtain ⟨rfl, ⟨hsz, hP, hK, hD0, hTE⟩, hp⟩ := hv
  obtain ⟨k_x0, hp⟩ := hp
  have hx := B.exec
  have hb := B.bytes
  have hr := B.returns
  have hts := atoms_spec (ws := v_Y8_againstLay) B.pre
  have t_ := t_Y8_againstLay
  have mw : ∀ w ∈ e_Y8_againstLay, w ∈ v_Y8_againstLay := fun w h => List.mem_cons_of_mem _ (List.mem_append_left _ h)
  have hw := fun w (h : w ∈ e_Y8_againstLay) => hts w (mw w h)
  have iX0 : ∀ w ∈ wsX00, w ∈ v_Y8_againstLay := fun w h => List.mem_cons_of_mem _ (List.mem_append_right _ (List.mem_append_left _ h))
  have iX4 : ∀ w ∈ wsX40, w ∈ v_Y8_againstLay := fun w h => List.mem_cons_of_mem _ (List.mem_append_right _ (List.mem_append_right _ (List.mem_append_left _ h)))
  have iX9 : ∀ w ∈ wsX90, w ∈ v_Y8_againstLay := fun w h => List.mem_cons_of_mem _ (List.mem_append_right _ (List.mem_append_right _ (List.mem_append_right _ (List.mem_append_left _ h))))
  have j_Y0_placeAt : ∀ w ∈ v_Y0_placeAt, w ∈ v_Y8_againstLay := fun w h => List.mem_cons_of_mem _ (List.mem_append_right _ (List.mem_append_right _ (List.mem_append_right _ (List.mem_append_right _ (List.mem_append_left _ h)))))
  have j_Y6_isEmpty : ∀ w ∈ v_Y6_isEmpty, w ∈ v_Y8_againstLay := fun w h => List.mem_cons_of_mem _ (List.mem_append_right _ (List.mem_append_right _ (List.mem_append_right _ (List.mem_append_right _ (List.mem_append_right _ (List.mem_append_left _ h))))))
  have j_Y6_motion : ∀ w ∈ v_Y6_motion, w ∈ v_Y8_againstLay := fun w h => List.mem_cons_of_mem _ (List.mem_append_right _ (List.mem_append_right _ (List.mem_append_right _ (List.mem_append_right _ (List.mem_append_right _ (List.mem_append_right _ (List.mem_append_left _ h)))))))
  have j_Y0_freePlaces : ∀ w ∈ v_Y0_freePlaces, w ∈ v_Y8_againstLay := fun w h => List.mem_cons_of_mem _ (List.mem_append_right _ (List.mem_append_right _ (List.mem_append_right _ (List.mem_append_right _ (List.mem_append_right _ (List.mem_append_right _ (List.mem_append_right _ (List.mem_append_left _ h))))))))
  have j_Y5_needsPlace : ∀ w ∈ v_Y5_needsPlace, w ∈ v_Y8_againstLay := fun w h => List.mem_cons_of_mem _ (List.mem_append_right _ (List.mem_append_right _ (List.mem_append_right _ (List.mem_append_right _ (List.mem_append_right _ (List.mem_append_right _ (List.mem_append_right _ (List.mem_append_right _ (List.mem_append_left _ h)))))))))
  have j_Y4_amends : ∀ w ∈ v_Y4_amends, w ∈ v_Y8_againstLay := fun w h => List.mem_cons_of_mem _ (List.mem_append_right _ (List.mem_append_right _ (List.mem_append_right _ (List.mem_append_right _ (List.mem_append_right _ (List.mem_append_right _ (List.mem_append_right _ (List.mem_append_right _ (List.mem_append_right _ (List.mem_append_left _ h))))))))))
  have j_Y5_top : ∀ w ∈ v_Y5_top, w ∈ v_Y8_againstLay := fun w h => List.mem_cons_of_mem _ (List.mem_append_right _ (List.mem_append_right _ (List.mem_append_right _ (List.mem_append_right _ (List.mem_append_right _ (List.mem_append_right _ (List.mem_append_right _ (List.mem_append_right _ (List.mem_append_right _ (List.mem_append_right _ (List.mem_append_left _ h)))))))))))
  have j_Y4_canBeAbout : ∀ w ∈ v_Y4_canBeAbout, w ∈ v_Y8_againstLay := fun w h => List.mem_cons_of_mem _ (List.mem_append_right _ (List.mem_append_right _ (List.mem_append_right _ (List.mem_append_right _ (List.mem_append_right _ (List.mem_append_right _ (List.mem_append_right _ (List.mem_append_right _ (List.mem_append_right _ (List.mem_append_right _ (List.mem_append_right _ (List.mem_append_left _ h))))))))))))
  have hown : s.vm.findClass RX8 = some m.cls := findClass_of_methodNamed B.named
  have hlocks := B.notSynchronized
  subst hsz
  have hD := hD0.self (sz := s.heap.size)
  generalize hAe : va_A (wsC K ad S) s.heap.size = A at hD ⊢
  have hA : ∀ q : Nat, s.heap.size ≤ q → A q := fun q h => by rw [← hAe]; exact Or.inr h
  have hS : va_S A s.heap s.heap [] := va_S.rf
  have hl : lv_has (lg_sl ([.ref (ad x0), .int a1]) ++ List.replicate (5 - (lg_sl ([.ref (ad x0), .int a1])).length) Slot.unset).toArray 5 [(0, .ref (ad x0)), (1, .int a1)] := by
    exact lv_entry ([.ref (ad x0), .int a1]) (n := 5) (Nat.le_of_ble_eq_true rfl)
  rw [lg_entry_eq]
  generalize (lg_sl ([.ref (ad x0), .int a1]) ++ List.replicate (5 - (lg_sl ([.ref (ad x0), .int a1])).length) Slot.unset).toArray = ls_ at hl ⊢
  refine wGen (fun Q hQ => ?_)
  obtain ⟨X, hX⟩ : ∃ X, f_Y8_againstLay S x0 a1 = X := ⟨_, rfl⟩
  have B_Y8_againstLay_30 : ∀ (x1 : Int32) (x2 : Option Nat) (H : Heap) (locs : List Loc) (ls_ : Array Slot), b_Y8_againstLay_30 S x0 x1 x2 = X → q_Y8_againstLay_30 S x0 x1 x2 → va_P G vwCl (wsC K ad S) H → va_D A (wsC K ad S) → va_S A s.heap H locs → lv_has ls_ 5 [(0, .ref (ad x0)), (1, .int x1), (2, va_re ad x2)] → W p l e ({ frames := 2, cells := 0, slots := 0, locals := 43 } : Room) s m #[Value.ref (ad x0), Value.int a1] below meth c H locs 0 0 Q (F0 m 30 ls_ []) := by
    intro x1 x2 H locs ls_ hE hp hP hD hS hl
    unfold b_Y8_againstLay_30 at hE
    unfold q_Y8_againstLay_30 at hp
    refine lv_bipush (v := 11) hx hb dX8_againstLay_30 (by decide) ?_
    subst hQ
    exact W.iret (v := (11 : Int32)) hx hb hr (fun t ht hW => ⟨⟨(11 : Int32), S, rfl, (pair_i (hE.trans hX.symm)), by rw [ht]; exact hP, hD⟩, hS.F ht⟩) hS.2.2 dX8_againstLay_32
  have B_Y8_againstLay_125 : ∀ (x1 : Int32) (x2 : Option Nat) (x3 : Option Nat) (y0 : Int32) (H : Heap) (locs : List Loc) (ls_ : Array Slot), b_Y8_againstLay_125 S x0 x1 x2 x3 y0 = X → q_Y8_againstLay_125 S x0 x1 x2 x3 y0 → va_P G vwCl (wsC K ad S) H → va_D A (wsC K ad S) → va_S A s.heap H locs → lv_has ls_ 5 [(0, .ref (ad x0)), (1, .int x1), (2, va_re ad x2), (3, va_re ad x3)] → W p l e ({ frames := 2, cells := 0, slots := 0, locals := 43 } : Room) s m #[Value.ref (ad x0), Value.int a1] below meth c H locs 0 0 Q (F0 m 125 ls_ [.int y0]) := by
    intro x1 x2 x3 y0 H locs ls_ hE hp hP hD hS hl
    unfold b_Y8_againstLay_125 at hE
    unfold q_Y8_againstLay_125 at hp
    subst hQ
    exact W.iret (v := y0) hx hb hr (fun t ht hW => ⟨⟨y0, S, rfl, (pair_i (hE.trans hX.symm)), by rw [ht]; exact hP, hD⟩, hS.F ht⟩) hS.2.2 dX8_againstLay_125
  have B_Y8_againstLay_124 : ∀ (x1 : Int32) (x2 : Option Nat) (x3 : Option Nat) (H : Heap) (locs : List Loc) (ls_ : Array Slot), b_Y8_againstLay_124 S x0 x1 x2 x3 = X → q_Y8_againstLay_124 S x0 x1 x2 x3 → va_P G vwCl (wsC K ad S) H → va_D A (wsC K ad S) → va_S A s.heap H locs → lv_has ls_ 5 [(0, .ref (ad x0)), (1, .int x1), (2, va_re ad x2), (3, va_re ad x3)] → W p l e ({ frames := 2, cells := 0, slots := 0, locals := 43 } : Room) s m #[Value.ref (ad x0), Value.int a1] below meth c H locs 0 0 Q (F0 m 124 ls_ []) := by
    intro x1 x2 x3 H locs ls_ hE hp hP hD hS hl
    unfold b_Y8_againstLay_124 at hE
    unfold q_Y8_againstLay_124 at hp
    refine lv_iconst (v := 0) hx hb dX8_againstLay_124 (by decide) ?_
    exact B_Y8_againstLay_125 x1 x2 x3 0 _ _ _ hE hp hP hD hS (lv_sub hl [0, 1, 2, 3] rfl)
  have B_Y8_againstLay_101 : ∀ (x1 : Int32) (x2 : Option Nat) (x3 : Option Nat) (H : Heap) (locs : List Loc) (ls_ : Array Slot), b_Y8_againstLay_101 S x0 x1 x2 x3 = X → q_Y8_againstLay_101 S x0 x1 x2 x3 → va_P G vwCl (wsC K ad S) H → va_D A (wsC K ad S) → va_S A s.heap H locs → lv_has ls_ 5 [(0, .ref (ad x0)), (1, .int x1), (2, va_re ad x2), (3, va_re ad x3)] → W p l e ({ frames := 2, cells := 0, slots := 0, locals := 43 } : Room) s m #[Value.ref (ad x0), Value.int a1] below meth c H locs 0 0 Q (F0 m 101 ls_ []) := by
    intro x1 x2 x3 H locs ls_ hE hp hP hD hS hl
    unfold b_Y8_againstLay_101 at hE
    unfold q_Y8_againstLay_101 at hp
    refine lv_aload_n hx hb dX8_againstLay_101 rfl (lv_at hl 0 rfl) ?_
    obtain ⟨hy20, hp⟩ := hp
    refine cGoi (va_runV (As := []) (rest := []) ⟨hx, hb, hml, hown, hts⟩ (c_Y0_freePlaces l G K ad S x0 _) (cwV 0 hts (wGV t_ (mw (.methodLink RX8 180 yX0_freePlaces) (List.mem_of_getElem? (i := 12) rfl)) (mw (.instanceMethod yX0_freePlaces) (List.mem_of_getElem? (i := 13) rfl)) (mw (.selects RX0 yX0_freePlaces yX0_freePlaces) (List.mem_of_getElem? (i := 14) rfl)) (mw (.initialized RX0) (List.mem_of_getElem? (i := 3) rfl)) j_Y0_freePlaces) rfl rfl rfl (by decide +kernel) ⟨Nat.le_of_ble_eq_true rfl, Nat.le_of_ble_eq_true rfl⟩) (cPV hK hTE hP hD 0 rfl (at_0 k_x0) ⟨k_x0, hy20⟩) rfl rfl hl.1 rfl (lv_room (Nat.le_of_ble_eq_true rfl)) dX8_againstLay_102 ⟨Nat.le_of_ble_eq_true rfl, Nat.le_of_ble_eq_true rfl⟩) hP hD hS hA (fun r22 u21 H locs hv hP hD hS => ?_)
    have h1 := congrArg Prod.fst hv
    have h2 := (congrArg Prod.snd hv).symm
    dsimp only at h1 h2
    subst h1
    subst h2
    refine lv_iconst (v := 1) hx hb dX8_againstLay_105 (by decide) ?_
    refine lv_icmp_ne (tgt := 124) hx hb dX8_againstLay_106 (by decide) (fun c23 => ?_) (fun c23 => ?_)
    · rw [if_neg c23] at hE hp
      exact B_Y8_againstLay_124 x1 x2 x3 _ _ _ hE hp hP hD hS (lv_sub hl [0, 1, 2, 3] rfl)
    · rw [if_pos c23] at hE hp
      refine lv_aload_n hx hb dX8_againstLay_109 rfl (lv_at hl 0 rfl) ?_
      refine va_get (D := G) (ci := 0) (v := va_re ad (grC S x0 1)) (C := RX0) (T := TX0) (N := 11) hx hb hts iX0 hown hK hP x0 (at_0 k_x0) rfl 1 (by decide) (hw (.fieldLink RX8 86 "MotionFloor$Assembly" "pending" "LMotionFloor$Pile;") (List.mem_of_getElem? (i := 15) rfl)) (fun _ h9 => h9) rfl dX8_againstLay_110 ?_
      obtain ⟨hy24, hp⟩ := hp
      refine cTop (r := (grC S x0 1)) hy24.1 ?_
      obtain ⟨hy25, hp⟩ := hp
      refine cGoi (va_runV (As := []) (rest := []) ⟨hx, hb, hml, hown, hts⟩ (c_Y5_needsPlace l G K ad S ((grC S x0 1).getD 0) _) (cwV 0 hts (wGV t_ (mw (.methodLink RX8 184 yX5_needsPlace) (List.mem_of_getElem? (i := 16) rfl)) (mw (.instanceMethod yX5_needsPlace) (List.mem_of_getElem? (i := 17) rfl)) (mw (.selects RX5 yX5_needsPlace yX5_needsPlace) (List.mem_of_getElem? (i := 18) rfl)) (mw (.initialized RX5) (List.mem_of_getElem? (i := 19) rfl)) j_Y5_needsPlace) rfl rfl rfl (by decide +kernel) ⟨Nat.le_of_ble_eq_true rfl, Nat.le_of_ble_eq_true rfl⟩) (cPV hK hTE hP hD 4 rfl (at_4 hy24.2) ⟨hy24.2, hy25⟩) rfl rfl hl.1 rfl (lv_room (Nat.le_of_ble_eq_true rfl)) dX8_againstLay_113 ⟨Nat.le_of_ble_eq_true rfl, Nat.le_of_ble_eq_true rfl⟩) hP hD hS hA (fun r27 u26 H locs hv hP hD hS => ?_)
      have h1 := congrArg Prod.fst hv
      have h2 := (congrArg Prod.snd hv).symm
      dsimp only at h1 h2
      subst h1
      subst h2
      refine lv_if_eq (tgt := 124) hx hb dX8_againstLay_116 (by decide) (fun c28 => ?_) (fun c28 => ?_)
      · rw [if_pos c28] at hE hp
        exact B_Y8_againstLay_124 x1 x2 x3 _ _ _ hE hp hP hD hS (lv_sub hl [0, 1, 2, 3] rfl)
      · rw [if_neg c28] at hE hp
        refine lv_bipush (v := 10) hx hb dX8_againstLay_119 (by decide) ?_
        refine lv_goto (tgt := 125) hx hb dX8_againstLay_121 (by decide) ?_
        exact B_Y8_againstLay_125 x1 x2 x3 10 _ _ _ hE hp hP hD hS (lv_sub hl [0, 1, 2, 3] rfl)
  have B_Y8_againstLay_82 : ∀ (x1 : Int32) (x2 : Option Nat) (x3 : Option Nat) (x4 : Option Nat) (H : Heap) (locs : List Loc) (ls_ : Array Slot), b_Y8_againstLay_82 S x0 x1 x2 x3 x4 = X → q_Y8_againstLay_82 S x0 x1 x2 x3 x4 → va_P G vwCl (wsC K ad S) H → va_D A (wsC K ad S) → va_S A s.heap H locs → lv_has ls_ 5 [(0, .ref (ad x0)), (1, .int x1), (2, va_re ad x2), (3, va_re ad x3), (4, va_re ad x4)] → W p l e ({ frames := 2, cells := 0, slots := 0, locals := 43 } : Room) s m #[Value.ref (ad x0), Value.int a1] below meth c H locs 0 0 Q (F0 m 82 ls_ []) := by
    intro x1 x2 x3 x4 H locs ls_ hE hp hP hD hS hl
    unfold b_Y8_againstLay_82 at hE
    unfold q_Y8_againstLay_82 at hp
    refine lv_iconst (v := 1) hx hb dX8_againstLay_82 (by decide) ?_
    subst hQ
    exact W.iret (v := (1 : Int32)) hx hb hr (fun t ht hW => ⟨⟨(1 : Int32), S, rfl, (pair_i (hE.trans hX.symm)), by rw [ht]; exact hP, hD⟩, hS.F ht⟩) hS.2.2 dX8_againstLay_83
  have B_Y8_againstLay_79a : ∀ (x1 : Int32) (x2 : Option Nat) (x3 : Option Nat) (x4 : Option Nat) (y0 : Int32) (H : Heap) (locs : List Loc) (ls_ : Array Slot), b_Y8_againstLay_79a S x0 x1 x2 x3 x4 y0 = X → q_Y8_againstLay_79a S x0 x1 x2 x3 x4 y0 → va_P G vwCl (wsC K ad S) H → va_D A (wsC K ad S) → va_S A s.heap H locs → lv_has ls_ 5 [(0, .ref (ad x0)), (1, .int x1), (2, va_re ad x2), (3, va_re ad x3), (4, va_re ad x4)] → W p l e ({ frames := 2, cells := 0, slots := 0, locals := 43 } : Room) s m #[Value.ref (ad x0), Value.int a1] below meth c H locs 0 0 Q (F0 m 79 ls_ [.int y0]) := by
    intro x1 x2 x3 x4 y0 H locs ls_ hE hp hP hD hS hl
    unfold b_Y8_againstLay_79a at hE
    unfold q_Y8_againstLay_79a at hp
    refine lv_if_ne (tgt := 84) hx hb dX8_againstLay_79 (by decide) (fun c45 => ?_) (fun c45 => ?_)
    · rw [if_neg c45] at hE hp
      refine cAload_n (ad := ad) (r := x3) hx hb dX8_againstLay_84 rfl (lv_at hl 3 rfl) ?_
      obtain ⟨hy46, hp⟩ := hp
      refine cTop (r := x3) hy46.1 ?_
      refine va_get (D := G) (ci := 3) (v := .int (giC S (x3.getD 0) 9)) (C := RX4) (T := TX4) (N := 16) hx hb hts iX4 hown hK hP (x3.getD 0) (at_3 hy46.2) rfl 9 (by decide) (hw (.fieldLink RX8 177 "MotionFloor$Motion" "to" "I") (List.mem_of_getElem? (i := 31) rfl)) (fun _ h9 => h9) rfl dX8_againstLay_85 ?_
      refine cAload (ad := ad) (r := x4) hx hb dX8_againstLay_88 (lv_at hl 4 rfl) ?_
      obtain ⟨hy47, hp⟩ := hp
      refine cTop (r := x4) hy47.1 ?_
      refine va_get (D := G) (ci := 3) (v := va_re ad (grC S (x4.getD 0) 12)) (C := RX4) (T := TX4) (N := 16) hx hb hts iX4 hown hK hP (x4.getD 0) (at_3 hy47.2) rfl 12 (by decide) (hw (.fieldLink RX8 159 "MotionFloor$Motion" "text" "LMotionFloor$Text;") (List.mem_of_getElem? (i := 32) rfl)) (fun _ h9 => h9) rfl dX8_againstLay_90 ?_
      obtain ⟨hy48, hp⟩ := hp
      refine cTop (r := (grC S (x4.getD 0) 12)) hy48.1 ?_
      refine va_get (D := G) (ci := 6) (v := .int (giC S ((grC S (x4.getD 0) 12).getD 0) 1)) (C := RX9) (T := TX9) (N := 2) hx hb hts iX9 hown hK hP ((grC S (x4.getD 0) 12).getD 0) (at_6 hy48.2) rfl 1 (by decide) (hw (.fieldLink RX8 163 "MotionFloor$Text" "size" "I") (List.mem_of_getElem? (i := 33) rfl)) (fun _ h9 => h9) rfl dX8_againstLay_93 ?_
      refine lv_icmp_le (tgt := 101) hx hb dX8_againstLay_96 (by decide) (fun c49 => ?_) (fun c49 => ?_)
      · rw [if_pos c49] at hE hp
        exact B_Y8_againstLay_101 x1 x2 x3 _ _ _ hE hp hP hD hS (lv_sub hl [0, 1, 2, 3] rfl)
      · rw [if_neg c49] at hE hp
        refine lv_iconst (v := 5) hx hb dX8_againstLay_99 (by decide) ?_
        subst hQ
        exact W.iret (v := (5 : Int32)) hx hb hr (fun t ht hW => ⟨⟨(5 : Int32), S, rfl, (pair_i (hE.trans hX.symm)), by rw [ht]; exact hP, hD⟩, hS.F ht⟩) hS.2.2 dX8_againstLay_100
    · rw [if_pos c45] at hE hp
      exact B_Y8_againstLay_82 x1 x2 x3 x4 _ _ _ hE hp hP hD hS (lv_sub hl [0, 1, 2, 3, 4] rfl)
  have B_M : ∀ (x1 : Int32) (H : Heap) (locs : List Loc) (ls_ : Array Slot), f_Y8_againstLay S x0 x1 = X → p_Y8_againstLay S x0 x1 → va_P G vwCl (wsC K ad S) H → va_D A (wsC K ad S) → va_S A s.heap H locs → lv_has ls_ 5 [(0, .ref (ad x0)), (1, .int x1)] → W p l e ({ frames := 2, cells := 0, slots := 0, locals := 43 } : Room) s m #[Value.ref (ad x0), Value.int a1] below meth c H locs 0 0 Q (F0 m 0 ls_ []) := by
    intro x1 H locs ls_ hE hp hP hD hS hl
    unfold f_Y8_againstLay at hE
    unfold p_Y8_againstLay at hp
    refine lv_aload_n hx hb dX8_againstLay_0 rfl (lv_at hl 0 rfl) ?_
    refine lv_iload_n hx hb dX8_againstLay_1 rfl (lv_at hl 1 rfl) ?_
    obtain ⟨hy1, hp⟩ := hp
    refine cGoq (va_runV (As := [.int x1]) (rest := []) ⟨hx, hb, hml, hown, hts⟩ (c_Y0_placeAt l G K ad S x0 x1 _) (cwV 1 hts (wGV t_ (mw (.methodLink RX8 166 yX0_placeAt) (List.mem_of_getElem? (i := 0) rfl)) (mw (.instanceMethod yX0_placeAt) (List.mem_of_getElem? (i := 1) rfl)) (mw (.selects RX0 yX0_placeAt yX0_placeAt) (List.mem_of_getElem? (i := 2) rfl)) (mw (.initialized RX0) (List.mem_of_getElem? (i := 3) rfl)) j_Y0_placeAt) rfl rfl rfl (by decide +kernel) ⟨Nat.le_of_ble_eq_true rfl, Nat.le_of_ble_eq_true rfl⟩) (cPV hK hTE hP hD 0 rfl (at_0 k_x0) ⟨k_x0, hy1⟩) rfl rfl hl.1 rfl (lv_room (Nat.le_of_ble_eq_true rfl)) dX8_againstLay_2 ⟨Nat.le_of_ble_eq_true rfl, Nat.le_of_ble_eq_true rfl⟩) hP hD hS hA (fun r3 u2 H locs hv hP hD hS => ?_)
    have h1 := congrArg Prod.fst hv
    have h2 := (congrArg Prod.snd hv).symm
    dsimp only at h1 h2
    subst h1
    subst h2
    refine cAstore_n (ad := ad) (r := (f_Y0_placeAt S x0 x1)) (i := 2) (lv' := [(2, va_re ad (f_Y0_placeAt S x0 x1)), (0, .ref (ad x0)), (1, .int x1)]) hx hb dX8_againstLay_5 rfl hl (by decide) rfl (fun ls_ hl => ?_)
    refine cAload_n (ad := ad) (r := (f_Y0_placeAt S x0 x1)) hx hb dX8_againstLay_6 rfl (lv_at hl 0 rfl) ?_
    refine cIfnonnull (ad := ad) (r := (f_Y0_placeAt S x0 x1)) (tgt := 13) hx hb dX8_againstLay_7 (by decide) (fun c4 => ?_) (fun c4 => ?_)
    · rw [if_pos c4] at hE hp
      refine lv_bipush (v := 9) hx hb dX8_againstLay_10 (by decide) ?_
      subst hQ
      exact W.iret (v := (9 : Int32)) hx hb hr (fun t ht hW => ⟨⟨(9 : Int32), S, rfl, (pair_i (hE.trans hX.symm)), by rw [ht]; exact hP, hD⟩, hS.F ht⟩) hS.2.2 dX8_againstLay_12
    · rw [if_neg c4] at hE hp
      refine lv_aload_n hx hb dX8_againstLay_13 rfl (lv_at hl 1 rfl) ?_
      refine va_get (D := G) (ci := 0) (v := va_re ad (grC S x0 2)) (C := RX0) (T := TX0) (N := 11) hx hb hts iX0 hown hK hP x0 (at_0 k_x0) rfl 2 (by decide) (hw (.fieldLink RX8 141 "MotionFloor$Assembly" "draft" "LMotionFloor$Place;") (List.mem_of_getElem? (i := 4) rfl)) (fun _ h9 => h9) rfl dX8_againstLay_14 ?_
      obtain ⟨hy5, hp⟩ := hp
      refine cTop (r := (grC S x0 2)) hy5.1 ?_
      obtain ⟨hy6, hp⟩ := hp
      refine cGoi (va_runV (As := []) (rest := []) ⟨hx, hb, hml, hown, hts⟩ (c_Y6_isEmpty l G K ad S ((grC S x0 2).getD 0) _) (cwV 0 hts (wGV t_ (mw (.methodLink RX8 170 yX6_isEmpty) (List.mem_of_getElem? (i := 5) rfl)) (mw (.instanceMethod yX6_isEmpty) (List.mem_of_getElem? (i := 6) rfl)) (mw (.selects RX6 yX6_isEmpty yX6_isEmpty) (List.mem_of_getElem? (i := 7) rfl)) (mw (.initialized RX6) (List.mem_of_getElem? (i := 8) rfl)) j_Y6_isEmpty) rfl rfl rfl (by decide +kernel) ⟨Nat.le_of_ble_eq_true rfl, Nat.le_of_ble_eq_true rfl⟩) (cPV hK hTE hP hD 5 rfl (at_5 hy5.2) ⟨hy5.2, hy6⟩) rfl rfl hl.1 rfl (lv_room (Nat.le_of_ble_eq_true rfl)) dX8_againstLay_17 ⟨Nat.le_of_ble_eq_true rfl, Nat.le_of_ble_eq_true rfl⟩) hP hD hS hA (fun r8 u7 H locs hv hP hD hS => ?_)
      have h1 := congrArg Prod.fst hv
      have h2 := (congrArg Prod.snd hv).symm
      dsimp only at h1 h2
      subst h1
      subst h2
      refine lv_if_ne (tgt := 30) hx hb dX8_againstLay_20 (by decide) (fun c9 => ?_) (fun c9 => ?_)
      · rw [if_neg c9] at hE hp
        exact B_Y8_againstLay_30 x1 (f_Y0_placeAt S x0 x1) _ _ _ hE hp hP hD hS (lv_sub hl [1, 2, 0] rfl)
      · rw [if_pos c9] at hE hp
        refine cAload_n (ad := ad) (r := (f_Y0_placeAt S x0 x1)) hx hb dX8_againstLay_23 rfl (lv_at hl 0 rfl) ?_
        obtain ⟨hy10, hp⟩ := hp
        refine cTop (r := (f_Y0_placeAt S x0 x1)) hy10.1 ?_
        obtain ⟨hy11, hp⟩ := hp
        refine cGoi (va_runV (As := []) (rest := []) ⟨hx, hb, hml, hown, hts⟩ (c_Y6_isEmpty l G K ad S ((f_Y0_placeAt S x0 x1).getD 0) _) (cwV 0 hts (wGV t_ (mw (.methodLink RX8 170 yX6_isEmpty) (List.mem_of_getElem? (i := 5) rfl)) (mw (.instanceMethod yX6_isEmpty) (List.mem_of_getElem? (i := 6) rfl)) (mw (.selects RX6 yX6_isEmpty yX6_isEmpty) (List.mem_of_getElem? (i := 7) rfl)) (mw (.initialized RX6) (List.mem_of_getElem? (i := 8) rfl)) j_Y6_isEmpty) rfl rfl rfl (by decide +kernel) ⟨Nat.le_of_ble_eq_true rfl, Nat.le_of_ble_eq_true rfl⟩) (cPV hK hTE hP hD 5 rfl (at_5 hy10.2) ⟨hy10.2, hy11⟩) rfl rfl hl.1 rfl (lv_room (Nat.le_of_ble_eq_true rfl)) dX8_againstLay_24 ⟨Nat.le_of_ble_eq_true rfl, Nat.le_of_ble_eq_true rfl⟩) hP hD hS hA (fun r13 u12 H locs hv hP hD hS => ?_)
        have h1 := congrArg Prod.fst hv
        have h2 := (congrArg Prod.snd hv).symm
        dsimp only at h1 h2
        subst h1
        subst h2
        refine lv_if_ne (tgt := 33) hx hb dX8_againstLay_27 (by decide) (fun c14 => ?_) (fun c14 => ?_)
        · rw [if_neg c14] at hE hp
          refine lv_aload_n hx hb dX8_againstLay_33 rfl (lv_at hl 1 rfl) ?_
          refine va_get (D := G) (ci := 0) (v := va_re ad (grC S x0 2)) (C := RX0) (T := TX0) (N := 11) hx hb hts iX0 hown hK hP x0 (at_0 k_x0) rfl 2 (by decide) (hw (.fieldLink RX8 141 "MotionFloor$Assembly" "draft" "LMotionFloor$Place;") (List.mem_of_getElem? (i := 4) rfl)) (fun _ h9 => h9) rfl dX8_againstLay_34 ?_
          obtain ⟨hy15, hp⟩ := hp
          refine cTop (r := (grC S x0 2)) hy15.1 ?_
          obtain ⟨hy16, hp⟩ := hp
          refine cGoq (va_runV (As := []) (rest := []) ⟨hx, hb, hml, hown, hts⟩ (c_Y6_motion l G K ad S ((grC S x0 2).getD 0) _) (cwV 0 hts (wGV t_ (mw (.methodLink RX8 145 yX6_motion) (List.mem_of_getElem? (i := 9) rfl)) (mw (.instanceMethod yX6_motion) (List.mem_of_getElem? (i := 10) rfl)) (mw (.selects RX6 yX6_motion yX6_motion) (List.mem_of_getElem? (i := 11) rfl)) (mw (.initialized RX6) (List.mem_of_getElem? (i := 8) rfl)) j_Y6_motion) rfl rfl rfl (by decide +kernel) ⟨Nat.le_of_ble_eq_true rfl, Nat.le_of_ble_eq_true rfl⟩) (cPV hK hTE hP hD 5 rfl (at_5 hy15.2) ⟨hy15.2, hy16⟩) rfl rfl hl.1 rfl (lv_room (Nat.le_of_ble_eq_true rfl)) dX8_againstLay_37 ⟨Nat.le_of_ble_eq_true rfl, Nat.le_of_ble_eq_true rfl⟩) hP hD hS hA (fun r18 u17 H locs hv hP hD hS => ?_)
          have h1 := congrArg Prod.fst hv
          have h2 := (congrArg Prod.snd hv).symm
          dsimp only at h1 h2
          subst h1
          subst h2
          refine cAstore_n (ad := ad) (r := (f_Y6_motion S ((grC S x0 2).getD 0))) (i := 3) (lv' := [(3, va_re ad (f_Y6_motion S ((grC S x0 2).getD 0))), (2, va_re ad (f_Y0_placeAt S x0 x1)), (0, .ref (ad x0)), (1, .int x1)]) hx hb dX8_againstLay_40 rfl hl (by decide) (by simp [List.filter, re_cat]) (fun ls_ hl => ?_)
          refine cAload_n (ad := ad) (r := (f_Y6_motion S ((grC S x0 2).getD 0))) hx hb dX8_againstLay_41 rfl (lv_at hl 0 rfl) ?_
          refine cIfnull (ad := ad) (r := (f_Y6_motion S ((grC S x0 2).getD 0))) (tgt := 101) hx hb dX8_againstLay_42 (by decide) (fun c19 => ?_) (fun c19 => ?_)
          · rw [if_pos c19] at hE hp
            exact B_Y8_againstLay_101 x1 (f_Y0_placeAt S x0 x1) (f_Y6_motion S ((grC S x0 2).getD 0)) _ _ _ hE hp hP hD hS (lv_sub hl [2, 3, 1, 0] rfl)
          · rw [if_neg c19] at hE hp
            refine cAload_n (ad := ad) (r := (f_Y6_motion S ((grC S x0 2).getD 0))) hx hb dX8_againstLay_45 rfl (lv_at hl 0 rfl) ?_
            obtain ⟨hy29, hp⟩ := hp
            refine cTop (r := (f_Y6_motion S ((grC S x0 2).getD 0))) hy29.1 ?_
            obtain ⟨hy30, hp⟩ := hp
            refine cGoi (va_runV (As := []) (rest := []) ⟨hx, hb, hml, hown, hts⟩ (c_Y4_amends l G K ad S ((f_Y6_motion S ((grC S x0 2).getD 0)).getD 0) _) (cwV 0 hts (wGV t_ (mw (.methodLink RX8 150 yX4_amends) (List.mem_of_getElem? (i := 20) rfl)) (mw (.instanceMethod yX4_amends) (List.mem_of_getElem? (i := 21) rfl)) (mw (.selects RX4 yX4_amends yX4_amends) (List.mem_of_getElem? (i := 22) rfl)) (mw (.initialized RX4) (List.mem_of_getElem? (i := 23) rfl)) j_Y4_amends) rfl rfl rfl (by decide +kernel) ⟨Nat.le_of_ble_eq_true rfl, Nat.le_of_ble_eq_true rfl⟩) (cPV hK hTE hP hD 3 rfl (at_3 hy29.2) ⟨hy29.2, hy30⟩) rfl rfl hl.1 rfl (lv_room (Nat.le_of_ble_eq_true rfl)) dX8_againstLay_46 ⟨Nat.le_of_ble_eq_true rfl, Nat.le_of_ble_eq_true rfl⟩) hP hD hS hA (fun r32 u31 H locs hv hP hD hS => ?_)
            have h1 := congrArg Prod.fst hv
            have h2 := (congrArg Prod.snd hv).symm
            dsimp only at h1 h2
            subst h1
            subst h2
            refine lv_if_eq (tgt := 101) hx hb dX8_againstLay_49 (by decide) (fun c33 => ?_) (fun c33 => ?_)
            · rw [if_pos c33] at hE hp
              exact B_Y8_againstLay_101 x1 (f_Y0_placeAt S x0 x1) (f_Y6_motion S ((grC S x0 2).getD 0)) _ _ _ hE hp hP hD hS (lv_sub hl [2, 3, 1, 0] rfl)
            · rw [if_neg c33] at hE hp
              refine cAload_n (ad := ad) (r := (f_Y6_motion S ((grC S x0 2).getD 0))) hx hb dX8_againstLay_52 rfl (lv_at hl 0 rfl) ?_
              obtain ⟨hy34, hp⟩ := hp
              refine cTop (r := (f_Y6_motion S ((grC S x0 2).getD 0))) hy34.1 ?_
              refine va_get (D := G) (ci := 3) (v := .int (giC S ((f_Y6_motion S ((grC S x0 2).getD 0)).getD 0) 10)) (C := RX4) (T := TX4) (N := 16) hx hb hts iX4 hown hK hP ((f_Y6_motion S ((grC S x0 2).getD 0)).getD 0) (at_3 hy34.2) rfl 10 (by decide) (hw (.fieldLink RX8 153 "MotionFloor$Motion" "laid" "Z") (List.mem_of_getElem? (i := 24) rfl)) (fun _ h9 => h9) rfl dX8_againstLay_53 ?_
              refine lv_if_ne (tgt := 101) hx hb dX8_againstLay_56 (by decide) (fun c35 => ?_) (fun c35 => ?_)
              · rw [if_neg c35] at hE hp
                exact B_Y8_againstLay_101 x1 (f_Y0_placeAt S x0 x1) (f_Y6_motion S ((grC S x0 2).getD 0)) _ _ _ hE hp hP hD hS (lv_sub hl [2, 3, 1, 0] rfl)
              · rw [if_pos c35] at hE hp
                refine lv_aload_n hx hb dX8_againstLay_59 rfl (lv_at hl 2 rfl) ?_
                refine va_get (D := G) (ci := 0) (v := va_re ad (grC S x0 1)) (C := RX0) (T := TX0) (N := 11) hx hb hts iX0 hown hK hP x0 (at_0 k_x0) rfl 1 (by decide) (hw (.fieldLink RX8 86 "MotionFloor$Assembly" "pending" "LMotionFloor$Pile;") (List.mem_of_getElem? (i := 15) rfl)) (fun _ h9 => h9) rfl dX8_againstLay_60 ?_
                obtain ⟨hy36, hp⟩ := hp
                refine cTop (r := (grC S x0 1)) hy36.1 ?_
                obtain ⟨hy37, hp⟩ := hp
                refine cGoq (va_runV (As := []) (rest := []) ⟨hx, hb, hml, hown, hts⟩ (c_Y5_top l G K ad S ((grC S x0 1).getD 0) _) (cwV 0 hts (wGV t_ (mw (.methodLink RX8 90 yX5_top) (List.mem_of_getElem? (i := 25) rfl)) (mw (.instanceMethod yX5_top) (List.mem_of_getElem? (i := 26) rfl)) (mw (.selects RX5 yX5_top yX5_top) (List.mem_of_getElem? (i := 27) rfl)) (mw (.initialized RX5) (List.mem_of_getElem? (i := 19) rfl)) j_Y5_top) rfl rfl rfl (by decide +kernel) ⟨Nat.le_of_ble_eq_true rfl, Nat.le_of_ble_eq_true rfl⟩) (cPV hK hTE hP hD 4 rfl (at_4 hy36.2) ⟨hy36.2, hy37⟩) rfl rfl hl.1 rfl (lv_room (Nat.le_of_ble_eq_true rfl)) dX8_againstLay_63 ⟨Nat.le_of_ble_eq_true rfl, Nat.le_of_ble_eq_true rfl⟩) hP hD hS hA (fun r39 u38 H locs hv hP hD hS => ?_)
                have h1 := congrArg Prod.fst hv
                have h2 := (congrArg Prod.snd hv).symm
                dsimp only at h1 h2
                subst h1
                subst h2
                refine cAstore (ad := ad) (r := (f_Y5_top S ((grC S x0 1).getD 0))) (i := 4) (lv' := [(4, va_re ad (f_Y5_top S ((grC S x0 1).getD 0))), (3, va_re ad (f_Y6_motion S ((grC S x0 2).getD 0))), (2, va_re ad (f_Y0_placeAt S x0 x1)), (0, .ref (ad x0)), (1, .int x1)]) hx hb dX8_againstLay_66 hl (by decide) (by simp [List.filter, re_cat]) (fun ls_ hl => ?_)
                refine cAload (ad := ad) (r := (f_Y5_top S ((grC S x0 1).getD 0))) hx hb dX8_againstLay_68 (lv_at hl 0 rfl) ?_
                refine cIfnull (ad := ad) (r := (f_Y5_top S ((grC S x0 1).getD 0))) (tgt := 82) hx hb dX8_againstLay_70 (by decide) (fun c40 => ?_) (fun c40 => ?_)
                · rw [if_pos c40] at hE hp
                  exact B_Y8_againstLay_82 x1 (f_Y0_placeAt S x0 x1) (f_Y6_motion S ((grC S x0 2).getD 0)) (f_Y5_top S ((grC S x0 1).getD 0)) _ _ _ hE hp hP hD hS (lv_sub hl [3, 4, 2, 1, 0] rfl)
                · rw [if_neg c40] at hE hp
                  refine cAload_n (ad := ad) (r := (f_Y6_motion S ((grC S x0 2).getD 0))) hx hb dX8_againstLay_73 rfl (lv_at hl 1 rfl) ?_
                  refine cAload (ad := ad) (r := (f_Y5_top S ((grC S x0 1).getD 0))) hx hb dX8_againstLay_74 (lv_at hl 0 rfl) ?_
                  obtain ⟨hy41, hp⟩ := hp
                  refine cTop2 (r := (f_Y6_motion S ((grC S x0 2).getD 0))) hy41.1 ?_
                  obtain ⟨hy42, hp⟩ := hp
                  refine cGoi (va_runV (As := [va_re ad (f_Y5_top S ((grC S x0 1).getD 0))]) (rest := []) ⟨hx, hb, hml, hown, hts⟩ (c_Y4_canBeAbout l G K ad S ((f_Y6_motion S ((grC S x0 2).getD 0)).getD 0) (f_Y5_top S ((grC S x0 1).getD 0)) _) (cwV 1 hts (wGV t_ (mw (.methodLink RX8 173 yX4_canBeAbout) (List.mem_of_getElem? (i := 28) rfl)) (mw (.instanceMethod yX4_canBeAbout) (List.mem_of_getElem? (i := 29) rfl)) (mw (.selects RX4 yX4_canBeAbout yX4_canBeAbout) (List.mem_of_getElem? (i := 30) rfl)) (mw (.initialized RX4) (List.mem_of_getElem? (i := 23) rfl)) j_Y4_canBeAbout) rfl rfl rfl (by decide +kernel) ⟨Nat.le_of_ble_eq_true rfl, Nat.le_of_ble_eq_true rfl⟩) (cPV hK hTE hP hD 3 rfl (at_3 hy41.2) ⟨hy41.2, hy42⟩) rfl rfl hl.1 rfl (lv_room (Nat.le_of_ble_eq_true rfl)) dX8_againstLay_76 ⟨Nat.le_of_ble_eq_true rfl, Nat.le_of_ble_eq_true rfl⟩) hP hD hS hA (fun r44 u43 H locs hv hP hD hS => ?_)
                  have h1 := congrArg Prod.fst hv
                  have h2 := (congrArg Prod.snd hv).symm
                  dsimp only at h1 h2
                  subst h1
                  subst h2
                  exact B_Y8_againstLay_79a x1 (f_Y0_placeAt S x0 x1) (f_Y6_motion S ((grC S x0 2).getD 0)) (f_Y5_top S ((grC S x0 1).getD 0)) (f_Y4_canBeAbout S ((f_Y6_motion S ((grC S x0 2).getD 0)).getD 0) (f_Y5_top S ((grC S x0 1).getD 0))) _ _ _ hE hp hP hD hS (lv_sub hl [3, 4, 2, 1, 0] rfl)
        · rw [if_pos c14] at hE hp
          exact B_Y8_againstLay_30 x1 (f_Y0_placeAt S x0 x1) _ _ _ hE hp hP hD hS (lv_sub hl [1, 2, 0] rfl)
  exact B_M a1 _ _ _ hX hp hP hD hS hl
theorem dX8_againstOnPaper_77 : decode cX8_againstOnPaper 77 = .ok (.ireturn, 1) := by decide +kernel
theorem dX8_againstOnPaper_78 : decode cX8_againstOnPaper 78 = .ok (.aload_n 0, 1) := by decide +kernel
theorem dX8_againstOnPaper_79 : decode cX8_againstOnPaper 79 = .ok (.iload_n 2, 1) := by decide +kernel
theorem dX8_againstOnPaper_80 : decode cX8_againstOnPaper 80 = .ok (.invokestatic 73, 3) := by decide +kernel
theorem dX8_againstTake_0 : decode cX8_againstTake 0 = .ok (.aload_n 0, 1) := by decide +kernel
theorem dX8_againstTake_1 : decode cX8_againstTake 1 = .ok (.iload_n 1, 1) := by decide +kernel
theorem dX8_againstTake_2 : decode cX8_againstTake 2 = .ok (.invokevirtual 166, 3) := by decide +kernel
theorem dX8_againstTake_5 : decode cX8_againstTake 5 = .ok (.astore_n 2, 1) := by decide +kernel
theorem dX8_againstTake_6 : decode cX8_againstTake 6 = .ok (.aload_n 2, 1) := by decide +kernel
theorem dX8_againstTake_7 : decode cX8_againstTake 7 = .ok (.ifnonnull 6, 3) := by decide +kernel
theorem dX8_againstTake_10 : decode cX8_againstTake 10 = .ok (.bipush 9, 2) := by decide +kernel
theorem dX8_againstTake_12 : decode cX8_againstTake 12 = .ok (.ireturn, 1) := by decide +kernel
theorem dX8_againstTake_13 : decode cX8_againstTake 13 = .ok (.aload_n 0, 1) := by decide +kernel
theorem dX8_againstTake_14 : decode cX8_againstTake 14 = .ok (.getfield 141, 3) := by decide +kernel
theorem dX8_againstTake_17 : decode cX8_againstTake 17 = .ok (.invokevirtual 170, 3) := by decide +kernel
theorem dX8_againstTake_20 : decode cX8_againstTake 20 = .ok (.ifCond .eq 10, 3) := by decide +kernel
theorem dX8_againstTake_23 : decode cX8_againstTake 23 = .ok (.aload_n 2, 1) := by decide +kernel
theorem dX8_againstTake_24 : decode cX8_againstTake 24 = .ok (.invokevirtual 170, 3) := by decide +kernel
theorem dX8_againstTake_27 : decode cX8_againstTake 27 = .ok (.ifCond .eq 8, 3) := by decide +kernel
theorem dX8_againstTake_30 : decode cX8_againstTake 30 = .ok (.bipush 11, 2) := by decide +kernel
theorem dX8_againstTake_32 : decode cX8_againstTake 32 = .ok (.goto 4, 3) := by decide +kernel
theorem dX8_againstTake_35 : decode cX8_againstTake 35 = .ok (.iconst 0, 1) := by decide +kernel
theorem dX8_againstTake_36 : decode cX8_againstTake 36 = .ok (.ireturn, 1) := by decide +kernel
set_option maxRecDepth 100000 in
theorem zc264 : wZ (.code yX8_againstTake cX8_againstTake 3 (some .int)) := ⟨wT2 (List.mem_of_getElem? (i := 141) rfl), Or.inl rfl⟩
def b_Y8_againstTake_36 (S : Cst) (x0 : Nat) (x1 : Int32) (x2 : Option Nat) (y0 : Int32) : Int32 := y0
def q_Y8_againstTake_36 (S : Cst) (x0 : Nat) (x1 : Int32) (x2 : Option Nat) (y0 : Int32) : Prop := True
def b_Y8_againstTake_30 (S : Cst) (x0 : Nat) (x1 : Int32) (x2 : Option Nat) : Int32 := (b_Y8_againstTake_36 S x0 x1 x2 11)
def q_Y8_againstTake_30 (S : Cst) (x0 : Nat) (x1 : Int32) (x2 : Option Nat) : Prop := (q_Y8_againstTake_36 S x0 x1 x2 11)
def f_Y8_againstTake (S : Cst) (x0 : Nat) (x1 : Int32) : Int32 := if (f_Y0_placeAt S x0 x1) = none then (9 : Int32) else if (f_Y6_isEmpty S ((grC S x0 2).getD 0)) = 0 then (b_Y8_againstTake_30 S x0 x1 (f_Y0_placeAt S x0 x1)) else if (f_Y6_isEmpty S ((f_Y0_placeAt S x0 x1).getD 0)) = 0 then (b_Y8_againstTake_36 S x0 x1 (f_Y0_placeAt S x0 x1) 0) else (b_Y8_againstTake_30 S x0 x1 (f_Y0_placeAt S x0 x1))
def p_Y8_againstTake (S : Cst) (x0 : Nat) (x1 : Int32) : Prop := (p_Y0_placeAt S x0 x1) ∧ (if (f_Y0_placeAt S x0 x1) = none then True else (iR S (grC S x0 2) 5) ∧ (p_Y6_isEmpty S ((grC S x0 2).getD 0)) ∧ (if (f_Y6_isEmpty S ((grC S x0 2).getD 0)) = 0 then (q_Y8_againstTake_30 S x0 x1 (f_Y0_placeAt S x0 x1)) else (iR S (f_Y0_placeAt S x0 x1) 5) ∧ (p_Y6_isEmpty S ((f_Y0_placeAt S x0 x1).getD 0)) ∧ (if (f_Y6_isEmpty S ((f_Y0_placeAt S x0 x1).getD 0)) = 0 then (q_Y8_againstTake_36 S x0 x1 (f_Y0_placeAt S x0 x1) 0) else (q_Y8_againstTake_30 S x0 x1 (f_Y0_placeAt S x0 x1)))))
def e_Y8_againstTake : List Cond := [.methodLink RX8 166 yX0_placeAt, .instanceMethod yX0_placeAt, .selects RX0 yX0_placeAt yX0_placeAt, .initialized RX0, .fieldLink RX8 141 "MotionFloor$Assembly" "draft" "LMotionFloor$Place;", .methodLink RX8 170 yX6_isEmpty, .instanceMethod yX6_isEmpty, .selects RX6 yX6_isEmpty yX6_isEmpty, .initialized RX6]
def v_Y8_againstTake : List Cond := .code yX8_againstTake cX8_againstTake 3 (some .int) :: (e_Y8_againstTake ++ (wsX00 ++ (v_Y0_placeAt ++ (v_Y6_isEmpty ++ []))))
theorem te_Y8_againstTake : GoodIn lw_tbl e_Y8_againstTake := wGc zc262 (wGc zc261 (wGc zc260 (wGc zc39 (wGc zc232 (wGc zc231 (wGc zc120 (wGc zc119 (wGc zc118 (wG0)))))))))
theorem t_Y8_againstTake : GoodIn lw_tbl v_Y8_againstTake := wGc zc264 (wGa te_Y8_againstTake (wGa zcX0 (wGa t_Y0_placeAt (wGa t_Y6_isEmpty (wG0)))))
set_option maxHeartbeats 4000000 in
set_option maxRecDepth 100000 in
theorem c_Y8_againstTake (l : Launch) (G : va_G) (K : Nat → ClassId) (ad : Nat → Nat) (S : Cst) (x0 : Nat) (a1 : Int32) (sz : Nat) : Met l yX8_againstTake v_Y8_againstTake ({ frames := 1, cells := 0, slots := 0, locals := 21 }) (va_Pc [.ref (ad x0), .int a1] (cSt G K ad sz S (iK S x0 0 ∧ p_Y8_againstTake S x0 a1))) (va_Qi (fun (r : Int32) (u : Cst) => (r, u) = (f_Y8_againstTake S x0 a1, S)) (cBt G K ad (va_A (wsC K ad S) sz)) (va_A (wsC K ad S) sz)) 0 0 (va_A (wsC K ad S) sz) := by
  refine Met.ofW (cc := cX8_againstTake) (maxL := 3) (ret := (some .int)) (by decide) rfl ?_
  intro p e s m args below meth c s₁ B hml hv
  obtain ⟨rfl, ⟨hsz, hP, hK, hD0, hTE⟩, hp⟩ := hv
  obtain ⟨k_x0, hp⟩ := hp
  have hx := B.exec
  have hb := B.bytes
  have hr := B.returns
  have hts := atoms_spec (ws := v_Y8_againstTake) B.pre
  have t_ := t_Y8_againstTake
  have mw : ∀ w ∈ e_Y8_againstTake, w ∈ v_Y8_againstTake := fun w h => List.mem_cons_of_mem _ (List.mem_append_left _ h)
  have hw := fun w (h : w ∈ e_Y8_againstTake) => hts w (mw w h)
  have iX0 : ∀ w ∈ wsX00, w ∈ v_Y8_againstTake := fun w h => List.mem_cons_of_mem _ (List.mem_append_right _ (List.mem_append_left _ h))
  have j_Y0_placeAt : ∀ w ∈ v_Y0_placeAt, w ∈ v_Y8_againstTake := fun w h => List.mem_cons_of_mem _ (List.mem_append_right _ (List.mem_append_right _ (List.mem_append_left _ h)))
  have j_Y6_isEmpty : ∀ w ∈ v_Y6_isEmpty, w ∈ v_Y8_againstTake := fun w h => List.mem_cons_of_mem _ (List.mem_append_right _ (List.mem_append_right _ (List.mem_append_right _ (List.mem_append_left _ h))))
  have hown : s.vm.findClass RX8 = some m.cls := findClass_of_methodNamed B.named
  have hlocks := B.notSynchronized
  subst hsz
  have hD := hD0.self (sz := s.heap.size)
  generalize hAe : va_A (wsC K ad S) s.heap.size = A at hD ⊢
  have hA : ∀ q : Nat, s.heap.size ≤ q → A q := fun q h => by rw [← hAe]; exact Or.inr h
  have hS : va_S A s.heap s.heap [] := va_S.rf
  have hl : lv_has (lg_sl ([.ref (ad x0), .int a1]) ++ List.replicate (3 - (lg_sl ([.ref (ad x0), .int a1])).length) Slot.unset).toArray 3 [(0, .ref (ad x0)), (1, .int a1)] := by
    exact lv_entry ([.ref (ad x0), .int a1]) (n := 3) (Nat.le_of_ble_eq_true rfl)
  rw [lg_entry_eq]
  generalize (lg_sl ([.ref (ad x0), .int a1]) ++ List.replicate (3 - (lg_sl ([.ref (ad x0), .int a1])).length) Slot.unset).toArray = ls_ at hl ⊢
  refine wGen (fun Q hQ => ?_)
  obtain ⟨X, hX⟩ : ∃ X, f_Y8_againstTake S x0 a1 = X := ⟨_, rfl⟩
  have B_Y8_againstTake_36 : ∀ (x1 : Int32) (x2 : Option Nat) (y0 : Int32) (H : Heap) (locs : List Loc) (ls_ : Array Slot), b_Y8_againstTake_36 S x0 x1 x2 y0 = X → q_Y8_againstTake_36 S x0 x1 x2 y0 → va_P G vwCl (wsC K ad S) H → va_D A (wsC K ad S) → va_S A s.heap H locs → lv_has ls_ 3 [(0, .ref (ad x0)), (1, .int x1), (2, va_re ad x2)] → W p l e ({ frames := 1, cells := 0, slots := 0, locals := 21 } : Room) s m #[Value.ref (ad x0), Value.int a1] below meth c H locs 0 0 Q (F0 m 36 ls_ [.int y0]) := by
    intro x1 x2 y0 H locs ls_ hE hp hP hD hS hl
    unfold b_Y8_againstTake_36 at hE
    unfold q_Y8_againstTake_36 at hp
    subst hQ
    exact W.iret (v := y0) hx hb hr (fun t ht hW => ⟨⟨y0, S, rfl, (pair_i (hE.trans hX.symm)), by rw [ht]; exact hP, hD⟩, hS.F ht⟩) hS.2.2 dX8_againstTake_36
  have B_Y8_againstTake_30 : ∀ (x1 : Int32) (x2 : Option Nat) (H : Heap) (locs : List Loc) (ls_ : Array Slot), b_Y8_againstTake_30 S x0 x1 x2 = X → q_Y8_againstTake_30 S x0 x1 x2 → va_P G vwCl (wsC K ad S) H → va_D A (wsC K ad S) → va_S A s.heap H locs → lv_has ls_ 3 [(0, .ref (ad x0)), (1, .int x1), (2, va_re ad x2)] → W p l e ({ frames := 1, cells := 0, slots := 0, locals := 21 } : Room) s m #[Value.ref (ad x0), Value.int a1] below meth c H locs 0 0 Q (F0 m 30 ls_ []) := by
    intro x1 x2 H locs ls_ hE hp hP hD hS hl
    unfold b_Y8_againstTake_30 at hE
    unfold q_Y8_againstTake_30 at hp
    refine lv_bipush (v := 11) hx hb dX8_againstTake_30 (by decide) ?_
    refine lv_goto (tgt := 36) hx hb dX8_againstTake_32 (by decide) ?_
    exact B_Y8_againstTake_36 x1 x2 11 _ _ _ hE hp hP hD hS (lv_sub hl [0, 1, 2] rfl)
  have B_M : ∀ (x1 : Int32) (H : Heap) (locs : List Loc) (ls_ : Array Slot), f_Y8_againstTake S x0 x1 = X → p_Y8_againstTake S x0 x1 → va_P G vwCl (wsC K ad S) H → va_D A (wsC K ad S) → va_S A s.heap H locs → lv_has ls_ 3 [(0, .ref (ad x0)), (1, .int x1)] → W p l e ({ frames := 1, cells := 0, slots := 0, locals := 21 } : Room) s m #[Value.ref (ad x0), Value.int a1] below meth c H locs 0 0 Q (F0 m 0 ls_ []) := by
    intro x1 H locs ls_ hE hp hP hD hS hl
    unfold f_Y8_againstTake at hE
    unfold p_Y8_againstTake at hp
    refine lv_aload_n hx hb dX8_againstTake_0 rfl (lv_at hl 0 rfl) ?_
    refine lv_iload_n hx hb dX8_againstTake_1 rfl (lv_at hl 1 rfl) ?_
    obtain ⟨hy1, hp⟩ := hp
    refine cGoq (va_runV (As := [.int x1]) (rest := []) ⟨hx, hb, hml, hown, hts⟩ (c_Y0_placeAt l G K ad S x0 x1 _) (cwV 1 hts (wGV t_ (mw (.methodLink RX8 166 yX0_placeAt) (List.mem_of_getElem? (i := 0) rfl)) (mw (.instanceMethod yX0_placeAt) (List.mem_of_getElem? (i := 1) rfl)) (mw (.selects RX0 yX0_placeAt yX0_placeAt) (List.mem_of_getElem? (i := 2) rfl)) (mw (.initialized RX0) (List.mem_of_getElem? (i := 3) rfl)) j_Y0_placeAt) rfl rfl rfl (by decide +kernel) ⟨Nat.le_of_ble_eq_true rfl, Nat.le_of_ble_eq_true rfl⟩) (cPV hK hTE hP hD 0 rfl (at_0 k_x0) ⟨k_x0, hy1⟩) rfl rfl hl.1 rfl (lv_room (Nat.le_of_ble_eq_true rfl)) dX8_againstTake_2 ⟨Nat.le_of_ble_eq_true rfl, Nat.le_of_ble_eq_true rfl⟩) hP hD hS hA (fun r3 u2 H locs hv hP hD hS => ?_)
    have h1 := congrArg Prod.fst hv
    have h2 := (congrArg Prod.snd hv).symm
    dsimp only at h1 h2
    subst h1
    subst h2
    refine cAstore_n (ad := ad) (r := (f_Y0_placeAt S x0 x1)) (i := 2) (lv' := [(2, va_re ad (f_Y0_placeAt S x0 x1)), (0, .ref (ad x0)), (1, .int x1)]) hx hb dX8_againstTake_5 rfl hl (by decide) rfl (fun ls_ hl => ?_)
    refine cAload_n (ad := ad) (r := (f_Y0_placeAt S x0 x1)) hx hb dX8_againstTake_6 rfl (lv_at hl 0 rfl) ?_
    refine cIfnonnull (ad := ad) (r := (f_Y0_placeAt S x0 x1)) (tgt := 13) hx hb dX8_againstTake_7 (by decide) (fun c4 => ?_) (fun c4 => ?_)
    · rw [if_pos c4] at hE hp
      refine lv_bipush (v := 9) hx hb dX8_againstTake_10 (by decide) ?_
      subst hQ
      exact W.iret (v := (9 : Int32)) hx hb hr (fun t ht hW => ⟨⟨(9 : Int32), S, rfl, (pair_i (hE.trans hX.symm)), by rw [ht]; exact hP, hD⟩, hS.F ht⟩) hS.2.2 dX8_againstTake_12
    · rw [if_neg c4] at hE hp
      refine lv_aload_n hx hb dX8_againstTake_13 rfl (lv_at hl 1 rfl) ?_
      refine va_get (D := G) (ci := 0) (v := va_re ad (grC S x0 2)) (C := RX0) (T := TX0) (N := 11) hx hb hts iX0 hown hK hP x0 (at_0 k_x0) rfl 2 (by decide) (hw (.fieldLink RX8 141 "MotionFloor$Assembly" "draft" "LMotionFloor$Place;") (List.mem_of_getElem? (i := 4) rfl)) (fun _ h9 => h9) rfl dX8_againstTake_14 ?_
      obtain ⟨hy5, hp⟩ := hp
      refine cTop (r := (grC S x0 2)) hy5.1 ?_
      obtain ⟨hy6, hp⟩ := hp
      refine cGoi (va_runV (As := []) (rest := []) ⟨hx, hb, hml, hown, hts⟩ (c_Y6_isEmpty l G K ad S ((grC S x0 2).getD 0) _) (cwV 0 hts (wGV t_ (mw (.methodLink RX8 170 yX6_isEmpty) (List.mem_of_getElem? (i := 5) rfl)) (mw (.instanceMethod yX6_isEmpty) (List.mem_of_getElem? (i := 6) rfl)) (mw (.selects RX6 yX6_isEmpty yX6_isEmpty) (List.mem_of_getElem? (i := 7) rfl)) (mw (.initialized RX6) (List.mem_of_getElem? (i := 8) rfl)) j_Y6_isEmpty) rfl rfl rfl (by decide +kernel) ⟨Nat.le_of_ble_eq_true rfl, Nat.le_of_ble_eq_true rfl⟩) (cPV hK hTE hP hD 5 rfl (at_5 hy5.2) ⟨hy5.2, hy6⟩) rfl rfl hl.1 rfl (lv_room (Nat.le_of_ble_eq_true rfl)) dX8_againstTake_17 ⟨Nat.le_of_ble_eq_true rfl, Nat.le_of_ble_eq_true rfl⟩) hP hD hS hA (fun r8 u7 H locs hv hP hD hS => ?_)
      have h1 := congrArg Prod.fst hv
      have h2 := (congrArg Prod.snd hv).symm
      dsimp only at h1 h2
      subst h1
      subst h2
      refine lv_if_eq (tgt := 30) hx hb dX8_againstTake_20 (by decide) (fun c9 => ?_) (fun c9 => ?_)
      · rw [if_pos c9] at hE hp
        exact B_Y8_againstTake_30 x1 (f_Y0_placeAt S x0 x1) _ _ _ hE hp hP hD hS (lv_sub hl [1, 2, 0] rfl)
      · rw [if_neg c9] at hE hp
        refine cAload_n (ad := ad) (r := (f_Y0_placeAt S x0 x1)) hx hb dX8_againstTake_23 rfl (lv_at hl 0 rfl) ?_
        obtain ⟨hy10, hp⟩ := hp
        refine cTop (r := (f_Y0_placeAt S x0 x1)) hy10.1 ?_
        obtain ⟨hy11, hp⟩ := hp
        refine cGoi (va_runV (As := []) (rest := []) ⟨hx, hb, hml, hown, hts⟩ (c_Y6_isEmpty l G K ad S ((f_Y0_placeAt S x0 x1).getD 0) _) (cwV 0 hts (wGV t_ (mw (.methodLink RX8 170 yX6_isEmpty) (List.mem_of_getElem? (i := 5) rfl)) (mw (.instanceMethod yX6_isEmpty) (List.mem_of_getElem? (i := 6) rfl)) (mw (.selects RX6 yX6_isEmpty yX6_isEmpty) (List.mem_of_getElem? (i := 7) rfl)) (mw (.initialized RX6) (List.mem_of_getElem? (i := 8) rfl)) j_Y6_isEmpty) rfl rfl rfl (by decide +kernel) ⟨Nat.le_of_ble_eq_true rfl, Nat.le_of_ble_eq_true rfl⟩) (cPV hK hTE hP hD 5 rfl (at_5 hy10.2) ⟨hy10.2, hy11⟩) rfl rfl hl.1 rfl (lv_room (Nat.le_of_ble_eq_true rfl)) dX8_againstTake_24 ⟨Nat.le_of_ble_eq_true rfl, Nat.le_of_ble_eq_true rfl⟩) hP hD hS hA (fun r13 u12 H locs hv hP hD hS => ?_)
        have h1 := congrArg Prod.fst hv
        have h2 := (congrArg Prod.snd hv).symm
        dsimp only at h1 h2
        subst h1
        subst h2
        refine lv_if_eq (tgt := 35) hx hb dX8_againstTake_27 (by decide) (fun c14 => ?_) (fun c14 => ?_)
        · rw [if_pos c14] at hE hp
          refine lv_iconst (v := 0) hx hb dX8_againstTake_35 (by decide) ?_
          exact B_Y8_againstTake_36 x1 (f_Y0_placeAt S x0 x1) 0 _ _ _ hE hp hP hD hS (lv_sub hl [1, 2, 0] rfl)
        · rw [if_neg c14] at hE hp
          exact B_Y8_againstTake_30 x1 (f_Y0_placeAt S x0 x1) _ _ _ hE hp hP hD hS (lv_sub hl [1, 2, 0] rfl)
  exact B_M a1 _ _ _ hX hp hP hD hS hl
theorem dX8_againstOnPaper_83 : decode cX8_againstOnPaper 83 = .ok (.ireturn, 1) := by decide +kernel
theorem dX8_againstOnPaper_84 : decode cX8_againstOnPaper 84 = .ok (.bipush 11, 2) := by decide +kernel
theorem dX8_againstOnPaper_86 : decode cX8_againstOnPaper 86 = .ok (.ireturn, 1) := by decide +kernel
set_option maxRecDepth 100000 in
theorem zc265 : wZ (.static yX8_againstTake) := ⟨wT2 (List.mem_of_getElem? (i := 140) (by decide +kernel)), Or.inl rfl⟩
set_option maxRecDepth 100000 in
theorem zc266 : wZ (.methodLink RX8 73 yX8_againstTake) := ⟨wT2 (List.mem_of_getElem? (i := 139) (by decide +kernel)), Or.inl rfl⟩
set_option maxRecDepth 100000 in
theorem zc267 : wZ (.static yX8_againstLay) := ⟨wT2 (List.mem_of_getElem? (i := 112) (by decide +kernel)), Or.inl rfl⟩
set_option maxRecDepth 100000 in
theorem zc268 : wZ (.methodLink RX8 70 yX8_againstLay) := ⟨wT2 (List.mem_of_getElem? (i := 111) (by decide +kernel)), Or.inl rfl⟩
set_option maxRecDepth 100000 in
theorem zc269 : wZ (.static yX8_againstWord) := ⟨wT2 (List.mem_of_getElem? (i := 106) (by decide +kernel)), Or.inl rfl⟩
set_option maxRecDepth 100000 in
theorem zc270 : wZ (.methodLink RX8 66 yX8_againstWord) := ⟨wT2 (List.mem_of_getElem? (i := 105) (by decide +kernel)), Or.inl rfl⟩
set_option maxRecDepth 100000 in
theorem zc271 : wZ (.static yX8_againstSpan) := ⟨wT2 (List.mem_of_getElem? (i := 94) (by decide +kernel)), Or.inl rfl⟩
set_option maxRecDepth 100000 in
theorem zc272 : wZ (.methodLink RX8 62 yX8_againstSpan) := ⟨wT2 (List.mem_of_getElem? (i := 93) (by decide +kernel)), Or.inl rfl⟩
set_option maxRecDepth 100000 in
theorem zc273 : wZ (.code yX8_againstOnPaper cX8_againstOnPaper 6 (some .int)) := ⟨wT2 (List.mem_of_getElem? (i := 92) rfl), Or.inl rfl⟩
def b_Y8_againstOnPaper_53 (S : Cst) (x0 : Nat) (x1 : Int32) (x2 : Int32) (x3 : Int32) (x4 : Int32) (x5 : Int32) (y0 : Int32) : Int32 := y0
def q_Y8_againstOnPaper_53 (S : Cst) (x0 : Nat) (x1 : Int32) (x2 : Int32) (x3 : Int32) (x4 : Int32) (x5 : Int32) (y0 : Int32) : Prop := True
def b_Y8_againstOnPaper_47 (S : Cst) (x0 : Nat) (x1 : Int32) (x2 : Int32) (x3 : Int32) (x4 : Int32) (x5 : Int32) : Int32 := (b_Y8_againstOnPaper_53 S x0 x1 x2 x3 x4 x5 9)
def q_Y8_againstOnPaper_47 (S : Cst) (x0 : Nat) (x1 : Int32) (x2 : Int32) (x3 : Int32) (x4 : Int32) (x5 : Int32) : Prop := (q_Y8_againstOnPaper_53 S x0 x1 x2 x3 x4 x5 9)
def f_Y8_againstOnPaper (S : Cst) (x0 : Nat) (x1 : Int32) (x2 : Int32) (x3 : Int32) (x4 : Int32) (x5 : Int32) : Int32 := if x1 = 10 then if x2 < 1 then (b_Y8_againstOnPaper_47 S x0 x1 x2 x3 x4 x5) else if x2 ≤ 8 then (b_Y8_againstOnPaper_53 S x0 x1 x2 x3 x4 x5 0) else (b_Y8_againstOnPaper_47 S x0 x1 x2 x3 x4 x5) else if x1 = 11 then (f_Y8_againstSpan S x0 x2 x3) else if x1 = 12 then (f_Y8_againstWord S x0 x2 x3 x4 x5) else if x1 = 13 then (f_Y8_againstLay S x0 x2) else if x1 = 14 then (f_Y8_againstTake S x0 x2) else (11 : Int32)
def p_Y8_againstOnPaper (S : Cst) (x0 : Nat) (x1 : Int32) (x2 : Int32) (x3 : Int32) (x4 : Int32) (x5 : Int32) : Prop := (if x1 = 10 then (if x2 < 1 then (q_Y8_againstOnPaper_47 S x0 x1 x2 x3 x4 x5) else (if x2 ≤ 8 then (q_Y8_againstOnPaper_53 S x0 x1 x2 x3 x4 x5 0) else (q_Y8_againstOnPaper_47 S x0 x1 x2 x3 x4 x5))) else (if x1 = 11 then (p_Y8_againstSpan S x0 x2 x3) ∧ True else (if x1 = 12 then (p_Y8_againstWord S x0 x2 x3 x4 x5) ∧ True else (if x1 = 13 then (p_Y8_againstLay S x0 x2) ∧ True else (if x1 = 14 then (p_Y8_againstTake S x0 x2) ∧ True else True)))))
def e_Y8_againstOnPaper : List Cond := [.methodLink RX8 62 yX8_againstSpan, .static yX8_againstSpan, .initialized RX8, .methodLink RX8 66 yX8_againstWord, .static yX8_againstWord, .methodLink RX8 70 yX8_againstLay, .static yX8_againstLay, .methodLink RX8 73 yX8_againstTake, .static yX8_againstTake]
def v_Y8_againstOnPaper : List Cond := .code yX8_againstOnPaper cX8_againstOnPaper 6 (some .int) :: (e_Y8_againstOnPaper ++ (v_Y8_againstSpan ++ (v_Y8_againstWord ++ (v_Y8_againstLay ++ (v_Y8_againstTake ++ [])))))
theorem te_Y8_againstOnPaper : GoodIn lw_tbl e_Y8_againstOnPaper := wGc zc272 (wGc zc271 (wGc zc157 (wGc zc270 (wGc zc269 (wGc zc268 (wGc zc267 (wGc zc266 (wGc zc265 (wG0)))))))))
theorem t_Y8_againstOnPaper : GoodIn lw_tbl v_Y8_againstOnPaper := wGc zc273 (wGa te_Y8_againstOnPaper (wGa t_Y8_againstSpan (wGa t_Y8_againstWord (wGa t_Y8_againstLay (wGa t_Y8_againstTake (wG0))))))
set_option maxHeartbeats 4000000 in
set_option maxRecDepth 100000 in
theorem c_Y8_againstOnPaper (l : Launch) (G : va_G) (K : Nat → ClassId) (ad : Nat → Nat) (S : Cst) (x0 : Nat) (a1 : Int32) (a2 : Int32) (a3 : Int32) (a4 : Int32) (a5 : Int32) (sz : Nat) : Met l yX8_againstOnPaper v_Y8_againstOnPaper ({ frames := 3, cells := 0, slots := 0, locals := 67 }) (va_Pc [.ref (ad x0), .int a1, .int a2, .int a3, .int a4, .int a5] (cSt G K ad sz S (iK S x0 0 ∧ p_Y8_againstOnPaper S x0 a1 a2 a3 a4 a5))) (va_Qi (fun (r : Int32) (u : Cst) => (r, u) = (f_Y8_againstOnPaper S x0 a1 a2 a3 a4 a5, S)) (cBt G K ad (va_A (wsC K ad S) sz)) (va_A (wsC K ad S) sz)) 0 0 (va_A (wsC K ad S) sz) := by
  refine Met.ofW (cc := cX8_againstOnPaper) (maxL := 6) (ret := (some .int)) (by decide) rfl ?_
  intro p e s m args below meth c s₁ B hml hv
  obtain ⟨rfl, ⟨hsz, hP, hK, hD0, hTE⟩, hp⟩ := hv
  obtain ⟨k_x0, hp⟩ := hp
  have hx := B.exec
  have hb := B.bytes
  have hr := B.returns
  have hts := atoms_spec (ws := v_Y8_againstOnPaper) B.pre
  have t_ := t_Y8_againstOnPaper
  have mw : ∀ w ∈ e_Y8_againstOnPaper, w ∈ v_Y8_againstOnPaper := fun w h => List.mem_cons_of_mem _ (List.mem_append_left _ h)
  have hw := fun w (h : w ∈ e_Y8_againstOnPaper) => hts w (mw w h)
  have j_Y8_againstSpan : ∀ w ∈ v_Y8_againstSpan, w ∈ v_Y8_againstOnPaper := fun w h => List.mem_cons_of_mem _ (List.mem_append_right _ (List.mem_append_left _ h))
  have j_Y8_againstWord : ∀ w ∈ v_Y8_againstWord, w ∈ v_Y8_againstOnPaper := fun w h => List.mem_cons_of_mem _ (List.mem_append_right _ (List.mem_append_right _ (List.mem_append_left _ h)))
  have j_Y8_againstLay : ∀ w ∈ v_Y8_againstLay, w ∈ v_Y8_againstOnPaper := fun w h => List.mem_cons_of_mem _ (List.mem_append_right _ (List.mem_append_right _ (List.mem_append_right _ (List.mem_append_left _ h))))
  have j_Y8_againstTake : ∀ w ∈ v_Y8_againstTake, w ∈ v_Y8_againstOnPaper := fun w h => List.mem_cons_of_mem _ (List.mem_append_right _ (List.mem_append_right _ (List.mem_append_right _ (List.mem_append_right _ (List.mem_append_left _ h)))))
  have hown : s.vm.findClass RX8 = some m.cls := findClass_of_methodNamed B.named
  have hlocks := B.notSynchronized
  subst hsz
  have hD := hD0.self (sz := s.heap.size)
  generalize hAe : va_A (wsC K ad S) s.heap.size = A at hD ⊢
  have hA : ∀ q : Nat, s.heap.size ≤ q → A q := fun q h => by rw [← hAe]; exact Or.inr h
  have hS : va_S A s.heap s.heap [] := va_S.rf
  have hl : lv_has (lg_sl ([.ref (ad x0), .int a1, .int a2, .int a3, .int a4, .int a5]) ++ List.replicate (6 - (lg_sl ([.ref (ad x0), .int a1, .int a2, .int a3, .int a4, .int a5])).length) Slot.unset).toArray 6 [(0, .ref (ad x0)), (1, .int a1), (2, .int a2), (3, .int a3), (4, .int a4), (5, .int a5)] := by
    exact lv_entry ([.ref (ad x0), .int a1, .int a2, .int a3, .int a4, .int a5]) (n := 6) (Nat.le_of_ble_eq_true rfl)
  rw [lg_entry_eq]
  generalize (lg_sl ([.ref (ad x0), .int a1, .int a2, .int a3, .int a4, .int a5]) ++ List.replicate (6 - (lg_sl ([.ref (ad x0), .int a1, .int a2, .int a3, .int a4, .int a5])).length) Slot.unset).toArray = ls_ at hl ⊢
  refine wGen (fun Q hQ => ?_)
  obtain ⟨X, hX⟩ : ∃ X, f_Y8_againstOnPaper S x0 a1 a2 a3 a4 a5 = X := ⟨_, rfl⟩
  have B_Y8_againstOnPaper_53 : ∀ (x1 : Int32) (x2 : Int32) (x3 : Int32) (x4 : Int32) (x5 : Int32) (y0 : Int32) (H : Heap) (locs : List Loc) (ls_ : Array Slot), b_Y8_againstOnPaper_53 S x0 x1 x2 x3 x4 x5 y0 = X → q_Y8_againstOnPaper_53 S x0 x1 x2 x3 x4 x5 y0 → va_P G vwCl (wsC K ad S) H → va_D A (wsC K ad S) → va_S A s.heap H locs → lv_has ls_ 6 [(0, .ref (ad x0)), (1, .int x1), (2, .int x2), (3, .int x3), (4, .int x4), (5, .int x5)] → W p l e ({ frames := 3, cells := 0, slots := 0, locals := 67 } : Room) s m #[Value.ref (ad x0), Value.int a1, Value.int a2, Value.int a3, Value.int a4, Value.int a5] below meth c H locs 0 0 Q (F0 m 53 ls_ [.int y0]) := by
    intro x1 x2 x3 x4 x5 y0 H locs ls_ hE hp hP hD hS hl
    unfold b_Y8_againstOnPaper_53 at hE
    unfold q_Y8_againstOnPaper_53 at hp
    subst hQ
    exact W.iret (v := y0) hx hb hr (fun t ht hW => ⟨⟨y0, S, rfl, (pair_i (hE.trans hX.symm)), by rw [ht]; exact hP, hD⟩, hS.F ht⟩) hS.2.2 dX8_againstOnPaper_53
  have B_Y8_againstOnPaper_47 : ∀ (x1 : Int32) (x2 : Int32) (x3 : Int32) (x4 : Int32) (x5 : Int32) (H : Heap) (locs : List Loc) (ls_ : Array Slot), b_Y8_againstOnPaper_47 S x0 x1 x2 x3 x4 x5 = X → q_Y8_againstOnPaper_47 S x0 x1 x2 x3 x4 x5 → va_P G vwCl (wsC K ad S) H → va_D A (wsC K ad S) → va_S A s.heap H locs → lv_has ls_ 6 [(0, .ref (ad x0)), (1, .int x1), (2, .int x2), (3, .int x3), (4, .int x4), (5, .int x5)] → W p l e ({ frames := 3, cells := 0, slots := 0, locals := 67 } : Room) s m #[Value.ref (ad x0), Value.int a1, Value.int a2, Value.int a3, Value.int a4, Value.int a5] below meth c H locs 0 0 Q (F0 m 47 ls_ []) := by
    intro x1 x2 x3 x4 x5 H locs ls_ hE hp hP hD hS hl
    unfold b_Y8_againstOnPaper_47 at hE
    unfold q_Y8_againstOnPaper_47 at hp
    refine lv_bipush (v := 9) hx hb dX8_againstOnPaper_47 (by decide) ?_
    refine lv_goto (tgt := 53) hx hb dX8_againstOnPaper_49 (by decide) ?_
    exact B_Y8_againstOnPaper_53 x1 x2 x3 x4 x5 9 _ _ _ hE hp hP hD hS (lv_sub hl [0, 1, 2, 3, 4, 5] rfl)
  have B_M : ∀ (x1 : Int32) (x2 : Int32) (x3 : Int32) (x4 : Int32) (x5 : Int32) (H : Heap) (locs : List Loc) (ls_ : Array Slot), f_Y8_againstOnPaper S x0 x1 x2 x3 x4 x5 = X → p_Y8_againstOnPaper S x0 x1 x2 x3 x4 x5 → va_P G vwCl (wsC K ad S) H → va_D A (wsC K ad S) → va_S A s.heap H locs → lv_has ls_ 6 [(0, .ref (ad x0)), (1, .int x1), (2, .int x2), (3, .int x3), (4, .int x4), (5, .int x5)] → W p l e ({ frames := 3, cells := 0, slots := 0, locals := 67 } : Room) s m #[Value.ref (ad x0), Value.int a1, Value.int a2, Value.int a3, Value.int a4, Value.int a5] below meth c H locs 0 0 Q (F0 m 0 ls_ []) := by
    intro x1 x2 x3 x4 x5 H locs ls_ hE hp hP hD hS hl
    unfold f_Y8_againstOnPaper at hE
    unfold p_Y8_againstOnPaper at hp
    refine lv_iload_n hx hb dX8_againstOnPaper_0 rfl (lv_at hl 1 rfl) ?_
    by_cases s10 : x1 = 10
    · rw [if_pos s10] at hE hp
      refine lv_tableIn (off := 35) (tgt := 36) hx hb dX8_againstOnPaper_1 (by rw [s10]; decide) (by rw [s10]; decide) (by rw [s10]; decide) (by decide) ?_
      refine lv_iload_n hx hb dX8_againstOnPaper_36 rfl (lv_at hl 2 rfl) ?_
      refine lv_iconst (v := 1) hx hb dX8_againstOnPaper_37 (by decide) ?_
      refine lv_icmp_lt (tgt := 47) hx hb dX8_againstOnPaper_38 (by decide) (fun c1 => ?_) (fun c1 => ?_)
      · rw [if_pos c1] at hE hp
        exact B_Y8_againstOnPaper_47 x1 x2 x3 x4 x5 _ _ _ hE hp hP hD hS (lv_sub hl [0, 1, 2, 3, 4, 5] rfl)
      · rw [if_neg c1] at hE hp
        refine lv_iload_n hx hb dX8_againstOnPaper_41 rfl (lv_at hl 2 rfl) ?_
        refine lv_bipush (v := 8) hx hb dX8_againstOnPaper_42 (by decide) ?_
        refine lv_icmp_le (tgt := 52) hx hb dX8_againstOnPaper_44 (by decide) (fun c2 => ?_) (fun c2 => ?_)
        · rw [if_pos c2] at hE hp
          refine lv_iconst (v := 0) hx hb dX8_againstOnPaper_52 (by decide) ?_
          exact B_Y8_againstOnPaper_53 x1 x2 x3 x4 x5 0 _ _ _ hE hp hP hD hS (lv_sub hl [0, 1, 2, 3, 4, 5] rfl)
        · rw [if_neg c2] at hE hp
          exact B_Y8_againstOnPaper_47 x1 x2 x3 x4 x5 _ _ _ hE hp hP hD hS (lv_sub hl [0, 1, 2, 3, 4, 5] rfl)
    rw [if_neg s10] at hE hp
    have s10 := wNe (b := 10) rfl (by decide) s10
    by_cases s11 : x1 = 11
    · rw [if_pos s11] at hE hp
      refine lv_tableIn (off := 53) (tgt := 54) hx hb dX8_againstOnPaper_1 (by rw [s11]; decide) (by rw [s11]; decide) (by rw [s11]; decide) (by decide) ?_
      refine lv_aload_n hx hb dX8_againstOnPaper_54 rfl (lv_at hl 0 rfl) ?_
      refine lv_iload_n hx hb dX8_againstOnPaper_55 rfl (lv_at hl 2 rfl) ?_
      refine lv_iload_n hx hb dX8_againstOnPaper_56 rfl (lv_at hl 3 rfl) ?_
      obtain ⟨hy3, hp⟩ := hp
      refine cGoi (va_runS (As := [.ref (ad x0), .int x2, .int x3]) (rest := []) ⟨hx, hb, hml, hown, hts⟩ (c_Y8_againstSpan l G K ad S x0 x2 x3 _) (va_cwS 3 hts (wGS t_ (mw (.methodLink RX8 62 yX8_againstSpan) (List.mem_of_getElem? (i := 0) rfl)) (mw (.static yX8_againstSpan) (List.mem_of_getElem? (i := 1) rfl)) (mw (.initialized RX8) (List.mem_of_getElem? (i := 2) rfl)) j_Y8_againstSpan) rfl rfl rfl (by decide +kernel) ⟨Nat.le_of_ble_eq_true rfl, Nat.le_of_ble_eq_true rfl⟩) (cPS hK hTE hP hD ⟨k_x0, hy3⟩) rfl rfl hl.1 rfl (lv_room (Nat.le_of_ble_eq_true rfl)) dX8_againstOnPaper_57 ⟨Nat.le_of_ble_eq_true rfl, Nat.le_of_ble_eq_true rfl⟩) hP hD hS hA (fun r5 u4 H locs hv hP hD hS => ?_)
      have h1 := congrArg Prod.fst hv
      have h2 := (congrArg Prod.snd hv).symm
      dsimp only at h1 h2
      subst h1
      subst h2
      subst hQ
      exact W.iret (v := (f_Y8_againstSpan S x0 x2 x3)) hx hb hr (fun t ht hW => ⟨⟨(f_Y8_againstSpan S x0 x2 x3), S, rfl, (pair_i (hE.trans hX.symm)), by rw [ht]; exact hP, hD⟩, hS.F ht⟩) hS.2.2 dX8_againstOnPaper_60
    rw [if_neg s11] at hE hp
    have s11 := wNe (b := 11) rfl (by decide) s11
    by_cases s12 : x1 = 12
    · rw [if_pos s12] at hE hp
      refine lv_tableIn (off := 60) (tgt := 61) hx hb dX8_againstOnPaper_1 (by rw [s12]; decide) (by rw [s12]; decide) (by rw [s12]; decide) (by decide) ?_
      refine lv_aload_n hx hb dX8_againstOnPaper_61 rfl (lv_at hl 0 rfl) ?_
      refine lv_iload_n hx hb dX8_againstOnPaper_62 rfl (lv_at hl 2 rfl) ?_
      refine lv_iload_n hx hb dX8_againstOnPaper_63 rfl (lv_at hl 3 rfl) ?_
      refine lv_iload hx hb dX8_againstOnPaper_64 (lv_at hl 4 rfl) ?_
      refine lv_iload hx hb dX8_againstOnPaper_66 (lv_at hl 5 rfl) ?_
      obtain ⟨hy6, hp⟩ := hp
      refine cGoi (va_runS (As := [.ref (ad x0), .int x2, .int x3, .int x4, .int x5]) (rest := []) ⟨hx, hb, hml, hown, hts⟩ (c_Y8_againstWord l G K ad S x0 x2 x3 x4 x5 _) (va_cwS 5 hts (wGS t_ (mw (.methodLink RX8 66 yX8_againstWord) (List.mem_of_getElem? (i := 3) rfl)) (mw (.static yX8_againstWord) (List.mem_of_getElem? (i := 4) rfl)) (mw (.initialized RX8) (List.mem_of_getElem? (i := 2) rfl)) j_Y8_againstWord) rfl rfl rfl (by decide +kernel) ⟨Nat.le_of_ble_eq_true rfl, Nat.le_of_ble_eq_true rfl⟩) (cPS hK hTE hP hD ⟨k_x0, hy6⟩) rfl rfl hl.1 rfl (lv_room (Nat.le_of_ble_eq_true rfl)) dX8_againstOnPaper_68 ⟨Nat.le_of_ble_eq_true rfl, Nat.le_of_ble_eq_true rfl⟩) hP hD hS hA (fun r8 u7 H locs hv hP hD hS => ?_)
      have h1 := congrArg Prod.fst hv
      have h2 := (congrArg Prod.snd hv).symm
      dsimp only at h1 h2
      subst h1
      subst h2
      subst hQ
      exact W.iret (v := (f_Y8_againstWord S x0 x2 x3 x4 x5)) hx hb hr (fun t ht hW => ⟨⟨(f_Y8_againstWord S x0 x2 x3 x4 x5), S, rfl, (pair_i (hE.trans hX.symm)), by rw [ht]; exact hP, hD⟩, hS.F ht⟩) hS.2.2 dX8_againstOnPaper_71
    rw [if_neg s12] at hE hp
    have s12 := wNe (b := 12) rfl (by decide) s12
    by_cases s13 : x1 = 13
    · rw [if_pos s13] at hE hp
      refine lv_tableIn (off := 71) (tgt := 72) hx hb dX8_againstOnPaper_1 (by rw [s13]; decide) (by rw [s13]; decide) (by rw [s13]; decide) (by decide) ?_
      refine lv_aload_n hx hb dX8_againstOnPaper_72 rfl (lv_at hl 0 rfl) ?_
      refine lv_iload_n hx hb dX8_againstOnPaper_73 rfl (lv_at hl 2 rfl) ?_
      obtain ⟨hy9, hp⟩ := hp
      refine cGoi (va_runS (As := [.ref (ad x0), .int x2]) (rest := []) ⟨hx, hb, hml, hown, hts⟩ (c_Y8_againstLay l G K ad S x0 x2 _) (va_cwS 2 hts (wGS t_ (mw (.methodLink RX8 70 yX8_againstLay) (List.mem_of_getElem? (i := 5) rfl)) (mw (.static yX8_againstLay) (List.mem_of_getElem? (i := 6) rfl)) (mw (.initialized RX8) (List.mem_of_getElem? (i := 2) rfl)) j_Y8_againstLay) rfl rfl rfl (by decide +kernel) ⟨Nat.le_of_ble_eq_true rfl, Nat.le_of_ble_eq_true rfl⟩) (cPS hK hTE hP hD ⟨k_x0, hy9⟩) rfl rfl hl.1 rfl (lv_room (Nat.le_of_ble_eq_true rfl)) dX8_againstOnPaper_74 ⟨Nat.le_of_ble_eq_true rfl, Nat.le_of_ble_eq_true rfl⟩) hP hD hS hA (fun r11 u10 H locs hv hP hD hS => ?_)
      have h1 := congrArg Prod.fst hv
      have h2 := (congrArg Prod.snd hv).symm
      dsimp only at h1 h2
      subst h1
      subst h2
      subst hQ
      exact W.iret (v := (f_Y8_againstLay S x0 x2)) hx hb hr (fun t ht hW => ⟨⟨(f_Y8_againstLay S x0 x2), S, rfl, (pair_i (hE.trans hX.symm)), by rw [ht]; exact hP, hD⟩, hS.F ht⟩) hS.2.2 dX8_againstOnPaper_77
    rw [if_neg s13] at hE hp
    have s13 := wNe (b := 13) rfl (by decide) s13
    by_cases s14 : x1 = 14
    · rw [if_pos s14] at hE hp
      refine lv_tableIn (off := 77) (tgt := 78) hx hb dX8_againstOnPaper_1 (by rw [s14]; decide) (by rw [s14]; decide) (by rw [s14]; decide) (by decide) ?_
      refine lv_aload_n hx hb dX8_againstOnPaper_78 rfl (lv_at hl 0 rfl) ?_
      refine lv_iload_n hx hb dX8_againstOnPaper_79 rfl (lv_at hl 2 rfl) ?_
      obtain ⟨hy12, hp⟩ := hp
      refine cGoi (va_runS (As := [.ref (ad x0), .int x2]) (rest := []) ⟨hx, hb, hml, hown, hts⟩ (c_Y8_againstTake l G K ad S x0 x2 _) (va_cwS 2 hts (wGS t_ (mw (.methodLink RX8 73 yX8_againstTake) (List.mem_of_getElem? (i := 7) rfl)) (mw (.static yX8_againstTake) (List.mem_of_getElem? (i := 8) rfl)) (mw (.initialized RX8) (List.mem_of_getElem? (i := 2) rfl)) j_Y8_againstTake) rfl rfl rfl (by decide +kernel) ⟨Nat.le_of_ble_eq_true rfl, Nat.le_of_ble_eq_true rfl⟩) (cPS hK hTE hP hD ⟨k_x0, hy12⟩) rfl rfl hl.1 rfl (lv_room (Nat.le_of_ble_eq_true rfl)) dX8_againstOnPaper_80 ⟨Nat.le_of_ble_eq_true rfl, Nat.le_of_ble_eq_true rfl⟩) hP hD hS hA (fun r14 u13 H locs hv hP hD hS => ?_)
      have h1 := congrArg Prod.fst hv
      have h2 := (congrArg Prod.snd hv).symm
      dsimp only at h1 h2
      subst h1
      subst h2
      subst hQ
      exact W.iret (v := (f_Y8_againstTake S x0 x2)) hx hb hr (fun t ht hW => ⟨⟨(f_Y8_againstTake S x0 x2), S, rfl, (pair_i (hE.trans hX.symm)), by rw [ht]; exact hP, hD⟩, hS.F ht⟩) hS.2.2 dX8_againstOnPaper_83
    rw [if_neg s14] at hE hp
    have s14 := wNe (b := 14) rfl (by decide) s14
    refine lv_tableOut (tgt := 84) hx hb dX8_againstOnPaper_1 (by omega) (by decide) ?_
    refine lv_bipush (v := 11) hx hb dX8_againstOnPaper_84 (by decide) ?_
    subst hQ
    exact W.iret (v := (11 : Int32)) hx hb hr (fun t ht hW => ⟨⟨(11 : Int32), S, rfl, (pair_i (hE.trans hX.symm)), by rw [ht]; exact hP, hD⟩, hS.F ht⟩) hS.2.2 dX8_againstOnPaper_86
  exact B_M a1 a2 a3 a4 a5 _ _ _ hX hp hP hD hS hl
theorem dX8_against_6 : decode cX8_against 6 = .ok (.aload_n 0, 1) := by decide +kernel
theorem dX8_against_7 : decode cX8_against 7 = .ok (.iload_n 1, 1) := by decide +kernel
theorem dX8_against_8 : decode cX8_against 8 = .ok (.iload_n 2, 1) := by decide +kernel
theorem dX8_against_9 : decode cX8_against 9 = .ok (.iload_n 3, 1) := by decide +kernel
theorem dX8_against_10 : decode cX8_against 10 = .ok (.invokestatic 9, 3) := by decide +kernel
theorem dX8_against_35 : decode cX8_against 35 = .ok (.istore 6, 2) := by decide +kernel
theorem dX8_against_37 : decode cX8_against 37 = .ok (.goto 12, 3) := by decide +kernel
theorem dX8_againstOnFloor_0 : decode cX8_againstOnFloor 0 = .ok (.iload_n 1, 1) := by decide +kernel
theorem dX8_againstOnFloor_1 : decode cX8_againstOnFloor 1 = .ok (.tableswitch 179 1 9 #[51, 60, 69, 90, 99, 130, 150, 156, 173], 51) := by decide +kernel
theorem dX8_againstOnFloor_52 : decode cX8_againstOnFloor 52 = .ok (.aload_n 0, 1) := by decide +kernel
theorem dX8_againstOnFloor_53 : decode cX8_againstOnFloor 53 = .ok (.getfield 34, 3) := by decide +kernel
theorem dX8_againstOnFloor_56 : decode cX8_againstOnFloor 56 = .ok (.iload_n 2, 1) := by decide +kernel
theorem dX8_againstOnFloor_57 : decode cX8_againstOnFloor 57 = .ok (.invokestatic 38, 3) := by decide +kernel
theorem dX8_againstThere_0 : decode cX8_againstThere 0 = .ok (.aload_n 0, 1) := by decide +kernel
theorem dX8_againstThere_1 : decode cX8_againstThere 1 = .ok (.iload_n 1, 1) := by decide +kernel
theorem dX8_againstThere_2 : decode cX8_againstThere 2 = .ok (.invokevirtual 114, 3) := by decide +kernel
theorem dX8_againstThere_5 : decode cX8_againstThere 5 = .ok (.ifCond .ne 6, 3) := by decide +kernel
theorem dX8_againstThere_8 : decode cX8_againstThere 8 = .ok (.bipush 9, 2) := by decide +kernel
theorem dX8_againstThere_10 : decode cX8_againstThere 10 = .ok (.ireturn, 1) := by decide +kernel
theorem dX8_againstThere_11 : decode cX8_againstThere 11 = .ok (.aload_n 0, 1) := by decide +kernel
theorem dX8_againstThere_12 : decode cX8_againstThere 12 = .ok (.iload_n 1, 1) := by decide +kernel
theorem dX8_againstThere_13 : decode cX8_againstThere 13 = .ok (.invokevirtual 82, 3) := by decide +kernel
theorem dX8_againstThere_16 : decode cX8_againstThere 16 = .ok (.ifCond .eq 8, 3) := by decide +kernel
theorem dX8_againstThere_19 : decode cX8_againstThere 19 = .ok (.bipush 11, 2) := by decide +kernel
theorem dX8_againstThere_21 : decode cX8_againstThere 21 = .ok (.goto 4, 3) := by decide +kernel
theorem dX8_againstThere_24 : decode cX8_againstThere 24 = .ok (.iconst 0, 1) := by decide +kernel
theorem dX8_againstThere_25 : decode cX8_againstThere 25 = .ok (.ireturn, 1) := by decide +kernel
set_option maxRecDepth 100000 in
theorem zc274 : wZ (.code yX8_againstThere cX8_againstThere 2 (some .int)) := ⟨wT2 (List.mem_of_getElem? (i := 57) rfl), Or.inl rfl⟩
def b_Y8_againstThere_25 (S : Cst) (x0 : Nat) (x1 : Int32) (y0 : Int32) : Int32 := y0
def q_Y8_againstThere_25 (S : Cst) (x0 : Nat) (x1 : Int32) (y0 : Int32) : Prop := True
def f_Y8_againstThere (S : Cst) (x0 : Nat) (x1 : Int32) : Int32 := if (f_Y2_has S x0 x1) = 0 then (9 : Int32) else if (f_Y2_isThere S x0 x1) = 0 then (b_Y8_againstThere_25 S x0 x1 0) else (b_Y8_againstThere_25 S x0 x1 11)
def p_Y8_againstThere (S : Cst) (x0 : Nat) (x1 : Int32) : Prop := (p_Y2_has S x0 x1) ∧ (if (f_Y2_has S x0 x1) = 0 then True else (p_Y2_isThere S x0 x1) ∧ (if (f_Y2_isThere S x0 x1) = 0 then (q_Y8_againstThere_25 S x0 x1 0) else (q_Y8_againstThere_25 S x0 x1 11)))
def e_Y8_againstThere : List Cond := [.methodLink RX8 114 yX2_has, .instanceMethod yX2_has, .selects RX2 yX2_has yX2_has, .initialized RX2, .methodLink RX8 82 yX2_isThere, .instanceMethod yX2_isThere, .selects RX2 yX2_isThere yX2_isThere]
def v_Y8_againstThere : List Cond := .code yX8_againstThere cX8_againstThere 2 (some .int) :: (e_Y8_againstThere ++ (v_Y2_has ++ (v_Y2_isThere ++ [])))
theorem te_Y8_againstThere : GoodIn lw_tbl e_Y8_againstThere := wGc zc151 (wGc zc150 (wGc zc149 (wGc zc77 (wGc zc148 (wGc zc147 (wGc zc146 (wG0)))))))
theorem t_Y8_againstThere : GoodIn lw_tbl v_Y8_againstThere := wGc zc274 (wGa te_Y8_againstThere (wGa t_Y2_has (wGa t_Y2_isThere (wG0))))
set_option maxHeartbeats 4000000 in
set_option maxRecDepth 100000 in
theorem c_Y8_againstThere (l : Launch) (G : va_G) (K : Nat → ClassId) (ad : Nat → Nat) (S : Cst) (x0 : Nat) (a1 : Int32) (sz : Nat) : Met l yX8_againstThere v_Y8_againstThere ({ frames := 1, cells := 0, slots := 0, locals := 21 }) (va_Pc [.ref (ad x0), .int a1] (cSt G K ad sz S (iK S x0 1 ∧ p_Y8_againstThere S x0 a1))) (va_Qi (fun (r : Int32) (u : Cst) => (r, u) = (f_Y8_againstThere S x0 a1, S)) (cBt G K ad (va_A (wsC K ad S) sz)) (va_A (wsC K ad S) sz)) 0 0 (va_A (wsC K ad S) sz) := by
  refine Met.ofW (cc := cX8_againstThere) (maxL := 2) (ret := (some .int)) (by decide) rfl ?_
  intro p e s m args below meth c s₁ B hml hv
  obtain ⟨rfl, ⟨hsz, hP, hK, hD0, hTE⟩, hp⟩ := hv
  obtain ⟨k_x0, hp⟩ := hp
  have hx := B.exec
  have hb := B.bytes
  have hr := B.returns
  have hts := atoms_spec (ws := v_Y8_againstThere) B.pre
  have t_ := t_Y8_againstThere
  have mw : ∀ w ∈ e_Y8_againstThere, w ∈ v_Y8_againstThere := fun w h => List.mem_cons_of_mem _ (List.mem_append_left _ h)
  have hw := fun w (h : w ∈ e_Y8_againstThere) => hts w (mw w h)
  have j_Y2_has : ∀ w ∈ v_Y2_has, w ∈ v_Y8_againstThere := fun w h => List.mem_cons_of_mem _ (List.mem_append_right _ (List.mem_append_left _ h))
  have j_Y2_isThere : ∀ w ∈ v_Y2_isThere, w ∈ v_Y8_againstThere := fun w h => List.mem_cons_of_mem _ (List.mem_append_right _ (List.mem_append_right _ (List.mem_append_left _ h)))
  have hown : s.vm.findClass RX8 = some m.cls := findClass_of_methodNamed B.named
  have hlocks := B.notSynchronized
  subst hsz
  have hD := hD0.self (sz := s.heap.size)
  generalize hAe : va_A (wsC K ad S) s.heap.size = A at hD ⊢
  have hA : ∀ q : Nat, s.heap.size ≤ q → A q := fun q h => by rw [← hAe]; exact Or.inr h
  have hS : va_S A s.heap s.heap [] := va_S.rf
  have hl : lv_has (lg_sl ([.ref (ad x0), .int a1]) ++ List.replicate (2 - (lg_sl ([.ref (ad x0), .int a1])).length) Slot.unset).toArray 2 [(0, .ref (ad x0)), (1, .int a1)] := by
    exact lv_entry ([.ref (ad x0), .int a1]) (n := 2) (Nat.le_of_ble_eq_true rfl)
  rw [lg_entry_eq]
  generalize (lg_sl ([.ref (ad x0), .int a1]) ++ List.replicate (2 - (lg_sl ([.ref (ad x0), .int a1])).length) Slot.unset).toArray = ls_ at hl ⊢
  refine wGen (fun Q hQ => ?_)
  obtain ⟨X, hX⟩ : ∃ X, f_Y8_againstThere S x0 a1 = X := ⟨_, rfl⟩
  have B_Y8_againstThere_25 : ∀ (x1 : Int32) (y0 : Int32) (H : Heap) (locs : List Loc) (ls_ : Array Slot), b_Y8_againstThere_25 S x0 x1 y0 = X → q_Y8_againstThere_25 S x0 x1 y0 → va_P G vwCl (wsC K ad S) H → va_D A (wsC K ad S) → va_S A s.heap H locs → lv_has ls_ 2 [(0, .ref (ad x0)), (1, .int x1)] → W p l e ({ frames := 1, cells := 0, slots := 0, locals := 21 } : Room) s m #[Value.ref (ad x0), Value.int a1] below meth c H locs 0 0 Q (F0 m 25 ls_ [.int y0]) := by
    intro x1 y0 H locs ls_ hE hp hP hD hS hl
    unfold b_Y8_againstThere_25 at hE
    unfold q_Y8_againstThere_25 at hp
    subst hQ
    exact W.iret (v := y0) hx hb hr (fun t ht hW => ⟨⟨y0, S, rfl, (pair_i (hE.trans hX.symm)), by rw [ht]; exact hP, hD⟩, hS.F ht⟩) hS.2.2 dX8_againstThere_25
  have B_M : ∀ (x1 : Int32) (H : Heap) (locs : List Loc) (ls_ : Array Slot), f_Y8_againstThere S x0 x1 = X → p_Y8_againstThere S x0 x1 → va_P G vwCl (wsC K ad S) H → va_D A (wsC K ad S) → va_S A s.heap H locs → lv_has ls_ 2 [(0, .ref (ad x0)), (1, .int x1)] → W p l e ({ frames := 1, cells := 0, slots := 0, locals := 21 } : Room) s m #[Value.ref (ad x0), Value.int a1] below meth c H locs 0 0 Q (F0 m 0 ls_ []) := by
    intro x1 H locs ls_ hE hp hP hD hS hl
    unfold f_Y8_againstThere at hE
    unfold p_Y8_againstThere at hp
    refine lv_aload_n hx hb dX8_againstThere_0 rfl (lv_at hl 0 rfl) ?_
    refine lv_iload_n hx hb dX8_againstThere_1 rfl (lv_at hl 1 rfl) ?_
    obtain ⟨hy1, hp⟩ := hp
    refine cGoi (va_runV (As := [.int x1]) (rest := []) ⟨hx, hb, hml, hown, hts⟩ (c_Y2_has l G K ad S x0 x1 _) (cwV 1 hts (wGV t_ (mw (.methodLink RX8 114 yX2_has) (List.mem_of_getElem? (i := 0) rfl)) (mw (.instanceMethod yX2_has) (List.mem_of_getElem? (i := 1) rfl)) (mw (.selects RX2 yX2_has yX2_has) (List.mem_of_getElem? (i := 2) rfl)) (mw (.initialized RX2) (List.mem_of_getElem? (i := 3) rfl)) j_Y2_has) rfl rfl rfl (by decide +kernel) ⟨Nat.le_of_ble_eq_true rfl, Nat.le_of_ble_eq_true rfl⟩) (cPV hK hTE hP hD 1 rfl (at_1 k_x0) ⟨k_x0, hy1⟩) rfl rfl hl.1 rfl (lv_room (Nat.le_of_ble_eq_true rfl)) dX8_againstThere_2 ⟨Nat.le_of_ble_eq_true rfl, Nat.le_of_ble_eq_true rfl⟩) hP hD hS hA (fun r3 u2 H locs hv hP hD hS => ?_)
    have h1 := congrArg Prod.fst hv
    have h2 := (congrArg Prod.snd hv).symm
    dsimp only at h1 h2
    subst h1
    subst h2
    refine lv_if_ne (tgt := 11) hx hb dX8_againstThere_5 (by decide) (fun c4 => ?_) (fun c4 => ?_)
    · rw [if_neg c4] at hE hp
      refine lv_aload_n hx hb dX8_againstThere_11 rfl (lv_at hl 0 rfl) ?_
      refine lv_iload_n hx hb dX8_againstThere_12 rfl (lv_at hl 1 rfl) ?_
      obtain ⟨hy5, hp⟩ := hp
      refine cGoi (va_runV (As := [.int x1]) (rest := []) ⟨hx, hb, hml, hown, hts⟩ (c_Y2_isThere l G K ad S x0 x1 _) (cwV 1 hts (wGV t_ (mw (.methodLink RX8 82 yX2_isThere) (List.mem_of_getElem? (i := 4) rfl)) (mw (.instanceMethod yX2_isThere) (List.mem_of_getElem? (i := 5) rfl)) (mw (.selects RX2 yX2_isThere yX2_isThere) (List.mem_of_getElem? (i := 6) rfl)) (mw (.initialized RX2) (List.mem_of_getElem? (i := 3) rfl)) j_Y2_isThere) rfl rfl rfl (by decide +kernel) ⟨Nat.le_of_ble_eq_true rfl, Nat.le_of_ble_eq_true rfl⟩) (cPV hK hTE hP hD 1 rfl (at_1 k_x0) ⟨k_x0, hy5⟩) rfl rfl hl.1 rfl (lv_room (Nat.le_of_ble_eq_true rfl)) dX8_againstThere_13 ⟨Nat.le_of_ble_eq_true rfl, Nat.le_of_ble_eq_true rfl⟩) hP hD hS hA (fun r7 u6 H locs hv hP hD hS => ?_)
      have h1 := congrArg Prod.fst hv
      have h2 := (congrArg Prod.snd hv).symm
      dsimp only at h1 h2
      subst h1
      subst h2
      refine lv_if_eq (tgt := 24) hx hb dX8_againstThere_16 (by decide) (fun c8 => ?_) (fun c8 => ?_)
      · rw [if_pos c8] at hE hp
        refine lv_iconst (v := 0) hx hb dX8_againstThere_24 (by decide) ?_
        exact B_Y8_againstThere_25 x1 0 _ _ _ hE hp hP hD hS (lv_sub hl [0, 1] rfl)
      · rw [if_neg c8] at hE hp
        refine lv_bipush (v := 11) hx hb dX8_againstThere_19 (by decide) ?_
        refine lv_goto (tgt := 25) hx hb dX8_againstThere_21 (by decide) ?_
        exact B_Y8_againstThere_25 x1 11 _ _ _ hE hp hP hD hS (lv_sub hl [0, 1] rfl)
    · rw [if_pos c4] at hE hp
      refine lv_bipush (v := 9) hx hb dX8_againstThere_8 (by decide) ?_
      subst hQ
      exact W.iret (v := (9 : Int32)) hx hb hr (fun t ht hW => ⟨⟨(9 : Int32), S, rfl, (pair_i (hE.trans hX.symm)), by rw [ht]; exact hP, hD⟩, hS.F ht⟩) hS.2.2 dX8_againstThere_10
  exact B_M a1 _ _ _ hX hp hP hD hS hl
theorem dX8_againstOnFloor_60 : decode cX8_againstOnFloor 60 = .ok (.ireturn, 1) := by decide +kernel
theorem dX8_againstOnFloor_61 : decode cX8_againstOnFloor 61 = .ok (.aload_n 0, 1) := by decide +kernel
theorem dX8_againstOnFloor_62 : decode cX8_againstOnFloor 62 = .ok (.getfield 34, 3) := by decide +kernel
theorem dX8_againstOnFloor_65 : decode cX8_againstOnFloor 65 = .ok (.iload_n 2, 1) := by decide +kernel
theorem dX8_againstOnFloor_66 : decode cX8_againstOnFloor 66 = .ok (.invokestatic 42, 3) := by decide +kernel
theorem dX8_againstOnFloor_69 : decode cX8_againstOnFloor 69 = .ok (.ireturn, 1) := by decide +kernel
theorem dX8_againstOnFloor_70 : decode cX8_againstOnFloor 70 = .ok (.aload_n 0, 1) := by decide +kernel
theorem dX8_againstOnFloor_71 : decode cX8_againstOnFloor 71 = .ok (.iload_n 2, 1) := by decide +kernel
theorem dX8_againstOnFloor_72 : decode cX8_againstOnFloor 72 = .ok (.ifCond .lt 14, 3) := by decide +kernel
theorem dX8_againstOnFloor_86 : decode cX8_againstOnFloor 86 = .ok (.iconst 0, 1) := by decide +kernel
theorem dX8_againstOnFloor_87 : decode cX8_againstOnFloor 87 = .ok (.invokestatic 45, 3) := by decide +kernel
theorem dX8_againstSetting_0 : decode cX8_againstSetting 0 = .ok (.iload_n 1, 1) := by decide +kernel
theorem dX8_againstSetting_1 : decode cX8_againstSetting 1 = .ok (.ifCond .ne 6, 3) := by decide +kernel
theorem dX8_againstSetting_4 : decode cX8_againstSetting 4 = .ok (.bipush 9, 2) := by decide +kernel
theorem dX8_againstSetting_6 : decode cX8_againstSetting 6 = .ok (.ireturn, 1) := by decide +kernel
theorem dX8_againstSetting_7 : decode cX8_againstSetting 7 = .ok (.aload_n 0, 1) := by decide +kernel
theorem dX8_againstSetting_8 : decode cX8_againstSetting 8 = .ok (.getfield 86, 3) := by decide +kernel
theorem dX8_againstSetting_11 : decode cX8_againstSetting 11 = .ok (.getfield 117, 3) := by decide +kernel
theorem dX8_againstSetting_14 : decode cX8_againstSetting 14 = .ok (.ifCond .le 8, 3) := by decide +kernel
theorem dX8_againstSetting_17 : decode cX8_againstSetting 17 = .ok (.bipush 11, 2) := by decide +kernel
theorem dX8_againstSetting_19 : decode cX8_againstSetting 19 = .ok (.goto 4, 3) := by decide +kernel
theorem dX8_againstSetting_22 : decode cX8_againstSetting 22 = .ok (.iconst 0, 1) := by decide +kernel
theorem dX8_againstSetting_23 : decode cX8_againstSetting 23 = .ok (.ireturn, 1) := by decide +kernel
set_option maxRecDepth 100000 in
theorem zc275 : wZ (.code yX8_againstSetting cX8_againstSetting 2 (some .int)) := ⟨wT2 (List.mem_of_getElem? (i := 71) rfl), Or.inl rfl⟩
def b_Y8_againstSetting_23 (S : Cst) (x0 : Nat) (x1 : Int32) (y0 : Int32) : Int32 := y0
def q_Y8_againstSetting_23 (S : Cst) (x0 : Nat) (x1 : Int32) (y0 : Int32) : Prop := True
def f_Y8_againstSetting (S : Cst) (x0 : Nat) (x1 : Int32) : Int32 := if x1 = 0 then (9 : Int32) else if (giC S ((grC S x0 1).getD 0) 1) ≤ 0 then (b_Y8_againstSetting_23 S x0 x1 0) else (b_Y8_againstSetting_23 S x0 x1 11)
def p_Y8_againstSetting (S : Cst) (x0 : Nat) (x1 : Int32) : Prop := (if x1 = 0 then True else (iR S (grC S x0 1) 4) ∧ (if (giC S ((grC S x0 1).getD 0) 1) ≤ 0 then (q_Y8_againstSetting_23 S x0 x1 0) else (q_Y8_againstSetting_23 S x0 x1 11)))
def e_Y8_againstSetting : List Cond := [.fieldLink RX8 86 "MotionFloor$Assembly" "pending" "LMotionFloor$Pile;", .fieldLink RX8 117 "MotionFloor$Pile" "size" "I"]
def v_Y8_againstSetting : List Cond := .code yX8_againstSetting cX8_againstSetting 2 (some .int) :: (e_Y8_againstSetting ++ (wsX00 ++ (wsX50 ++ [])))
theorem te_Y8_againstSetting : GoodIn lw_tbl e_Y8_againstSetting := wGc zc164 (wGc zc163 (wG0))
theorem t_Y8_againstSetting : GoodIn lw_tbl v_Y8_againstSetting := wGc zc275 (wGa te_Y8_againstSetting (wGa zcX0 (wGa zcX5 (wG0))))
set_option maxHeartbeats 4000000 in
set_option maxRecDepth 100000 in
theorem c_Y8_againstSetting (l : Launch) (G : va_G) (K : Nat → ClassId) (ad : Nat → Nat) (S : Cst) (x0 : Nat) (a1 : Int32) (sz : Nat) : Met l yX8_againstSetting v_Y8_againstSetting ({ frames := 0, cells := 0, slots := 0, locals := 0 }) (va_Pc [.ref (ad x0), .int a1] (cSt G K ad sz S (iK S x0 0 ∧ p_Y8_againstSetting S x0 a1))) (va_Qi (fun (r : Int32) (u : Cst) => (r, u) = (f_Y8_againstSetting S x0 a1, S)) (cBt G K ad (va_A (wsC K ad S) sz)) (va_A (wsC K ad S) sz)) 0 0 (va_A (wsC K ad S) sz) := by
  refine Met.ofW (cc := cX8_againstSetting) (maxL := 2) (ret := (some .int)) (by decide) rfl ?_
  intro p e s m args below meth c s₁ B hml hv
  obtain ⟨rfl, ⟨hsz, hP, hK, hD0, hTE⟩, hp⟩ := hv
  obtain ⟨k_x0, hp⟩ := hp
  have hx := B.exec
  have hb := B.bytes
  have hr := B.returns
  have hts := atoms_spec (ws := v_Y8_againstSetting) B.pre
  have t_ := t_Y8_againstSetting
  have mw : ∀ w ∈ e_Y8_againstSetting, w ∈ v_Y8_againstSetting := fun w h => List.mem_cons_of_mem _ (List.mem_append_left _ h)
  have hw := fun w (h : w ∈ e_Y8_againstSetting) => hts w (mw w h)
  have iX0 : ∀ w ∈ wsX00, w ∈ v_Y8_againstSetting := fun w h => List.mem_cons_of_mem _ (List.mem_append_right _ (List.mem_append_left _ h))
  have iX5 : ∀ w ∈ wsX50, w ∈ v_Y8_againstSetting := fun w h => List.mem_cons_of_mem _ (List.mem_append_right _ (List.mem_append_right _ (List.mem_append_left _ h)))
  have hown : s.vm.findClass RX8 = some m.cls := findClass_of_methodNamed B.named
  have hlocks := B.notSynchronized
  subst hsz
  have hD := hD0.self (sz := s.heap.size)
  generalize hAe : va_A (wsC K ad S) s.heap.size = A at hD ⊢
  have hA : ∀ q : Nat, s.heap.size ≤ q → A q := fun q h => by rw [← hAe]; exact Or.inr h
  have hS : va_S A s.heap s.heap [] := va_S.rf
  have hl : lv_has (lg_sl ([.ref (ad x0), .int a1]) ++ List.replicate (2 - (lg_sl ([.ref (ad x0), .int a1])).length) Slot.unset).toArray 2 [(0, .ref (ad x0)), (1, .int a1)] := by
    exact lv_entry ([.ref (ad x0), .int a1]) (n := 2) (Nat.le_of_ble_eq_true rfl)
  rw [lg_entry_eq]
  generalize (lg_sl ([.ref (ad x0), .int a1]) ++ List.replicate (2 - (lg_sl ([.ref (ad x0), .int a1])).length) Slot.unset).toArray = ls_ at hl ⊢
  refine wGen (fun Q hQ => ?_)
  obtain ⟨X, hX⟩ : ∃ X, f_Y8_againstSetting S x0 a1 = X := ⟨_, rfl⟩
  have B_Y8_againstSetting_23 : ∀ (x1 : Int32) (y0 : Int32) (H : Heap) (locs : List Loc) (ls_ : Array Slot), b_Y8_againstSetting_23 S x0 x1 y0 = X → q_Y8_againstSetting_23 S x0 x1 y0 → va_P G vwCl (wsC K ad S) H → va_D A (wsC K ad S) → va_S A s.heap H locs → lv_has ls_ 2 [(0, .ref (ad x0)), (1, .int x1)] → W p l e ({ frames := 0, cells := 0, slots := 0, locals := 0 } : Room) s m #[Value.ref (ad x0), Value.int a1] below meth c H locs 0 0 Q (F0 m 23 ls_ [.int y0]) := by
    intro x1 y0 H locs ls_ hE hp hP hD hS hl
    unfold b_Y8_againstSetting_23 at hE
    unfold q_Y8_againstSetting_23 at hp
    subst hQ
    exact W.iret (v := y0) hx hb hr (fun t ht hW => ⟨⟨y0, S, rfl, (pair_i (hE.trans hX.symm)), by rw [ht]; exact hP, hD⟩, hS.F ht⟩) hS.2.2 dX8_againstSetting_23
  have B_M : ∀ (x1 : Int32) (H : Heap) (locs : List Loc) (ls_ : Array Slot), f_Y8_againstSetting S x0 x1 = X → p_Y8_againstSetting S x0 x1 → va_P G vwCl (wsC K ad S) H → va_D A (wsC K ad S) → va_S A s.heap H locs → lv_has ls_ 2 [(0, .ref (ad x0)), (1, .int x1)] → W p l e ({ frames := 0, cells := 0, slots := 0, locals := 0 } : Room) s m #[Value.ref (ad x0), Value.int a1] below meth c H locs 0 0 Q (F0 m 0 ls_ []) := by
    intro x1 H locs ls_ hE hp hP hD hS hl
    unfold f_Y8_againstSetting at hE
    unfold p_Y8_againstSetting at hp
    refine lv_iload_n hx hb dX8_againstSetting_0 rfl (lv_at hl 1 rfl) ?_
    refine lv_if_ne (tgt := 7) hx hb dX8_againstSetting_1 (by decide) (fun c1 => ?_) (fun c1 => ?_)
    · rw [if_neg c1] at hE hp
      refine lv_aload_n hx hb dX8_againstSetting_7 rfl (lv_at hl 0 rfl) ?_
      refine va_get (D := G) (ci := 0) (v := va_re ad (grC S x0 1)) (C := RX0) (T := TX0) (N := 11) hx hb hts iX0 hown hK hP x0 (at_0 k_x0) rfl 1 (by decide) (hw (.fieldLink RX8 86 "MotionFloor$Assembly" "pending" "LMotionFloor$Pile;") (List.mem_of_getElem? (i := 0) rfl)) (fun _ h9 => h9) rfl dX8_againstSetting_8 ?_
      obtain ⟨hy2, hp⟩ := hp
      refine cTop (r := (grC S x0 1)) hy2.1 ?_
      refine va_get (D := G) (ci := 4) (v := .int (giC S ((grC S x0 1).getD 0) 1)) (C := RX5) (T := TX5) (N := 2) hx hb hts iX5 hown hK hP ((grC S x0 1).getD 0) (at_4 hy2.2) rfl 1 (by decide) (hw (.fieldLink RX8 117 "MotionFloor$Pile" "size" "I") (List.mem_of_getElem? (i := 1) rfl)) (fun _ h9 => h9) rfl dX8_againstSetting_11 ?_
      refine lv_if_le (tgt := 22) hx hb dX8_againstSetting_14 (by decide) (fun c3 => ?_) (fun c3 => ?_)
      · rw [if_pos c3] at hE hp
        refine lv_iconst (v := 0) hx hb dX8_againstSetting_22 (by decide) ?_
        exact B_Y8_againstSetting_23 x1 0 _ _ _ hE hp hP hD hS (lv_sub hl [0, 1] rfl)
      · rw [if_neg c3] at hE hp
        refine lv_bipush (v := 11) hx hb dX8_againstSetting_17 (by decide) ?_
        refine lv_goto (tgt := 23) hx hb dX8_againstSetting_19 (by decide) ?_
        exact B_Y8_againstSetting_23 x1 11 _ _ _ hE hp hP hD hS (lv_sub hl [0, 1] rfl)
    · rw [if_pos c1] at hE hp
      refine lv_bipush (v := 9) hx hb dX8_againstSetting_4 (by decide) ?_
      subst hQ
      exact W.iret (v := (9 : Int32)) hx hb hr (fun t ht hW => ⟨⟨(9 : Int32), S, rfl, (pair_i (hE.trans hX.symm)), by rw [ht]; exact hP, hD⟩, hS.F ht⟩) hS.2.2 dX8_againstSetting_6
  exact B_M a1 _ _ _ hX hp hP hD hS hl
theorem dX8_againstFloor_0 : decode cX8_againstFloor 0 = .ok (.aload_n 0, 1) := by decide +kernel
theorem dX8_againstFloor_1 : decode cX8_againstFloor 1 = .ok (.getfield 34, 3) := by decide +kernel
theorem dX8_againstFloor_4 : decode cX8_againstFloor 4 = .ok (.iload_n 1, 1) := by decide +kernel
theorem dX8_againstFloor_5 : decode cX8_againstFloor 5 = .ok (.invokestatic 42, 3) := by decide +kernel
theorem dX8_againstFloor_8 : decode cX8_againstFloor 8 = .ok (.istore_n 2, 1) := by decide +kernel
theorem dX8_againstFloor_9 : decode cX8_againstFloor 9 = .ok (.iload_n 2, 1) := by decide +kernel
theorem dX8_againstFloor_10 : decode cX8_againstFloor 10 = .ok (.ifCond .eq 5, 3) := by decide +kernel
theorem dX8_againstFloor_13 : decode cX8_againstFloor 13 = .ok (.iload_n 2, 1) := by decide +kernel
theorem dX8_againstFloor_14 : decode cX8_againstFloor 14 = .ok (.ireturn, 1) := by decide +kernel
theorem dX8_againstFloor_15 : decode cX8_againstFloor 15 = .ok (.iload_n 1, 1) := by decide +kernel
theorem dX8_againstFloor_16 : decode cX8_againstFloor 16 = .ok (.aload_n 0, 1) := by decide +kernel
theorem dX8_againstFloor_17 : decode cX8_againstFloor 17 = .ok (.getfield 34, 3) := by decide +kernel
theorem dX8_againstFloor_20 : decode cX8_againstFloor 20 = .ok (.getfield 79, 3) := by decide +kernel
theorem dX8_againstFloor_23 : decode cX8_againstFloor 23 = .ok (.if_icmp .eq 14, 3) := by decide +kernel
theorem dX8_againstFloor_26 : decode cX8_againstFloor 26 = .ok (.aload_n 0, 1) := by decide +kernel
theorem dX8_againstFloor_27 : decode cX8_againstFloor 27 = .ok (.getfield 34, 3) := by decide +kernel
theorem dX8_againstFloor_30 : decode cX8_againstFloor 30 = .ok (.getfield 53, 3) := by decide +kernel
theorem dX8_againstFloor_33 : decode cX8_againstFloor 33 = .ok (.iconst (-1), 1) := by decide +kernel
theorem dX8_againstFloor_34 : decode cX8_againstFloor 34 = .ok (.if_icmp .eq 5, 3) := by decide +kernel
theorem dX8_againstFloor_37 : decode cX8_againstFloor 37 = .ok (.iconst 2, 1) := by decide +kernel
theorem dX8_againstFloor_38 : decode cX8_againstFloor 38 = .ok (.ireturn, 1) := by decide +kernel
theorem dX8_againstFloor_39 : decode cX8_againstFloor 39 = .ok (.aload_n 0, 1) := by decide +kernel
theorem dX8_againstFloor_40 : decode cX8_againstFloor 40 = .ok (.getfield 86, 3) := by decide +kernel
theorem dX8_againstFloor_43 : decode cX8_againstFloor 43 = .ok (.invokevirtual 90, 3) := by decide +kernel
theorem dX8_againstFloor_46 : decode cX8_againstFloor 46 = .ok (.astore_n 3, 1) := by decide +kernel
theorem dX8_againstFloor_47 : decode cX8_againstFloor 47 = .ok (.aload_n 3, 1) := by decide +kernel
theorem dX8_againstFloor_48 : decode cX8_againstFloor 48 = .ok (.ifnonnull 5, 3) := by decide +kernel
theorem dX8_againstFloor_51 : decode cX8_againstFloor 51 = .ok (.iconst 0, 1) := by decide +kernel
theorem dX8_againstFloor_52 : decode cX8_againstFloor 52 = .ok (.ireturn, 1) := by decide +kernel
theorem dX8_againstFloor_53 : decode cX8_againstFloor 53 = .ok (.aload_n 0, 1) := by decide +kernel
theorem dX8_againstFloor_54 : decode cX8_againstFloor 54 = .ok (.getfield 34, 3) := by decide +kernel
theorem dX8_againstFloor_57 : decode cX8_againstFloor 57 = .ok (.getfield 120, 3) := by decide +kernel
theorem dX8_againstFloor_60 : decode cX8_againstFloor 60 = .ok (.ifCond .eq 21, 3) := by decide +kernel
theorem dX8_againstFloor_63 : decode cX8_againstFloor 63 = .ok (.aload_n 3, 1) := by decide +kernel
theorem dX8_againstFloor_64 : decode cX8_againstFloor 64 = .ok (.getfield 123, 3) := by decide +kernel
theorem dX8_againstFloor_67 : decode cX8_againstFloor 67 = .ok (.aload_n 0, 1) := by decide +kernel
theorem dX8_againstFloor_68 : decode cX8_againstFloor 68 = .ok (.getfield 34, 3) := by decide +kernel
theorem dX8_againstFloor_71 : decode cX8_againstFloor 71 = .ok (.getfield 120, 3) := by decide +kernel
theorem dX8_againstFloor_74 : decode cX8_againstFloor 74 = .ok (.if_icmp .lt 7, 3) := by decide +kernel
theorem dX8_againstFloor_77 : decode cX8_againstFloor 77 = .ok (.iconst 1, 1) := by decide +kernel
theorem dX8_againstFloor_78 : decode cX8_againstFloor 78 = .ok (.goto 4, 3) := by decide +kernel
theorem dX8_againstFloor_81 : decode cX8_againstFloor 81 = .ok (.iconst 0, 1) := by decide +kernel
theorem dX8_againstFloor_82 : decode cX8_againstFloor 82 = .ok (.istore 4, 2) := by decide +kernel
theorem dX8_againstFloor_84 : decode cX8_againstFloor 84 = .ok (.aload_n 3, 1) := by decide +kernel
theorem dX8_againstFloor_85 : decode cX8_againstFloor 85 = .ok (.getfield 128, 3) := by decide +kernel
theorem dX8_againstFloor_88 : decode cX8_againstFloor 88 = .ok (.bipush 6, 2) := by decide +kernel
theorem dX8_againstFloor_90 : decode cX8_againstFloor 90 = .ok (.if_icmp .eq 15, 3) := by decide +kernel
theorem dX8_againstFloor_93 : decode cX8_againstFloor 93 = .ok (.aload_n 3, 1) := by decide +kernel
theorem dX8_againstFloor_94 : decode cX8_againstFloor 94 = .ok (.getfield 131, 3) := by decide +kernel
theorem dX8_againstFloor_97 : decode cX8_againstFloor 97 = .ok (.ifCond .ne 8, 3) := by decide +kernel
theorem dX8_againstFloor_100 : decode cX8_againstFloor 100 = .ok (.iload 4, 2) := by decide +kernel
theorem dX8_againstFloor_102 : decode cX8_againstFloor 102 = .ok (.ifCond .eq 8, 3) := by decide +kernel
theorem dX8_againstFloor_105 : decode cX8_againstFloor 105 = .ok (.bipush 6, 2) := by decide +kernel
theorem dX8_againstFloor_107 : decode cX8_againstFloor 107 = .ok (.goto 4, 3) := by decide +kernel
theorem dX8_againstFloor_110 : decode cX8_againstFloor 110 = .ok (.iconst 0, 1) := by decide +kernel
theorem dX8_againstFloor_111 : decode cX8_againstFloor 111 = .ok (.ireturn, 1) := by decide +kernel
theorem dX8_againstOnFloor_75 : decode cX8_againstOnFloor 75 = .ok (.iload_n 2, 1) := by decide +kernel
theorem dX8_againstOnFloor_76 : decode cX8_againstOnFloor 76 = .ok (.sipush 200, 3) := by decide +kernel
theorem dX8_againstOnFloor_79 : decode cX8_againstOnFloor 79 = .ok (.if_icmp .gt 7, 3) := by decide +kernel
theorem dX8_againstOnFloor_82 : decode cX8_againstOnFloor 82 = .ok (.iconst 1, 1) := by decide +kernel
theorem dX8_againstOnFloor_83 : decode cX8_againstOnFloor 83 = .ok (.goto 4, 3) := by decide +kernel
theorem dX8_againstOnFloor_90 : decode cX8_againstOnFloor 90 = .ok (.ireturn, 1) := by decide +kernel
theorem dX8_againstOnFloor_91 : decode cX8_againstOnFloor 91 = .ok (.aload_n 0, 1) := by decide +kernel
theorem dX8_againstOnFloor_92 : decode cX8_againstOnFloor 92 = .ok (.getfield 34, 3) := by decide +kernel
theorem dX8_againstOnFloor_95 : decode cX8_againstOnFloor 95 = .ok (.iload_n 2, 1) := by decide +kernel
theorem dX8_againstOnFloor_96 : decode cX8_againstOnFloor 96 = .ok (.invokestatic 42, 3) := by decide +kernel
theorem dX8_againstOnFloor_99 : decode cX8_againstOnFloor 99 = .ok (.ireturn, 1) := by decide +kernel
theorem dX8_againstOnFloor_100 : decode cX8_againstOnFloor 100 = .ok (.aload_n 0, 1) := by decide +kernel
theorem dX8_againstOnFloor_101 : decode cX8_againstOnFloor 101 = .ok (.iload_n 2, 1) := by decide +kernel
theorem dX8_againstOnFloor_102 : decode cX8_againstOnFloor 102 = .ok (.iconst 1, 1) := by decide +kernel
theorem dX8_againstOnFloor_103 : decode cX8_againstOnFloor 103 = .ok (.if_icmp .lt 23, 3) := by decide +kernel
theorem dX8_againstOnFloor_106 : decode cX8_againstOnFloor 106 = .ok (.iload_n 2, 1) := by decide +kernel
theorem dX8_againstOnFloor_107 : decode cX8_againstOnFloor 107 = .ok (.bipush 8, 2) := by decide +kernel
theorem dX8_againstOnFloor_109 : decode cX8_againstOnFloor 109 = .ok (.if_icmp .gt 17, 3) := by decide +kernel
theorem dX8_againstOnFloor_112 : decode cX8_againstOnFloor 112 = .ok (.iload_n 3, 1) := by decide +kernel
theorem dX8_againstOnFloor_113 : decode cX8_againstOnFloor 113 = .ok (.iconst 1, 1) := by decide +kernel
theorem dX8_againstOnFloor_114 : decode cX8_againstOnFloor 114 = .ok (.if_icmp .lt 12, 3) := by decide +kernel
theorem dX8_againstOnFloor_117 : decode cX8_againstOnFloor 117 = .ok (.iload_n 3, 1) := by decide +kernel
theorem dX8_againstOnFloor_118 : decode cX8_againstOnFloor 118 = .ok (.iconst 3, 1) := by decide +kernel
theorem dX8_againstOnFloor_119 : decode cX8_againstOnFloor 119 = .ok (.if_icmp .gt 7, 3) := by decide +kernel
theorem dX8_againstOnFloor_122 : decode cX8_againstOnFloor 122 = .ok (.iconst 1, 1) := by decide +kernel
theorem dX8_againstOnFloor_123 : decode cX8_againstOnFloor 123 = .ok (.goto 4, 3) := by decide +kernel
theorem dX8_againstOnFloor_126 : decode cX8_againstOnFloor 126 = .ok (.iconst 0, 1) := by decide +kernel
theorem dX8_againstOnFloor_127 : decode cX8_againstOnFloor 127 = .ok (.invokestatic 45, 3) := by decide +kernel
theorem dX8_againstOnFloor_130 : decode cX8_againstOnFloor 130 = .ok (.ireturn, 1) := by decide +kernel
theorem dX8_againstOnFloor_131 : decode cX8_againstOnFloor 131 = .ok (.aload_n 0, 1) := by decide +kernel
theorem dX8_againstOnFloor_132 : decode cX8_againstOnFloor 132 = .ok (.iload_n 2, 1) := by decide +kernel
theorem dX8_againstOnFloor_133 : decode cX8_againstOnFloor 133 = .ok (.ifCond .lt 13, 3) := by decide +kernel
theorem dX8_againstOnFloor_136 : decode cX8_againstOnFloor 136 = .ok (.iload_n 2, 1) := by decide +kernel
theorem dX8_againstOnFloor_137 : decode cX8_againstOnFloor 137 = .ok (.bipush 99, 2) := by decide +kernel
theorem dX8_againstOnFloor_139 : decode cX8_againstOnFloor 139 = .ok (.if_icmp .gt 7, 3) := by decide +kernel
theorem dX8_againstOnFloor_142 : decode cX8_againstOnFloor 142 = .ok (.iconst 1, 1) := by decide +kernel
theorem dX8_againstOnFloor_143 : decode cX8_againstOnFloor 143 = .ok (.goto 4, 3) := by decide +kernel
theorem dX8_againstOnFloor_146 : decode cX8_againstOnFloor 146 = .ok (.iconst 0, 1) := by decide +kernel
theorem dX8_againstOnFloor_147 : decode cX8_againstOnFloor 147 = .ok (.invokestatic 45, 3) := by decide +kernel
theorem dX8_againstOnFloor_150 : decode cX8_againstOnFloor 150 = .ok (.ireturn, 1) := by decide +kernel
theorem dX8_againstOnFloor_151 : decode cX8_againstOnFloor 151 = .ok (.aload_n 0, 1) := by decide +kernel
theorem dX8_againstOnFloor_152 : decode cX8_againstOnFloor 152 = .ok (.iload_n 2, 1) := by decide +kernel
theorem dX8_againstOnFloor_153 : decode cX8_againstOnFloor 153 = .ok (.invokestatic 49, 3) := by decide +kernel
set_option maxRecDepth 100000 in
theorem zc276 : wZ (.fieldLink RX8 123 "MotionFloor$Motion" "floors" "I") := ⟨wT3 (List.mem_of_getElem? (i := 30) (by decide +kernel)), Or.inl rfl⟩
set_option maxRecDepth 100000 in
theorem zc277 : wZ (.fieldLink RX8 131 "MotionFloor$Motion" "closed" "Z") := ⟨wT3 (List.mem_of_getElem? (i := 35) (by decide +kernel)), Or.inl rfl⟩
set_option maxRecDepth 100000 in
theorem zc278 : wZ (.fieldLink RX8 120 "MotionFloor$House" "limit" "I") := ⟨wT1 (List.mem_of_getElem? (i := 51) (by decide +kernel)), Or.inl rfl⟩
set_option maxRecDepth 100000 in
theorem zc279 : wZ (.fieldLink RX8 53 "MotionFloor$House" "speaker" "I") := ⟨wT1 (List.mem_of_getElem? (i := 56) (by decide +kernel)), Or.inl rfl⟩
set_option maxRecDepth 100000 in
theorem zc280 : wZ (.code yX8_againstFloor cX8_againstFloor 5 (some .int)) := ⟨wT2 (List.mem_of_getElem? (i := 74) rfl), Or.inl rfl⟩
def b_Y8_againstFloor_37 (S : Cst) (x0 : Nat) (x1 : Int32) (x2 : Int32) : Int32 := (2 : Int32)
def q_Y8_againstFloor_37 (S : Cst) (x0 : Nat) (x1 : Int32) (x2 : Int32) : Prop := True
def b_Y8_againstFloor_111 (S : Cst) (x0 : Nat) (x1 : Int32) (x2 : Int32) (x3 : Option Nat) (x4 : Int32) (y0 : Int32) : Int32 := y0
def q_Y8_againstFloor_111 (S : Cst) (x0 : Nat) (x1 : Int32) (x2 : Int32) (x3 : Option Nat) (x4 : Int32) (y0 : Int32) : Prop := True
def b_Y8_againstFloor_105 (S : Cst) (x0 : Nat) (x1 : Int32) (x2 : Int32) (x3 : Option Nat) (x4 : Int32) : Int32 := (b_Y8_againstFloor_111 S x0 x1 x2 x3 x4 6)
def q_Y8_againstFloor_105 (S : Cst) (x0 : Nat) (x1 : Int32) (x2 : Int32) (x3 : Option Nat) (x4 : Int32) : Prop := (q_Y8_againstFloor_111 S x0 x1 x2 x3 x4 6)
def b_Y8_againstFloor_82 (S : Cst) (x0 : Nat) (x1 : Int32) (x2 : Int32) (x3 : Option Nat) (y0 : Int32) : Int32 := if (giC S (x3.getD 0) 2) = 6 then (b_Y8_againstFloor_105 S x0 x1 x2 x3 y0) else if (giC S (x3.getD 0) 7) = 0 then if y0 = 0 then (b_Y8_againstFloor_111 S x0 x1 x2 x3 y0 0) else (b_Y8_againstFloor_105 S x0 x1 x2 x3 y0) else (b_Y8_againstFloor_105 S x0 x1 x2 x3 y0)
def q_Y8_againstFloor_82 (S : Cst) (x0 : Nat) (x1 : Int32) (x2 : Int32) (x3 : Option Nat) (y0 : Int32) : Prop := (iR S x3 3) ∧ (if (giC S (x3.getD 0) 2) = 6 then (q_Y8_againstFloor_105 S x0 x1 x2 x3 y0) else (iR S x3 3) ∧ (if (giC S (x3.getD 0) 7) = 0 then (if y0 = 0 then (q_Y8_againstFloor_111 S x0 x1 x2 x3 y0 0) else (q_Y8_againstFloor_105 S x0 x1 x2 x3 y0)) else (q_Y8_againstFloor_105 S x0 x1 x2 x3 y0)))
def b_Y8_againstFloor_81 (S : Cst) (x0 : Nat) (x1 : Int32) (x2 : Int32) (x3 : Option Nat) : Int32 := (b_Y8_againstFloor_82 S x0 x1 x2 x3 0)
def q_Y8_againstFloor_81 (S : Cst) (x0 : Nat) (x1 : Int32) (x2 : Int32) (x3 : Option Nat) : Prop := (q_Y8_againstFloor_82 S x0 x1 x2 x3 0)
def f_Y8_againstFloor (S : Cst) (x0 : Nat) (x1 : Int32) : Int32 := if (f_Y8_againstAbsent S ((grC S x0 0).getD 0) x1) = 0 then if x1 = (giC S ((grC S x0 0).getD 0) 3) then (b_Y8_againstFloor_37 S x0 x1 (f_Y8_againstAbsent S ((grC S x0 0).getD 0) x1)) else if (giC S ((grC S x0 0).getD 0) 6) = (-1) then if (f_Y5_top S ((grC S x0 1).getD 0)) = none then (0 : Int32) else if (giC S ((grC S x0 0).getD 0) 5) = 0 then (b_Y8_againstFloor_81 S x0 x1 (f_Y8_againstAbsent S ((grC S x0 0).getD 0) x1) (f_Y5_top S ((grC S x0 1).getD 0))) else if (giC S ((f_Y5_top S ((grC S x0 1).getD 0)).getD 0) 5) < (giC S ((grC S x0 0).getD 0) 5) then (b_Y8_againstFloor_81 S x0 x1 (f_Y8_againstAbsent S ((grC S x0 0).getD 0) x1) (f_Y5_top S ((grC S x0 1).getD 0))) else (b_Y8_againstFloor_82 S x0 x1 (f_Y8_againstAbsent S ((grC S x0 0).getD 0) x1) (f_Y5_top S ((grC S x0 1).getD 0)) 1) else (b_Y8_againstFloor_37 S x0 x1 (f_Y8_againstAbsent S ((grC S x0 0).getD 0) x1)) else (f_Y8_againstAbsent S ((grC S x0 0).getD 0) x1)
def p_Y8_againstFloor (S : Cst) (x0 : Nat) (x1 : Int32) : Prop := (iR S (grC S x0 0) 1) ∧ (p_Y8_againstAbsent S ((grC S x0 0).getD 0) x1) ∧ (if (f_Y8_againstAbsent S ((grC S x0 0).getD 0) x1) = 0 then (iR S (grC S x0 0) 1) ∧ (if x1 = (giC S ((grC S x0 0).getD 0) 3) then (q_Y8_againstFloor_37 S x0 x1 (f_Y8_againstAbsent S ((grC S x0 0).getD 0) x1)) else (iR S (grC S x0 0) 1) ∧ (if (giC S ((grC S x0 0).getD 0) 6) = (-1) then (iR S (grC S x0 1) 4) ∧ (p_Y5_top S ((grC S x0 1).getD 0)) ∧ (if (f_Y5_top S ((grC S x0 1).getD 0)) = none then True else (iR S (grC S x0 0) 1) ∧ (if (giC S ((grC S x0 0).getD 0) 5) = 0 then (q_Y8_againstFloor_81 S x0 x1 (f_Y8_againstAbsent S ((grC S x0 0).getD 0) x1) (f_Y5_top S ((grC S x0 1).getD 0))) else (iR S (f_Y5_top S ((grC S x0 1).getD 0)) 3) ∧ (iR S (grC S x0 0) 1) ∧ (if (giC S ((f_Y5_top S ((grC S x0 1).getD 0)).getD 0) 5) < (giC S ((grC S x0 0).getD 0) 5) then (q_Y8_againstFloor_81 S x0 x1 (f_Y8_againstAbsent S ((grC S x0 0).getD 0) x1) (f_Y5_top S ((grC S x0 1).getD 0))) else (q_Y8_againstFloor_82 S x0 x1 (f_Y8_againstAbsent S ((grC S x0 0).getD 0) x1) (f_Y5_top S ((grC S x0 1).getD 0)) 1)))) else (q_Y8_againstFloor_37 S x0 x1 (f_Y8_againstAbsent S ((grC S x0 0).getD 0) x1)))) else True)
def e_Y8_againstFloor : List Cond := [.fieldLink RX8 34 "MotionFloor$Assembly" "house" "LMotionFloor$House;", .methodLink RX8 42 yX8_againstAbsent, .static yX8_againstAbsent, .initialized RX8, .fieldLink RX8 79 "MotionFloor$House" "chair" "I", .fieldLink RX8 53 "MotionFloor$House" "speaker" "I", .fieldLink RX8 86 "MotionFloor$Assembly" "pending" "LMotionFloor$Pile;", .methodLink RX8 90 yX5_top, .instanceMethod yX5_top, .selects RX5 yX5_top yX5_top, .initialized RX5, .fieldLink RX8 120 "MotionFloor$House" "limit" "I", .fieldLink RX8 128 "MotionFloor$Motion" "kind" "I", .fieldLink RX8 131 "MotionFloor$Motion" "closed" "Z", .fieldLink RX8 123 "MotionFloor$Motion" "floors" "I"]
def v_Y8_againstFloor : List Cond := .code yX8_againstFloor cX8_againstFloor 5 (some .int) :: (e_Y8_againstFloor ++ (wsX00 ++ (wsX20 ++ (wsX40 ++ (v_Y8_againstAbsent ++ (v_Y5_top ++ []))))))
theorem te_Y8_againstFloor : GoodIn lw_tbl e_Y8_againstFloor := wGc zc224 (wGc zc159 (wGc zc158 (wGc zc157 (wGc zc153 (wGc zc279 (wGc zc164 (wGc zc229 (wGc zc228 (wGc zc227 (wGc zc34 (wGc zc278 (wGc zc155 (wGc zc277 (wGc zc276 (wG0)))))))))))))))
theorem t_Y8_againstFloor : GoodIn lw_tbl v_Y8_againstFloor := wGc zc280 (wGa te_Y8_againstFloor (wGa zcX0 (wGa zcX2 (wGa zcX4 (wGa t_Y8_againstAbsent (wGa t_Y5_top (wG0)))))))
set_option maxHeartbeats 4000000 in
set_option maxRecDepth 100000 in
theorem c_Y8_againstFloor (l : Launch) (G : va_G) (K : Nat → ClassId) (ad : Nat → Nat) (S : Cst) (x0 : Nat) (a1 : Int32) (sz : Nat) : Met l yX8_againstFloor v_Y8_againstFloor ({ frames := 2, cells := 0, slots := 0, locals := 42 }) (va_Pc [.ref (ad x0), .int a1] (cSt G K ad sz S (iK S x0 0 ∧ p_Y8_againstFloor S x0 a1))) (va_Qi (fun (r : Int32) (u : Cst) => (r, u) = (f_Y8_againstFloor S x0 a1, S)) (cBt G K ad (va_A (wsC K ad S) sz)) (va_A (wsC K ad S) sz)) 0 0 (va_A (wsC K ad S) sz) := by
  refine Met.ofW (cc := cX8_againstFloor) (maxL := 5) (ret := (some .int)) (by decide) rfl ?_
  intro p e s m args below meth c s₁ B hml hv
  obtain ⟨rfl, ⟨hsz, hP, hK, hD0, hTE⟩, hp⟩ := hv
  obtain ⟨k_x0, hp⟩ := hp
  have hx := B.exec
  have hb := B.bytes
  have hr := B.returns
  have hts := atoms_spec (ws := v_Y8_againstFloor) B.pre
  have t_ := t_Y8_againstFloor
  have mw : ∀ w ∈ e_Y8_againstFloor, w ∈ v_Y8_againstFloor := fun w h => List.mem_cons_of_mem _ (List.mem_append_left _ h)
  have hw := fun w (h : w ∈ e_Y8_againstFloor) => hts w (mw w h)
  have iX0 : ∀ w ∈ wsX00, w ∈ v_Y8_againstFloor := fun w h => List.mem_cons_of_mem _ (List.mem_append_right _ (List.mem_append_left _ h))
  have iX2 : ∀ w ∈ wsX20, w ∈ v_Y8_againstFloor := fun w h => List.mem_cons_of_mem _ (List.mem_append_right _ (List.mem_append_right _ (List.mem_append_left _ h)))
  have iX4 : ∀ w ∈ wsX40, w ∈ v_Y8_againstFloor := fun w h => List.mem_cons_of_mem _ (List.mem_append_right _ (List.mem_append_right _ (List.mem_append_right _ (List.mem_append_left _ h))))
  have j_Y8_againstAbsent : ∀ w ∈ v_Y8_againstAbsent, w ∈ v_Y8_againstFloor := fun w h => List.mem_cons_of_mem _ (List.mem_append_right _ (List.mem_append_right _ (List.mem_append_right _ (List.mem_append_right _ (List.mem_append_left _ h)))))
  have j_Y5_top : ∀ w ∈ v_Y5_top, w ∈ v_Y8_againstFloor := fun w h => List.mem_cons_of_mem _ (List.mem_append_right _ (List.mem_append_right _ (List.mem_append_right _ (List.mem_append_right _ (List.mem_append_right _ (List.mem_append_left _ h))))))
  have hown : s.vm.findClass RX8 = some m.cls := findClass_of_methodNamed B.named
  have hlocks := B.notSynchronized
  subst hsz
  have hD := hD0.self (sz := s.heap.size)
  generalize hAe : va_A (wsC K ad S) s.heap.size = A at hD ⊢
  have hA : ∀ q : Nat, s.heap.size ≤ q → A q := fun q h => by rw [← hAe]; exact Or.inr h
  have hS : va_S A s.heap s.heap [] := va_S.rf
  have hl : lv_has (lg_sl ([.ref (ad x0), .int a1]) ++ List.replicate (5 - (lg_sl ([.ref (ad x0), .int a1])).length) Slot.unset).toArray 5 [(0, .ref (ad x0)), (1, .int a1)] := by
    exact lv_entry ([.ref (ad x0), .int a1]) (n := 5) (Nat.le_of_ble_eq_true rfl)
  rw [lg_entry_eq]
  generalize (lg_sl ([.ref (ad x0), .int a1]) ++ List.replicate (5 - (lg_sl ([.ref (ad x0), .int a1])).length) Slot.unset).toArray = ls_ at hl ⊢
  refine wGen (fun Q hQ => ?_)
  obtain ⟨X, hX⟩ : ∃ X, f_Y8_againstFloor S x0 a1 = X := ⟨_, rfl⟩
  have B_Y8_againstFloor_37 : ∀ (x1 : Int32) (x2 : Int32) (H : Heap) (locs : List Loc) (ls_ : Array Slot), b_Y8_againstFloor_37 S x0 x1 x2 = X → q_Y8_againstFloor_37 S x0 x1 x2 → va_P G vwCl (wsC K ad S) H → va_D A (wsC K ad S) → va_S A s.heap H locs → lv_has ls_ 5 [(0, .ref (ad x0)), (1, .int x1), (2, .int x2)] → W p l e ({ frames := 2, cells := 0, slots := 0, locals := 42 } : Room) s m #[Value.ref (ad x0), Value.int a1] below meth c H locs 0 0 Q (F0 m 37 ls_ []) := by
    intro x1 x2 H locs ls_ hE hp hP hD hS hl
    unfold b_Y8_againstFloor_37 at hE
    unfold q_Y8_againstFloor_37 at hp
    refine lv_iconst (v := 2) hx hb dX8_againstFloor_37 (by decide) ?_
    subst hQ
    exact W.iret (v := (2 : Int32)) hx hb hr (fun t ht hW => ⟨⟨(2 : Int32), S, rfl, (pair_i (hE.trans hX.symm)), by rw [ht]; exact hP, hD⟩, hS.F ht⟩) hS.2.2 dX8_againstFloor_38
  have B_Y8_againstFloor_111 : ∀ (x1 : Int32) (x2 : Int32) (x3 : Option Nat) (x4 : Int32) (y0 : Int32) (H : Heap) (locs : List Loc) (ls_ : Array Slot), b_Y8_againstFloor_111 S x0 x1 x2 x3 x4 y0 = X → q_Y8_againstFloor_111 S x0 x1 x2 x3 x4 y0 → va_P G vwCl (wsC K ad S) H → va_D A (wsC K ad S) → va_S A s.heap H locs → lv_has ls_ 5 [(0, .ref (ad x0)), (1, .int x1), (2, .int x2), (3, va_re ad x3), (4, .int x4)] → W p l e ({ frames := 2, cells := 0, slots := 0, locals := 42 } : Room) s m #[Value.ref (ad x0), Value.int a1] below meth c H locs 0 0 Q (F0 m 111 ls_ [.int y0]) := by
    intro x1 x2 x3 x4 y0 H locs ls_ hE hp hP hD hS hl
    unfold b_Y8_againstFloor_111 at hE
    unfold q_Y8_againstFloor_111 at hp
    subst hQ
    exact W.iret (v := y0) hx hb hr (fun t ht hW => ⟨⟨y0, S, rfl, (pair_i (hE.trans hX.symm)), by rw [ht]; exact hP, hD⟩, hS.F ht⟩) hS.2.2 dX8_againstFloor_111
  have B_Y8_againstFloor_105 : ∀ (x1 : Int32) (x2 : Int32) (x3 : Option Nat) (x4 : Int32) (H : Heap) (locs : List Loc) (ls_ : Array Slot), b_Y8_againstFloor_105 S x0 x1 x2 x3 x4 = X → q_Y8_againstFloor_105 S x0 x1 x2 x3 x4 → va_P G vwCl (wsC K ad S) H → va_D A (wsC K ad S) → va_S A s.heap H locs → lv_has ls_ 5 [(0, .ref (ad x0)), (1, .int x1), (2, .int x2), (3, va_re ad x3), (4, .int x4)] → W p l e ({ frames := 2, cells := 0, slots := 0, locals := 42 } : Room) s m #[Value.ref (ad x0), Value.int a1] below meth c H locs 0 0 Q (F0 m 105 ls_ []) := by
    intro x1 x2 x3 x4 H locs ls_ hE hp hP hD hS hl
    unfold b_Y8_againstFloor_105 at hE
    unfold q_Y8_againstFloor_105 at hp
    refine lv_bipush (v := 6) hx hb dX8_againstFloor_105 (by decide) ?_
    refine lv_goto (tgt := 111) hx hb dX8_againstFloor_107 (by decide) ?_
    exact B_Y8_againstFloor_111 x1 x2 x3 x4 6 _ _ _ hE hp hP hD hS (lv_sub hl [0, 1, 2, 3, 4] rfl)
  have B_Y8_againstFloor_82 : ∀ (x1 : Int32) (x2 : Int32) (x3 : Option Nat) (y0 : Int32) (H : Heap) (locs : List Loc) (ls_ : Array Slot), b_Y8_againstFloor_82 S x0 x1 x2 x3 y0 = X → q_Y8_againstFloor_82 S x0 x1 x2 x3 y0 → va_P G vwCl (wsC K ad S) H → va_D A (wsC K ad S) → va_S A s.heap H locs → lv_has ls_ 5 [(0, .ref (ad x0)), (1, .int x1), (2, .int x2), (3, va_re ad x3)] → W p l e ({ frames := 2, cells := 0, slots := 0, locals := 42 } : Room) s m #[Value.ref (ad x0), Value.int a1] below meth c H locs 0 0 Q (F0 m 82 ls_ [.int y0]) := by
    intro x1 x2 x3 y0 H locs ls_ hE hp hP hD hS hl
    unfold b_Y8_againstFloor_82 at hE
    unfold q_Y8_againstFloor_82 at hp
    refine lv_istore (i := 4) (lv' := [(4, .int y0), (0, .ref (ad x0)), (1, .int x1), (2, .int x2), (3, va_re ad x3)]) hx hb dX8_againstFloor_82 hl (by decide) (by simp [List.filter, re_cat]) (fun ls_ hl => ?_)
    refine cAload_n (ad := ad) (r := x3) hx hb dX8_againstFloor_84 rfl (lv_at hl 4 rfl) ?_
    obtain ⟨hy17, hp⟩ := hp
    refine cTop (r := x3) hy17.1 ?_
    refine va_get (D := G) (ci := 3) (v := .int (giC S (x3.getD 0) 2)) (C := RX4) (T := TX4) (N := 16) hx hb hts iX4 hown hK hP (x3.getD 0) (at_3 hy17.2) rfl 2 (by decide) (hw (.fieldLink RX8 128 "MotionFloor$Motion" "kind" "I") (List.mem_of_getElem? (i := 12) rfl)) (fun _ h9 => h9) rfl dX8_againstFloor_85 ?_
    refine lv_bipush (v := 6) hx hb dX8_againstFloor_88 (by decide) ?_
    refine lv_icmp_eq (tgt := 105) hx hb dX8_againstFloor_90 (by decide) (fun c18 => ?_) (fun c18 => ?_)
    · rw [if_pos c18] at hE hp
      exact B_Y8_againstFloor_105 x1 x2 x3 y0 _ _ _ hE hp hP hD hS (lv_sub hl [1, 2, 3, 4, 0] rfl)
    · rw [if_neg c18] at hE hp
      refine cAload_n (ad := ad) (r := x3) hx hb dX8_againstFloor_93 rfl (lv_at hl 4 rfl) ?_
      obtain ⟨hy19, hp⟩ := hp
      refine cTop (r := x3) hy19.1 ?_
      refine va_get (D := G) (ci := 3) (v := .int (giC S (x3.getD 0) 7)) (C := RX4) (T := TX4) (N := 16) hx hb hts iX4 hown hK hP (x3.getD 0) (at_3 hy19.2) rfl 7 (by decide) (hw (.fieldLink RX8 131 "MotionFloor$Motion" "closed" "Z") (List.mem_of_getElem? (i := 13) rfl)) (fun _ h9 => h9) rfl dX8_againstFloor_94 ?_
      refine lv_if_ne (tgt := 105) hx hb dX8_againstFloor_97 (by decide) (fun c20 => ?_) (fun c20 => ?_)
      · rw [if_neg c20] at hE hp
        exact B_Y8_againstFloor_105 x1 x2 x3 y0 _ _ _ hE hp hP hD hS (lv_sub hl [1, 2, 3, 4, 0] rfl)
      · rw [if_pos c20] at hE hp
        refine lv_iload hx hb dX8_againstFloor_100 (lv_at hl 0 rfl) ?_
        refine lv_if_eq (tgt := 110) hx hb dX8_againstFloor_102 (by decide) (fun c21 => ?_) (fun c21 => ?_)
        · rw [if_pos c21] at hE hp
          refine lv_iconst (v := 0) hx hb dX8_againstFloor_110 (by decide) ?_
          exact B_Y8_againstFloor_111 x1 x2 x3 y0 0 _ _ _ hE hp hP hD hS (lv_sub hl [1, 2, 3, 4, 0] rfl)
        · rw [if_neg c21] at hE hp
          exact B_Y8_againstFloor_105 x1 x2 x3 y0 _ _ _ hE hp hP hD hS (lv_sub hl [1, 2, 3, 4, 0] rfl)
  have B_Y8_againstFloor_81 : ∀ (x1 : Int32) (x2 : Int32) (x3 : Option Nat) (H : Heap) (locs : List Loc) (ls_ : Array Slot), b_Y8_againstFloor_81 S x0 x1 x2 x3 = X → q_Y8_againstFloor_81 S x0 x1 x2 x3 → va_P G vwCl (wsC K ad S) H → va_D A (wsC K ad S) → va_S A s.heap H locs → lv_has ls_ 5 [(0, .ref (ad x0)), (1, .int x1), (2, .int x2), (3, va_re ad x3)] → W p l e ({ frames := 2, cells := 0, slots := 0, locals := 42 } : Room) s m #[Value.ref (ad x0), Value.int a1] below meth c H locs 0 0 Q (F0 m 81 ls_ []) := by
    intro x1 x2 x3 H locs ls_ hE hp hP hD hS hl
    unfold b_Y8_againstFloor_81 at hE
    unfold q_Y8_againstFloor_81 at hp
    refine lv_iconst (v := 0) hx hb dX8_againstFloor_81 (by decide) ?_
    exact B_Y8_againstFloor_82 x1 x2 x3 0 _ _ _ hE hp hP hD hS (lv_sub hl [0, 1, 2, 3] rfl)
  have B_M : ∀ (x1 : Int32) (H : Heap) (locs : List Loc) (ls_ : Array Slot), f_Y8_againstFloor S x0 x1 = X → p_Y8_againstFloor S x0 x1 → va_P G vwCl (wsC K ad S) H → va_D A (wsC K ad S) → va_S A s.heap H locs → lv_has ls_ 5 [(0, .ref (ad x0)), (1, .int x1)] → W p l e ({ frames := 2, cells := 0, slots := 0, locals := 42 } : Room) s m #[Value.ref (ad x0), Value.int a1] below meth c H locs 0 0 Q (F0 m 0 ls_ []) := by
    intro x1 H locs ls_ hE hp hP hD hS hl
    unfold f_Y8_againstFloor at hE
    unfold p_Y8_againstFloor at hp
    refine lv_aload_n hx hb dX8_againstFloor_0 rfl (lv_at hl 0 rfl) ?_
    refine va_get (D := G) (ci := 0) (v := va_re ad (grC S x0 0)) (C := RX0) (T := TX0) (N := 11) hx hb hts iX0 hown hK hP x0 (at_0 k_x0) rfl 0 (by decide) (hw (.fieldLink RX8 34 "MotionFloor$Assembly" "house" "LMotionFloor$House;") (List.mem_of_getElem? (i := 0) rfl)) (fun _ h9 => h9) rfl dX8_againstFloor_1 ?_
    refine lv_iload_n hx hb dX8_againstFloor_4 rfl (lv_at hl 1 rfl) ?_
    obtain ⟨hy1, hp⟩ := hp
    refine cTop2 (r := (grC S x0 0)) hy1.1 ?_
    obtain ⟨hy2, hp⟩ := hp
    refine cGoi (va_runS (As := [.ref (ad ((grC S x0 0).getD 0)), .int x1]) (rest := []) ⟨hx, hb, hml, hown, hts⟩ (c_Y8_againstAbsent l G K ad S ((grC S x0 0).getD 0) x1 _) (va_cwS 2 hts (wGS t_ (mw (.methodLink RX8 42 yX8_againstAbsent) (List.mem_of_getElem? (i := 1) rfl)) (mw (.static yX8_againstAbsent) (List.mem_of_getElem? (i := 2) rfl)) (mw (.initialized RX8) (List.mem_of_getElem? (i := 3) rfl)) j_Y8_againstAbsent) rfl rfl rfl (by decide +kernel) ⟨Nat.le_of_ble_eq_true rfl, Nat.le_of_ble_eq_true rfl⟩) (cPS hK hTE hP hD ⟨hy1.2, hy2⟩) rfl rfl hl.1 rfl (lv_room (Nat.le_of_ble_eq_true rfl)) dX8_againstFloor_5 ⟨Nat.le_of_ble_eq_true rfl, Nat.le_of_ble_eq_true rfl⟩) hP hD hS hA (fun r4 u3 H locs hv hP hD hS => ?_)
    have h1 := congrArg Prod.fst hv
    have h2 := (congrArg Prod.snd hv).symm
    dsimp only at h1 h2
    subst h1
    subst h2
    refine lv_istore_n (i := 2) (lv' := [(2, .int (f_Y8_againstAbsent S ((grC S x0 0).getD 0) x1)), (0, .ref (ad x0)), (1, .int x1)]) hx hb dX8_againstFloor_8 rfl hl (by decide) rfl (fun ls_ hl => ?_)
    refine lv_iload_n hx hb dX8_againstFloor_9 rfl (lv_at hl 0 rfl) ?_
    refine lv_if_eq (tgt := 15) hx hb dX8_againstFloor_10 (by decide) (fun c5 => ?_) (fun c5 => ?_)
    · rw [if_pos c5] at hE hp
      refine lv_iload_n hx hb dX8_againstFloor_15 rfl (lv_at hl 2 rfl) ?_
      refine lv_aload_n hx hb dX8_againstFloor_16 rfl (lv_at hl 1 rfl) ?_
      refine va_get (D := G) (ci := 0) (v := va_re ad (grC S x0 0)) (C := RX0) (T := TX0) (N := 11) hx hb hts iX0 hown hK hP x0 (at_0 k_x0) rfl 0 (by decide) (hw (.fieldLink RX8 34 "MotionFloor$Assembly" "house" "LMotionFloor$House;") (List.mem_of_getElem? (i := 0) rfl)) (fun _ h9 => h9) rfl dX8_againstFloor_17 ?_
      obtain ⟨hy6, hp⟩ := hp
      refine cTop (r := (grC S x0 0)) hy6.1 ?_
      refine va_get (D := G) (ci := 1) (v := .int (giC S ((grC S x0 0).getD 0) 3)) (C := RX2) (T := TX2) (N := 8) hx hb hts iX2 hown hK hP ((grC S x0 0).getD 0) (at_1 hy6.2) rfl 3 (by decide) (hw (.fieldLink RX8 79 "MotionFloor$House" "chair" "I") (List.mem_of_getElem? (i := 4) rfl)) (fun _ h9 => h9) rfl dX8_againstFloor_20 ?_
      refine lv_icmp_eq (tgt := 37) hx hb dX8_againstFloor_23 (by decide) (fun c7 => ?_) (fun c7 => ?_)
      · rw [if_pos c7] at hE hp
        exact B_Y8_againstFloor_37 x1 (f_Y8_againstAbsent S ((grC S x0 0).getD 0) x1) _ _ _ hE hp hP hD hS (lv_sub hl [1, 2, 0] rfl)
      · rw [if_neg c7] at hE hp
        refine lv_aload_n hx hb dX8_againstFloor_26 rfl (lv_at hl 1 rfl) ?_
        refine va_get (D := G) (ci := 0) (v := va_re ad (grC S x0 0)) (C := RX0) (T := TX0) (N := 11) hx hb hts iX0 hown hK hP x0 (at_0 k_x0) rfl 0 (by decide) (hw (.fieldLink RX8 34 "MotionFloor$Assembly" "house" "LMotionFloor$House;") (List.mem_of_getElem? (i := 0) rfl)) (fun _ h9 => h9) rfl dX8_againstFloor_27 ?_
        obtain ⟨hy8, hp⟩ := hp
        refine cTop (r := (grC S x0 0)) hy8.1 ?_
        refine va_get (D := G) (ci := 1) (v := .int (giC S ((grC S x0 0).getD 0) 6)) (C := RX2) (T := TX2) (N := 8) hx hb hts iX2 hown hK hP ((grC S x0 0).getD 0) (at_1 hy8.2) rfl 6 (by decide) (hw (.fieldLink RX8 53 "MotionFloor$House" "speaker" "I") (List.mem_of_getElem? (i := 5) rfl)) (fun _ h9 => h9) rfl dX8_againstFloor_30 ?_
        refine lv_iconst (v := (-1)) hx hb dX8_againstFloor_33 (by decide) ?_
        refine lv_icmp_eq (tgt := 39) hx hb dX8_againstFloor_34 (by decide) (fun c9 => ?_) (fun c9 => ?_)
        · rw [if_pos c9] at hE hp
          refine lv_aload_n hx hb dX8_againstFloor_39 rfl (lv_at hl 1 rfl) ?_
          refine va_get (D := G) (ci := 0) (v := va_re ad (grC S x0 1)) (C := RX0) (T := TX0) (N := 11) hx hb hts iX0 hown hK hP x0 (at_0 k_x0) rfl 1 (by decide) (hw (.fieldLink RX8 86 "MotionFloor$Assembly" "pending" "LMotionFloor$Pile;") (List.mem_of_getElem? (i := 6) rfl)) (fun _ h9 => h9) rfl dX8_againstFloor_40 ?_
          obtain ⟨hy10, hp⟩ := hp
          refine cTop (r := (grC S x0 1)) hy10.1 ?_
          obtain ⟨hy11, hp⟩ := hp
          refine cGoq (va_runV (As := []) (rest := []) ⟨hx, hb, hml, hown, hts⟩ (c_Y5_top l G K ad S ((grC S x0 1).getD 0) _) (cwV 0 hts (wGV t_ (mw (.methodLink RX8 90 yX5_top) (List.mem_of_getElem? (i := 7) rfl)) (mw (.instanceMethod yX5_top) (List.mem_of_getElem? (i := 8) rfl)) (mw (.selects RX5 yX5_top yX5_top) (List.mem_of_getElem? (i := 9) rfl)) (mw (.initialized RX5) (List.mem_of_getElem? (i := 10) rfl)) j_Y5_top) rfl rfl rfl (by decide +kernel) ⟨Nat.le_of_ble_eq_true rfl, Nat.le_of_ble_eq_true rfl⟩) (cPV hK hTE hP hD 4 rfl (at_4 hy10.2) ⟨hy10.2, hy11⟩) rfl rfl hl.1 rfl (lv_room (Nat.le_of_ble_eq_true rfl)) dX8_againstFloor_43 ⟨Nat.le_of_ble_eq_true rfl, Nat.le_of_ble_eq_true rfl⟩) hP hD hS hA (fun r13 u12 H locs hv hP hD hS => ?_)
          have h1 := congrArg Prod.fst hv
          have h2 := (congrArg Prod.snd hv).symm
          dsimp only at h1 h2
          subst h1
          subst h2
          refine cAstore_n (ad := ad) (r := (f_Y5_top S ((grC S x0 1).getD 0))) (i := 3) (lv' := [(3, va_re ad (f_Y5_top S ((grC S x0 1).getD 0))), (2, .int (f_Y8_againstAbsent S ((grC S x0 0).getD 0) x1)), (0, .ref (ad x0)), (1, .int x1)]) hx hb dX8_againstFloor_46 rfl hl (by decide) rfl (fun ls_ hl => ?_)
          refine cAload_n (ad := ad) (r := (f_Y5_top S ((grC S x0 1).getD 0))) hx hb dX8_againstFloor_47 rfl (lv_at hl 0 rfl) ?_
          refine cIfnonnull (ad := ad) (r := (f_Y5_top S ((grC S x0 1).getD 0))) (tgt := 53) hx hb dX8_againstFloor_48 (by decide) (fun c14 => ?_) (fun c14 => ?_)
          · rw [if_pos c14] at hE hp
            refine lv_iconst (v := 0) hx hb dX8_againstFloor_51 (by decide) ?_
            subst hQ
            exact W.iret (v := (0 : Int32)) hx hb hr (fun t ht hW => ⟨⟨(0 : Int32), S, rfl, (pair_i (hE.trans hX.symm)), by rw [ht]; exact hP, hD⟩, hS.F ht⟩) hS.2.2 dX8_againstFloor_52
          · rw [if_neg c14] at hE hp
            refine lv_aload_n hx hb dX8_againstFloor_53 rfl (lv_at hl 2 rfl) ?_
            refine va_get (D := G) (ci := 0) (v := va_re ad (grC S x0 0)) (C := RX0) (T := TX0) (N := 11) hx hb hts iX0 hown hK hP x0 (at_0 k_x0) rfl 0 (by decide) (hw (.fieldLink RX8 34 "MotionFloor$Assembly" "house" "LMotionFloor$House;") (List.mem_of_getElem? (i := 0) rfl)) (fun _ h9 => h9) rfl dX8_againstFloor_54 ?_
            obtain ⟨hy15, hp⟩ := hp
            refine cTop (r := (grC S x0 0)) hy15.1 ?_
            refine va_get (D := G) (ci := 1) (v := .int (giC S ((grC S x0 0).getD 0) 5)) (C := RX2) (T := TX2) (N := 8) hx hb hts iX2 hown hK hP ((grC S x0 0).getD 0) (at_1 hy15.2) rfl 5 (by decide) (hw (.fieldLink RX8 120 "MotionFloor$House" "limit" "I") (List.mem_of_getElem? (i := 11) rfl)) (fun _ h9 => h9) rfl dX8_againstFloor_57 ?_
            refine lv_if_eq (tgt := 81) hx hb dX8_againstFloor_60 (by decide) (fun c16 => ?_) (fun c16 => ?_)
            · rw [if_pos c16] at hE hp
              exact B_Y8_againstFloor_81 x1 (f_Y8_againstAbsent S ((grC S x0 0).getD 0) x1) (f_Y5_top S ((grC S x0 1).getD 0)) _ _ _ hE hp hP hD hS (lv_sub hl [2, 3, 1, 0] rfl)
            · rw [if_neg c16] at hE hp
              refine cAload_n (ad := ad) (r := (f_Y5_top S ((grC S x0 1).getD 0))) hx hb dX8_againstFloor_63 rfl (lv_at hl 0 rfl) ?_
              obtain ⟨hy22, hp⟩ := hp
              refine cTop (r := (f_Y5_top S ((grC S x0 1).getD 0))) hy22.1 ?_
              refine va_get (D := G) (ci := 3) (v := .int (giC S ((f_Y5_top S ((grC S x0 1).getD 0)).getD 0) 5)) (C := RX4) (T := TX4) (N := 16) hx hb hts iX4 hown hK hP ((f_Y5_top S ((grC S x0 1).getD 0)).getD 0) (at_3 hy22.2) rfl 5 (by decide) (hw (.fieldLink RX8 123 "MotionFloor$Motion" "floors" "I") (List.mem_of_getElem? (i := 14) rfl)) (fun _ h9 => h9) rfl dX8_againstFloor_64 ?_
              refine lv_aload_n hx hb dX8_againstFloor_67 rfl (lv_at hl 2 rfl) ?_
              refine va_get (D := G) (ci := 0) (v := va_re ad (grC S x0 0)) (C := RX0) (T := TX0) (N := 11) hx hb hts iX0 hown hK hP x0 (at_0 k_x0) rfl 0 (by decide) (hw (.fieldLink RX8 34 "MotionFloor$Assembly" "house" "LMotionFloor$House;") (List.mem_of_getElem? (i := 0) rfl)) (fun _ h9 => h9) rfl dX8_againstFloor_68 ?_
              obtain ⟨hy23, hp⟩ := hp
              refine cTop (r := (grC S x0 0)) hy23.1 ?_
              refine va_get (D := G) (ci := 1) (v := .int (giC S ((grC S x0 0).getD 0) 5)) (C := RX2) (T := TX2) (N := 8) hx hb hts iX2 hown hK hP ((grC S x0 0).getD 0) (at_1 hy23.2) rfl 5 (by decide) (hw (.fieldLink RX8 120 "MotionFloor$House" "limit" "I") (List.mem_of_getElem? (i := 11) rfl)) (fun _ h9 => h9) rfl dX8_againstFloor_71 ?_
              refine lv_icmp_lt (tgt := 81) hx hb dX8_againstFloor_74 (by decide) (fun c24 => ?_) (fun c24 => ?_)
              · rw [if_pos c24] at hE hp
                exact B_Y8_againstFloor_81 x1 (f_Y8_againstAbsent S ((grC S x0 0).getD 0) x1) (f_Y5_top S ((grC S x0 1).getD 0)) _ _ _ hE hp hP hD hS (lv_sub hl [2, 3, 1, 0] rfl)
              · rw [if_neg c24] at hE hp
                refine lv_iconst (v := 1) hx hb dX8_againstFloor_77 (by decide) ?_
                refine lv_goto (tgt := 82) hx hb dX8_againstFloor_78 (by decide) ?_
                exact B_Y8_againstFloor_82 x1 (f_Y8_againstAbsent S ((grC S x0 0).getD 0) x1) (f_Y5_top S ((grC S x0 1).getD 0)) 1 _ _ _ hE hp hP hD hS (lv_sub hl [2, 3, 1, 0] rfl)
        · rw [if_neg c9] at hE hp
          exact B_Y8_againstFloor_37 x1 (f_Y8_againstAbsent S ((grC S x0 0).getD 0) x1) _ _ _ hE hp hP hD hS (lv_sub hl [1, 2, 0] rfl)
    · rw [if_neg c5] at hE hp
      refine lv_iload_n hx hb dX8_againstFloor_13 rfl (lv_at hl 0 rfl) ?_
      subst hQ
      exact W.iret (v := (f_Y8_againstAbsent S ((grC S x0 0).getD 0) x1)) hx hb hr (fun t ht hW => ⟨⟨(f_Y8_againstAbsent S ((grC S x0 0).getD 0) x1), S, rfl, (pair_i (hE.trans hX.symm)), by rw [ht]; exact hP, hD⟩, hS.F ht⟩) hS.2.2 dX8_againstFloor_14
  exact B_M a1 _ _ _ hX hp hP hD hS hl
