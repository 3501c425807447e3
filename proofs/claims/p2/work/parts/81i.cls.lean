theorem dX1_takeUp_0 : decode cX1_takeUp 0 = .ok (.aload_n 0, 1) := by decide +kernel
theorem dX1_takeUp_1 : decode cX1_takeUp 1 = .ok (.iload_n 1, 1) := by decide +kernel
theorem dX1_takeUp_2 : decode cX1_takeUp 2 = .ok (.invokevirtual 159, 3) := by decide +kernel
theorem dX1_takeUp_5 : decode cX1_takeUp 5 = .ok (.astore_n 2, 1) := by decide +kernel
theorem dX1_takeUp_6 : decode cX1_takeUp 6 = .ok (.aload_n 2, 1) := by decide +kernel
theorem dX1_takeUp_7 : decode cX1_takeUp 7 = .ok (.ifnull 11, 3) := by decide +kernel
theorem dX1_takeUp_18 : decode cX1_takeUp 18 = .ok (.aload_n 0, 1) := by decide +kernel
theorem dX1_takeUp_19 : decode cX1_takeUp 19 = .ok (.getfield 121, 3) := by decide +kernel
theorem dX1_takeUp_22 : decode cX1_takeUp 22 = .ok (.getfield 180, 3) := by decide +kernel
theorem dX1_takeUp_25 : decode cX1_takeUp 25 = .ok (.iconst 1, 1) := by decide +kernel
theorem dX1_takeUp_26 : decode cX1_takeUp 26 = .ok (.if_icmp .ne 11, 3) := by decide +kernel
theorem dX1_takeUp_37 : decode cX1_takeUp 37 = .ok (.aload_n 0, 1) := by decide +kernel
theorem dX1_takeUp_38 : decode cX1_takeUp 38 = .ok (.getfield 121, 3) := by decide +kernel
theorem dX1_takeUp_41 : decode cX1_takeUp 41 = .ok (.invokevirtual 183, 3) := by decide +kernel
theorem dX6_kind_0 : decode cX6_kind 0 = .ok (.aload_n 0, 1) := by decide +kernel
theorem dX6_kind_1 : decode cX6_kind 1 = .ok (.getfield 18, 3) := by decide +kernel
theorem dX6_kind_4 : decode cX6_kind 4 = .ok (.iconst 0, 1) := by decide +kernel
theorem dX6_kind_5 : decode cX6_kind 5 = .ok (.invokevirtual 22, 3) := by decide +kernel
theorem dX6_kind_8 : decode cX6_kind 8 = .ok (.astore_n 1, 1) := by decide +kernel
theorem dX6_kind_9 : decode cX6_kind 9 = .ok (.aload_n 0, 1) := by decide +kernel
theorem dX6_kind_10 : decode cX6_kind 10 = .ok (.getfield 9, 3) := by decide +kernel
theorem dX6_kind_13 : decode cX6_kind 13 = .ok (.iconst 3, 1) := by decide +kernel
theorem dX6_kind_14 : decode cX6_kind 14 = .ok (.if_icmp .ne 6, 3) := by decide +kernel
theorem dX6_kind_17 : decode cX6_kind 17 = .ok (.bipush 7, 2) := by decide +kernel
theorem dX6_kind_19 : decode cX6_kind 19 = .ok (.ireturn, 1) := by decide +kernel
theorem dX6_kind_20 : decode cX6_kind 20 = .ok (.aload_n 1, 1) := by decide +kernel
theorem dX6_kind_21 : decode cX6_kind 21 = .ok (.ifnonnull 7, 3) := by decide +kernel
theorem dX6_kind_24 : decode cX6_kind 24 = .ok (.iconst 0, 1) := by decide +kernel
theorem dX6_kind_25 : decode cX6_kind 25 = .ok (.goto 7, 3) := by decide +kernel
theorem dX6_kind_28 : decode cX6_kind 28 = .ok (.aload_n 1, 1) := by decide +kernel
theorem dX6_kind_29 : decode cX6_kind 29 = .ok (.getfield 26, 3) := by decide +kernel
theorem dX6_kind_32 : decode cX6_kind 32 = .ok (.ireturn, 1) := by decide +kernel
set_option maxRecDepth 100000 in
theorem zc352 : wZ (.fieldLink RX6 26 "MotionFloor$Motion" "kind" "I") := ⟨wT3 (List.mem_of_getElem? (i := 17) (by decide +kernel)), Or.inl rfl⟩
set_option maxRecDepth 100000 in
theorem zc353 : wZ (.code yX6_kind cX6_kind 2 (some .int)) := ⟨wT3 (List.mem_of_getElem? (i := 146) rfl), Or.inl rfl⟩
def b_Y6_kind_32 (S : Cst) (x0 : Nat) (x1 : Option Nat) (y0 : Int32) : Int32 := y0
def q_Y6_kind_32 (S : Cst) (x0 : Nat) (x1 : Option Nat) (y0 : Int32) : Prop := True
def f_Y6_kind (S : Cst) (x0 : Nat) : Int32 := if (giC S x0 0) = 3 then (7 : Int32) else if (f_Y5_at S ((grC S x0 1).getD 0) (0 : Int32)) = none then (b_Y6_kind_32 S x0 (f_Y5_at S ((grC S x0 1).getD 0) (0 : Int32)) 0) else (b_Y6_kind_32 S x0 (f_Y5_at S ((grC S x0 1).getD 0) (0 : Int32)) (giC S ((f_Y5_at S ((grC S x0 1).getD 0) (0 : Int32)).getD 0) 2))
def p_Y6_kind (S : Cst) (x0 : Nat) : Prop := (iR S (grC S x0 1) 4) ∧ (p_Y5_at S ((grC S x0 1).getD 0) (0 : Int32)) ∧ (if (giC S x0 0) = 3 then True else (if (f_Y5_at S ((grC S x0 1).getD 0) (0 : Int32)) = none then (q_Y6_kind_32 S x0 (f_Y5_at S ((grC S x0 1).getD 0) (0 : Int32)) 0) else (iR S (f_Y5_at S ((grC S x0 1).getD 0) (0 : Int32)) 3) ∧ (q_Y6_kind_32 S x0 (f_Y5_at S ((grC S x0 1).getD 0) (0 : Int32)) (giC S ((f_Y5_at S ((grC S x0 1).getD 0) (0 : Int32)).getD 0) 2))))
def e_Y6_kind : List Cond := [.fieldLink RX6 18 "MotionFloor$Place" "pile" "LMotionFloor$Pile;", .methodLink RX6 22 yX5_at, .instanceMethod yX5_at, .selects RX5 yX5_at yX5_at, .initialized RX5, .fieldLink RX6 9 "MotionFloor$Place" "sort" "I", .fieldLink RX6 26 "MotionFloor$Motion" "kind" "I"]
def v_Y6_kind : List Cond := .code yX6_kind cX6_kind 2 (some .int) :: (e_Y6_kind ++ (wsX60 ++ (wsX40 ++ (v_Y5_at ++ []))))
theorem te_Y6_kind : GoodIn lw_tbl e_Y6_kind := wGc zc130 (wGc zc129 (wGc zc128 (wGc zc127 (wGc zc34 (wGc zc116 (wGc zc352 (wG0)))))))
theorem t_Y6_kind : GoodIn lw_tbl v_Y6_kind := wGc zc353 (wGa te_Y6_kind (wGa zcX6 (wGa zcX4 (wGa t_Y5_at (wG0)))))
set_option maxHeartbeats 4000000 in
set_option maxRecDepth 100000 in
theorem c_Y6_kind (l : Launch) (G : va_G) (K : Nat → ClassId) (ad : Nat → Nat) (S : Cst) (x0 : Nat)  (sz : Nat) : Met l yX6_kind v_Y6_kind ({ frames := 1, cells := 0, slots := 0, locals := 21 }) (va_Pc [.ref (ad x0)] (cSt G K ad sz S (iK S x0 5 ∧ p_Y6_kind S x0))) (va_Qi (fun (r : Int32) (u : Cst) => (r, u) = (f_Y6_kind S x0, S)) (cBt G K ad (va_A (wsC K ad S) sz)) (va_A (wsC K ad S) sz)) 0 0 (va_A (wsC K ad S) sz) := by
  refine Met.ofW (cc := cX6_kind) (maxL := 2) (ret := (some .int)) (by decide) rfl ?_
  intro p e s m args below meth c s₁ B hml hv
  obtain ⟨rfl, ⟨hsz, hP, hK, hD0, hTE⟩, hp⟩ := hv
  obtain ⟨k_x0, hp⟩ := hp
  have hx := B.exec
  have hb := B.bytes
  have hr := B.returns
  have hts := atoms_spec (ws := v_Y6_kind) B.pre
  have t_ := t_Y6_kind
  have mw : ∀ w ∈ e_Y6_kind, w ∈ v_Y6_kind := fun w h => List.mem_cons_of_mem _ (List.mem_append_left _ h)
  have hw := fun w (h : w ∈ e_Y6_kind) => hts w (mw w h)
  have iX6 : ∀ w ∈ wsX60, w ∈ v_Y6_kind := fun w h => List.mem_cons_of_mem _ (List.mem_append_right _ (List.mem_append_left _ h))
  have iX4 : ∀ w ∈ wsX40, w ∈ v_Y6_kind := fun w h => List.mem_cons_of_mem _ (List.mem_append_right _ (List.mem_append_right _ (List.mem_append_left _ h)))
  have j_Y5_at : ∀ w ∈ v_Y5_at, w ∈ v_Y6_kind := fun w h => List.mem_cons_of_mem _ (List.mem_append_right _ (List.mem_append_right _ (List.mem_append_right _ (List.mem_append_left _ h))))
  have hown : s.vm.findClass RX6 = some m.cls := findClass_of_methodNamed B.named
  have hlocks := B.notSynchronized
  subst hsz
  have hD := hD0.self (sz := s.heap.size)
  generalize hAe : va_A (wsC K ad S) s.heap.size = A at hD ⊢
  have hA : ∀ q : Nat, s.heap.size ≤ q → A q := fun q h => by rw [← hAe]; exact Or.inr h
  have hS : va_S A s.heap s.heap [] := va_S.rf
  have hl : lv_has (lg_sl ([.ref (ad x0)]) ++ List.replicate (2 - (lg_sl ([.ref (ad x0)])).length) Slot.unset).toArray 2 [(0, .ref (ad x0))] := by
    exact lv_entry ([.ref (ad x0)]) (n := 2) (Nat.le_of_ble_eq_true rfl)
  rw [lg_entry_eq]
  generalize (lg_sl ([.ref (ad x0)]) ++ List.replicate (2 - (lg_sl ([.ref (ad x0)])).length) Slot.unset).toArray = ls_ at hl ⊢
  refine wGen (fun Q hQ => ?_)
  obtain ⟨X, hX⟩ : ∃ X, f_Y6_kind S x0 = X := ⟨_, rfl⟩
  have B_Y6_kind_32 : ∀ (x1 : Option Nat) (y0 : Int32) (H : Heap) (locs : List Loc) (ls_ : Array Slot), b_Y6_kind_32 S x0 x1 y0 = X → q_Y6_kind_32 S x0 x1 y0 → va_P G vwCl (wsC K ad S) H → va_D A (wsC K ad S) → va_S A s.heap H locs → lv_has ls_ 2 [(0, .ref (ad x0)), (1, va_re ad x1)] → W p l e ({ frames := 1, cells := 0, slots := 0, locals := 21 } : Room) s m #[Value.ref (ad x0)] below meth c H locs 0 0 Q (F0 m 32 ls_ [.int y0]) := by
    intro x1 y0 H locs ls_ hE hp hP hD hS hl
    unfold b_Y6_kind_32 at hE
    unfold q_Y6_kind_32 at hp
    subst hQ
    exact W.iret (v := y0) hx hb hr (fun t ht hW => ⟨⟨y0, S, rfl, (pair_i (hE.trans hX.symm)), by rw [ht]; exact hP, hD⟩, hS.F ht⟩) hS.2.2 dX6_kind_32
  have B_M : ∀ (H : Heap) (locs : List Loc) (ls_ : Array Slot), f_Y6_kind S x0 = X → p_Y6_kind S x0 → va_P G vwCl (wsC K ad S) H → va_D A (wsC K ad S) → va_S A s.heap H locs → lv_has ls_ 2 [(0, .ref (ad x0))] → W p l e ({ frames := 1, cells := 0, slots := 0, locals := 21 } : Room) s m #[Value.ref (ad x0)] below meth c H locs 0 0 Q (F0 m 0 ls_ []) := by
    intro  H locs ls_ hE hp hP hD hS hl
    unfold f_Y6_kind at hE
    unfold p_Y6_kind at hp
    refine lv_aload_n hx hb dX6_kind_0 rfl (lv_at hl 0 rfl) ?_
    refine va_get (D := G) (ci := 5) (v := va_re ad (grC S x0 1)) (C := RX6) (T := TX6) (N := 2) hx hb hts iX6 hown hK hP x0 (at_5 k_x0) rfl 1 (by decide) (hw (.fieldLink RX6 18 "MotionFloor$Place" "pile" "LMotionFloor$Pile;") (List.mem_of_getElem? (i := 0) rfl)) (fun _ h9 => h9) rfl dX6_kind_1 ?_
    refine lv_iconst (v := 0) hx hb dX6_kind_4 (by decide) ?_
    obtain ⟨hy1, hp⟩ := hp
    refine cTop2 (r := (grC S x0 1)) hy1.1 ?_
    obtain ⟨hy2, hp⟩ := hp
    refine cGoq (va_runV (As := [.int 0]) (rest := []) ⟨hx, hb, hml, hown, hts⟩ (c_Y5_at l G K ad S ((grC S x0 1).getD 0) (0 : Int32) _) (cwV 1 hts (wGV t_ (mw (.methodLink RX6 22 yX5_at) (List.mem_of_getElem? (i := 1) rfl)) (mw (.instanceMethod yX5_at) (List.mem_of_getElem? (i := 2) rfl)) (mw (.selects RX5 yX5_at yX5_at) (List.mem_of_getElem? (i := 3) rfl)) (mw (.initialized RX5) (List.mem_of_getElem? (i := 4) rfl)) j_Y5_at) rfl rfl rfl (by decide +kernel) ⟨Nat.le_of_ble_eq_true rfl, Nat.le_of_ble_eq_true rfl⟩) (cPV hK hTE hP hD 4 rfl (at_4 hy1.2) ⟨hy1.2, hy2⟩) rfl rfl hl.1 rfl (lv_room (Nat.le_of_ble_eq_true rfl)) dX6_kind_5 ⟨Nat.le_of_ble_eq_true rfl, Nat.le_of_ble_eq_true rfl⟩) hP hD hS hA (fun r4 u3 H locs hv hP hD hS => ?_)
    have h1 := congrArg Prod.fst hv
    have h2 := (congrArg Prod.snd hv).symm
    dsimp only at h1 h2
    subst h1
    subst h2
    refine cAstore_n (ad := ad) (r := (f_Y5_at S ((grC S x0 1).getD 0) (0 : Int32))) (i := 1) (lv' := [(1, va_re ad (f_Y5_at S ((grC S x0 1).getD 0) (0 : Int32))), (0, .ref (ad x0))]) hx hb dX6_kind_8 rfl hl (by decide) rfl (fun ls_ hl => ?_)
    refine lv_aload_n hx hb dX6_kind_9 rfl (lv_at hl 1 rfl) ?_
    refine va_get (D := G) (ci := 5) (v := .int (giC S x0 0)) (C := RX6) (T := TX6) (N := 2) hx hb hts iX6 hown hK hP x0 (at_5 k_x0) rfl 0 (by decide) (hw (.fieldLink RX6 9 "MotionFloor$Place" "sort" "I") (List.mem_of_getElem? (i := 5) rfl)) (fun _ h9 => h9) rfl dX6_kind_10 ?_
    refine lv_iconst (v := 3) hx hb dX6_kind_13 (by decide) ?_
    refine lv_icmp_ne (tgt := 20) hx hb dX6_kind_14 (by decide) (fun c5 => ?_) (fun c5 => ?_)
    · rw [if_neg c5] at hE hp
      refine cAload_n (ad := ad) (r := (f_Y5_at S ((grC S x0 1).getD 0) (0 : Int32))) hx hb dX6_kind_20 rfl (lv_at hl 0 rfl) ?_
      refine cIfnonnull (ad := ad) (r := (f_Y5_at S ((grC S x0 1).getD 0) (0 : Int32))) (tgt := 28) hx hb dX6_kind_21 (by decide) (fun c6 => ?_) (fun c6 => ?_)
      · rw [if_pos c6] at hE hp
        refine lv_iconst (v := 0) hx hb dX6_kind_24 (by decide) ?_
        refine lv_goto (tgt := 32) hx hb dX6_kind_25 (by decide) ?_
        exact B_Y6_kind_32 (f_Y5_at S ((grC S x0 1).getD 0) (0 : Int32)) 0 _ _ _ hE hp hP hD hS (lv_sub hl [1, 0] rfl)
      · rw [if_neg c6] at hE hp
        refine cAload_n (ad := ad) (r := (f_Y5_at S ((grC S x0 1).getD 0) (0 : Int32))) hx hb dX6_kind_28 rfl (lv_at hl 0 rfl) ?_
        obtain ⟨hy7, hp⟩ := hp
        refine cTop (r := (f_Y5_at S ((grC S x0 1).getD 0) (0 : Int32))) hy7.1 ?_
        refine va_get (D := G) (ci := 3) (v := .int (giC S ((f_Y5_at S ((grC S x0 1).getD 0) (0 : Int32)).getD 0) 2)) (C := RX4) (T := TX4) (N := 16) hx hb hts iX4 hown hK hP ((f_Y5_at S ((grC S x0 1).getD 0) (0 : Int32)).getD 0) (at_3 hy7.2) rfl 2 (by decide) (hw (.fieldLink RX6 26 "MotionFloor$Motion" "kind" "I") (List.mem_of_getElem? (i := 6) rfl)) (fun _ h9 => h9) rfl dX6_kind_29 ?_
        exact B_Y6_kind_32 (f_Y5_at S ((grC S x0 1).getD 0) (0 : Int32)) (giC S ((f_Y5_at S ((grC S x0 1).getD 0) (0 : Int32)).getD 0) 2) _ _ _ hE hp hP hD hS (lv_sub hl [1, 0] rfl)
    · rw [if_pos c5] at hE hp
      refine lv_bipush (v := 7) hx hb dX6_kind_17 (by decide) ?_
      subst hQ
      exact W.iret (v := (7 : Int32)) hx hb hr (fun t ht hW => ⟨⟨(7 : Int32), S, rfl, (pair_i (hE.trans hX.symm)), by rw [ht]; exact hP, hD⟩, hS.F ht⟩) hS.2.2 dX6_kind_19
  exact B_M  _ _ _ hX hp hP hD hS hl
theorem dX1_takeUp_10 : decode cX1_takeUp 10 = .ok (.aload_n 0, 1) := by decide +kernel
theorem dX1_takeUp_11 : decode cX1_takeUp 11 = .ok (.getfield 121, 3) := by decide +kernel
theorem dX1_takeUp_14 : decode cX1_takeUp 14 = .ok (.aload_n 2, 1) := by decide +kernel
theorem dX1_takeUp_15 : decode cX1_takeUp 15 = .ok (.invokevirtual 177, 3) := by decide +kernel
theorem dX1_takeUp_29 : decode cX1_takeUp 29 = .ok (.aload_n 0, 1) := by decide +kernel
theorem dX1_takeUp_30 : decode cX1_takeUp 30 = .ok (.getfield 121, 3) := by decide +kernel
theorem dX1_takeUp_33 : decode cX1_takeUp 33 = .ok (.iconst 2, 1) := by decide +kernel
theorem dX1_takeUp_34 : decode cX1_takeUp 34 = .ok (.putfield 180, 3) := by decide +kernel
theorem dX1_takeUp_44 : decode cX1_takeUp 44 = .ok (.ireturn, 1) := by decide +kernel
set_option maxRecDepth 100000 in
theorem zc354 : wZ (.selects RX6 yX6_kind yX6_kind) := ⟨wT3 (List.mem_of_getElem? (i := 145) (by decide +kernel)), Or.inl rfl⟩
set_option maxRecDepth 100000 in
theorem zc355 : wZ (.instanceMethod yX6_kind) := ⟨wT3 (List.mem_of_getElem? (i := 144) (by decide +kernel)), Or.inl rfl⟩
set_option maxRecDepth 100000 in
theorem zc356 : wZ (.methodLink RX1 183 yX6_kind) := ⟨wT3 (List.mem_of_getElem? (i := 143) (by decide +kernel)), Or.inl rfl⟩
set_option maxRecDepth 100000 in
theorem zc357 : wZ (.fieldLink RX1 180 "MotionFloor$Place" "sort" "I") := ⟨wT1 (List.mem_of_getElem? (i := 110) (by decide +kernel)), Or.inl rfl⟩
set_option maxRecDepth 100000 in
theorem zc358 : wZ (.code yX1_takeUp cX1_takeUp 3 (some .int)) := ⟨wT3 (List.mem_of_getElem? (i := 142) rfl), Or.inl rfl⟩
def b_Y1_takeUp_37 (S : Cst) (x0 : Nat) (x1 : Int32) (x2 : Option Nat) : Int32 × Cst := ((f_Y6_kind S ((grC S x0 2).getD 0)), S)
def q_Y1_takeUp_37 (S : Cst) (x0 : Nat) (x1 : Int32) (x2 : Option Nat) : Prop := (iR S (grC S x0 2) 5) ∧ (p_Y6_kind S ((grC S x0 2).getD 0)) ∧ True
def b_Y1_takeUp_18 (S : Cst) (x0 : Nat) (x1 : Int32) (x2 : Option Nat) : Int32 × Cst := if (giC S ((grC S x0 2).getD 0) 0) = 1 then (b_Y1_takeUp_37 (siC S ((grC S x0 2).getD 0) 0 (2 : Int32)) x0 x1 x2) else (b_Y1_takeUp_37 S x0 x1 x2)
def q_Y1_takeUp_18 (S : Cst) (x0 : Nat) (x1 : Int32) (x2 : Option Nat) : Prop := (iR S (grC S x0 2) 5) ∧ (if (giC S ((grC S x0 2).getD 0) 0) = 1 then (iR S (grC S x0 2) 5) ∧ (q_Y1_takeUp_37 (siC S ((grC S x0 2).getD 0) 0 (2 : Int32)) x0 x1 x2) else (q_Y1_takeUp_37 S x0 x1 x2))
def f_Y1_takeUp (S : Cst) (x0 : Nat) (x1 : Int32) : Int32 × Cst := if (f_Y0_placeAt S x0 x1) = none then (b_Y1_takeUp_18 S x0 x1 (f_Y0_placeAt S x0 x1)) else (b_Y1_takeUp_18 ((f_Y6_takeFrom S ((grC S x0 2).getD 0) ((f_Y0_placeAt S x0 x1).getD 0)).2) x0 x1 (f_Y0_placeAt S x0 x1))
def p_Y1_takeUp (S : Cst) (x0 : Nat) (x1 : Int32) : Prop := (p_Y0_placeAt S x0 x1) ∧ (if (f_Y0_placeAt S x0 x1) = none then (q_Y1_takeUp_18 S x0 x1 (f_Y0_placeAt S x0 x1)) else (iR S (grC S x0 2) 5) ∧ (iR S (f_Y0_placeAt S x0 x1) 5) ∧ (p_Y6_takeFrom S ((grC S x0 2).getD 0) ((f_Y0_placeAt S x0 x1).getD 0)) ∧ (q_Y1_takeUp_18 ((f_Y6_takeFrom S ((grC S x0 2).getD 0) ((f_Y0_placeAt S x0 x1).getD 0)).2) x0 x1 (f_Y0_placeAt S x0 x1)))
def e_Y1_takeUp : List Cond := [.methodLink RX1 159 yX0_placeAt, .instanceMethod yX0_placeAt, .selects RX0 yX0_placeAt yX0_placeAt, .initialized RX0, .fieldLink RX1 121 "MotionFloor$Assembly" "draft" "LMotionFloor$Place;", .fieldLink RX1 180 "MotionFloor$Place" "sort" "I", .methodLink RX1 183 yX6_kind, .instanceMethod yX6_kind, .selects RX6 yX6_kind yX6_kind, .initialized RX6, .methodLink RX1 177 yX6_takeFrom, .instanceMethod yX6_takeFrom, .selects RX6 yX6_takeFrom yX6_takeFrom]
def v_Y1_takeUp : List Cond := .code yX1_takeUp cX1_takeUp 3 (some .int) :: (e_Y1_takeUp ++ (wsX00 ++ (wsX60 ++ (v_Y0_placeAt ++ (v_Y6_kind ++ (v_Y6_takeFrom ++ []))))))
theorem te_Y1_takeUp : GoodIn lw_tbl e_Y1_takeUp := wGc zc350 (wGc zc261 (wGc zc260 (wGc zc39 (wGc zc323 (wGc zc357 (wGc zc356 (wGc zc355 (wGc zc354 (wGc zc118 (wGc zc347 (wGc zc346 (wGc zc345 (wG0)))))))))))))
theorem t_Y1_takeUp : GoodIn lw_tbl v_Y1_takeUp := wGc zc358 (wGa te_Y1_takeUp (wGa zcX0 (wGa zcX6 (wGa t_Y0_placeAt (wGa t_Y6_kind (wGa t_Y6_takeFrom (wG0)))))))
set_option maxHeartbeats 4000000 in
set_option maxRecDepth 100000 in
theorem c_Y1_takeUp (l : Launch) (G : va_G) (K : Nat → ClassId) (ad : Nat → Nat) (S0 : Cst) (x0 : Nat) (a1 : Int32) (sz : Nat) : Met l yX1_takeUp v_Y1_takeUp ({ frames := 3, cells := 0, slots := 0, locals := 64 }) (va_Pc [.ref (ad x0), .int a1] (cSt G K ad sz S0 (iK S0 x0 0 ∧ p_Y1_takeUp S0 x0 a1))) (va_Qi (fun (r : Int32) (u : Cst) => (r, u) = f_Y1_takeUp S0 x0 a1 ∧ eK S0 u) (cBt G K ad (va_A (wsC K ad S0) sz)) (va_A (wsC K ad S0) sz)) 0 0 (va_A (wsC K ad S0) sz) := by
  refine Met.ofW (cc := cX1_takeUp) (maxL := 3) (ret := (some .int)) (by decide) rfl ?_
  intro p e s m args below meth c s₁ B hml hv
  obtain ⟨rfl, ⟨hsz, hP, hK, hD0, hTE⟩, hp⟩ := hv
  obtain ⟨k_x0, hp⟩ := hp
  have hx := B.exec
  have hb := B.bytes
  have hr := B.returns
  have hts := atoms_spec (ws := v_Y1_takeUp) B.pre
  have t_ := t_Y1_takeUp
  have mw : ∀ w ∈ e_Y1_takeUp, w ∈ v_Y1_takeUp := fun w h => List.mem_cons_of_mem _ (List.mem_append_left _ h)
  have hw := fun w (h : w ∈ e_Y1_takeUp) => hts w (mw w h)
  have iX0 : ∀ w ∈ wsX00, w ∈ v_Y1_takeUp := fun w h => List.mem_cons_of_mem _ (List.mem_append_right _ (List.mem_append_left _ h))
  have iX6 : ∀ w ∈ wsX60, w ∈ v_Y1_takeUp := fun w h => List.mem_cons_of_mem _ (List.mem_append_right _ (List.mem_append_right _ (List.mem_append_left _ h)))
  have j_Y0_placeAt : ∀ w ∈ v_Y0_placeAt, w ∈ v_Y1_takeUp := fun w h => List.mem_cons_of_mem _ (List.mem_append_right _ (List.mem_append_right _ (List.mem_append_right _ (List.mem_append_left _ h))))
  have j_Y6_kind : ∀ w ∈ v_Y6_kind, w ∈ v_Y1_takeUp := fun w h => List.mem_cons_of_mem _ (List.mem_append_right _ (List.mem_append_right _ (List.mem_append_right _ (List.mem_append_right _ (List.mem_append_left _ h)))))
  have j_Y6_takeFrom : ∀ w ∈ v_Y6_takeFrom, w ∈ v_Y1_takeUp := fun w h => List.mem_cons_of_mem _ (List.mem_append_right _ (List.mem_append_right _ (List.mem_append_right _ (List.mem_append_right _ (List.mem_append_right _ (List.mem_append_left _ h))))))
  have hown : s.vm.findClass RX1 = some m.cls := findClass_of_methodNamed B.named
  have hlocks := B.notSynchronized
  subst hsz
  have hD := hD0.self (sz := s.heap.size)
  generalize hAe : va_A (wsC K ad S0) s.heap.size = A at hD ⊢
  have hA : ∀ q : Nat, s.heap.size ≤ q → A q := fun q h => by rw [← hAe]; exact Or.inr h
  have hS : va_S A s.heap s.heap [] := va_S.rf
  have hl : lv_has (lg_sl ([.ref (ad x0), .int a1]) ++ List.replicate (3 - (lg_sl ([.ref (ad x0), .int a1])).length) Slot.unset).toArray 3 [(0, .ref (ad x0)), (1, .int a1)] := by
    exact lv_entry ([.ref (ad x0), .int a1]) (n := 3) (Nat.le_of_ble_eq_true rfl)
  rw [lg_entry_eq]
  generalize (lg_sl ([.ref (ad x0), .int a1]) ++ List.replicate (3 - (lg_sl ([.ref (ad x0), .int a1])).length) Slot.unset).toArray = ls_ at hl ⊢
  refine wGen (fun Q hQ => ?_)
  obtain ⟨X, hX⟩ : ∃ X, f_Y1_takeUp S0 x0 a1 = X := ⟨_, rfl⟩
  have B_Y1_takeUp_37 : ∀ (S : Cst) (x1 : Int32) (x2 : Option Nat) (H : Heap) (locs : List Loc) (ls_ : Array Slot), b_Y1_takeUp_37 S x0 x1 x2 = X → q_Y1_takeUp_37 S x0 x1 x2 → eK S0 S → va_P G vwCl (wsC K ad S) H → va_D A (wsC K ad S) → va_S A s.heap H locs → lv_has ls_ 3 [(0, .ref (ad x0)), (1, .int x1), (2, va_re ad x2)] → W p l e ({ frames := 3, cells := 0, slots := 0, locals := 64 } : Room) s m #[Value.ref (ad x0), Value.int a1] below meth c H locs 0 0 Q (F0 m 37 ls_ []) := by
    intro S x1 x2 H locs ls_ hE hp hZ hP hD hS hl
    unfold b_Y1_takeUp_37 at hE
    unfold q_Y1_takeUp_37 at hp
    refine lv_aload_n hx hb dX1_takeUp_37 rfl (lv_at hl 0 rfl) ?_
    refine va_get (D := G) (ci := 0) (v := va_re ad (grC S x0 2)) (C := RX0) (T := TX0) (N := 11) hx hb hts iX0 hown hK hP x0 (at_0 (k_x0.e hZ)) rfl 2 (by decide) (hw (.fieldLink RX1 121 "MotionFloor$Assembly" "draft" "LMotionFloor$Place;") (List.mem_of_getElem? (i := 4) rfl)) (fun _ h9 => h9) rfl dX1_takeUp_38 ?_
    obtain ⟨hy7, hp⟩ := hp
    refine cTop (r := (grC S x0 2)) hy7.1 ?_
    obtain ⟨hy8, hp⟩ := hp
    refine cGoi (va_runV (As := []) (rest := []) ⟨hx, hb, hml, hown, hts⟩ (c_Y6_kind l G K ad S ((grC S x0 2).getD 0) _) (cwV 0 hts (wGV t_ (mw (.methodLink RX1 183 yX6_kind) (List.mem_of_getElem? (i := 6) rfl)) (mw (.instanceMethod yX6_kind) (List.mem_of_getElem? (i := 7) rfl)) (mw (.selects RX6 yX6_kind yX6_kind) (List.mem_of_getElem? (i := 8) rfl)) (mw (.initialized RX6) (List.mem_of_getElem? (i := 9) rfl)) j_Y6_kind) rfl rfl rfl (by decide +kernel) ⟨Nat.le_of_ble_eq_true rfl, Nat.le_of_ble_eq_true rfl⟩) (cPV hK hTE hP hD 5 rfl (at_5 hy7.2) ⟨hy7.2, hy8⟩) rfl rfl hl.1 rfl (lv_room (Nat.le_of_ble_eq_true rfl)) dX1_takeUp_41 ⟨Nat.le_of_ble_eq_true rfl, Nat.le_of_ble_eq_true rfl⟩) hP hD hS hA (fun r10 u9 H locs hv hP hD hS => ?_)
    have h1 := congrArg Prod.fst hv
    have h2 := (congrArg Prod.snd hv).symm
    dsimp only at h1 h2
    subst h1
    subst h2
    subst hQ
    exact W.iret (v := (f_Y6_kind S ((grC S x0 2).getD 0))) hx hb hr (fun t ht hW => ⟨⟨(f_Y6_kind S ((grC S x0 2).getD 0)), S, rfl, ⟨hE.trans hX.symm, hZ⟩, by rw [ht]; exact hP, hD⟩, hS.F ht⟩) hS.2.2 dX1_takeUp_44
  have B_Y1_takeUp_18 : ∀ (S : Cst) (x1 : Int32) (x2 : Option Nat) (H : Heap) (locs : List Loc) (ls_ : Array Slot), b_Y1_takeUp_18 S x0 x1 x2 = X → q_Y1_takeUp_18 S x0 x1 x2 → eK S0 S → va_P G vwCl (wsC K ad S) H → va_D A (wsC K ad S) → va_S A s.heap H locs → lv_has ls_ 3 [(0, .ref (ad x0)), (1, .int x1), (2, va_re ad x2)] → W p l e ({ frames := 3, cells := 0, slots := 0, locals := 64 } : Room) s m #[Value.ref (ad x0), Value.int a1] below meth c H locs 0 0 Q (F0 m 18 ls_ []) := by
    intro S x1 x2 H locs ls_ hE hp hZ hP hD hS hl
    unfold b_Y1_takeUp_18 at hE
    unfold q_Y1_takeUp_18 at hp
    refine lv_aload_n hx hb dX1_takeUp_18 rfl (lv_at hl 0 rfl) ?_
    refine va_get (D := G) (ci := 0) (v := va_re ad (grC S x0 2)) (C := RX0) (T := TX0) (N := 11) hx hb hts iX0 hown hK hP x0 (at_0 (k_x0.e hZ)) rfl 2 (by decide) (hw (.fieldLink RX1 121 "MotionFloor$Assembly" "draft" "LMotionFloor$Place;") (List.mem_of_getElem? (i := 4) rfl)) (fun _ h9 => h9) rfl dX1_takeUp_19 ?_
    obtain ⟨hy5, hp⟩ := hp
    refine cTop (r := (grC S x0 2)) hy5.1 ?_
    refine va_get (D := G) (ci := 5) (v := .int (giC S ((grC S x0 2).getD 0) 0)) (C := RX6) (T := TX6) (N := 2) hx hb hts iX6 hown hK hP ((grC S x0 2).getD 0) (at_5 hy5.2) rfl 0 (by decide) (hw (.fieldLink RX1 180 "MotionFloor$Place" "sort" "I") (List.mem_of_getElem? (i := 5) rfl)) (fun _ h9 => h9) rfl dX1_takeUp_22 ?_
    refine lv_iconst (v := 1) hx hb dX1_takeUp_25 (by decide) ?_
    refine lv_icmp_ne (tgt := 37) hx hb dX1_takeUp_26 (by decide) (fun c6 => ?_) (fun c6 => ?_)
    · rw [if_neg c6] at hE hp
      exact B_Y1_takeUp_37 S x1 x2 _ _ _ hE hp hZ hP hD hS (lv_sub hl [0, 1, 2] rfl)
    · rw [if_pos c6] at hE hp
      refine lv_aload_n hx hb dX1_takeUp_29 rfl (lv_at hl 0 rfl) ?_
      refine va_get (D := G) (ci := 0) (v := va_re ad (grC S x0 2)) (C := RX0) (T := TX0) (N := 11) hx hb hts iX0 hown hK hP x0 (at_0 (k_x0.e hZ)) rfl 2 (by decide) (hw (.fieldLink RX1 121 "MotionFloor$Assembly" "draft" "LMotionFloor$Place;") (List.mem_of_getElem? (i := 4) rfl)) (fun _ h9 => h9) rfl dX1_takeUp_30 ?_
      refine lv_iconst (v := 2) hx hb dX1_takeUp_33 (by decide) ?_
      obtain ⟨hy11, hp⟩ := hp
      refine cTop2 (r := (grC S x0 2)) hy11.1 ?_
      refine va_put (D := G) (ci := 5) (v := .int 2) (ty := .int) (C := RX6) (T := TX6) (N := 2) hx hb hts iX6 tyX6 tyX6_ok nmX6 hown hK hP hD hS ((grC S x0 2).getD 0) (at_5 hy11.2) rfl 0 (by decide) (hw (.fieldLink RX1 180 "MotionFloor$Place" "sort" "I") (List.mem_of_getElem? (i := 5) rfl)) (fun _ h9 => h9) rfl (by decide +kernel) rfl rfl (Nat.le_of_ble_eq_true rfl) dX1_takeUp_34 (fun H locs hP hD hS => ?_)
      rw [st_5_0 hy11.2] at hP hD
      have hZ := hZ.tr (eK.si S ((grC S x0 2).getD 0) 0 (2 : Int32))
      exact B_Y1_takeUp_37 (siC S ((grC S x0 2).getD 0) 0 (2 : Int32)) x1 x2 _ _ _ hE hp hZ hP hD hS (lv_sub hl [0, 1, 2] rfl)
  have B_M : ∀ (S : Cst) (x1 : Int32) (H : Heap) (locs : List Loc) (ls_ : Array Slot), f_Y1_takeUp S x0 x1 = X → p_Y1_takeUp S x0 x1 → eK S0 S → va_P G vwCl (wsC K ad S) H → va_D A (wsC K ad S) → va_S A s.heap H locs → lv_has ls_ 3 [(0, .ref (ad x0)), (1, .int x1)] → W p l e ({ frames := 3, cells := 0, slots := 0, locals := 64 } : Room) s m #[Value.ref (ad x0), Value.int a1] below meth c H locs 0 0 Q (F0 m 0 ls_ []) := by
    intro S x1 H locs ls_ hE hp hZ hP hD hS hl
    unfold f_Y1_takeUp at hE
    unfold p_Y1_takeUp at hp
    refine lv_aload_n hx hb dX1_takeUp_0 rfl (lv_at hl 0 rfl) ?_
    refine lv_iload_n hx hb dX1_takeUp_1 rfl (lv_at hl 1 rfl) ?_
    obtain ⟨hy1, hp⟩ := hp
    refine cGoq (va_runV (As := [.int x1]) (rest := []) ⟨hx, hb, hml, hown, hts⟩ (c_Y0_placeAt l G K ad S x0 x1 _) (cwV 1 hts (wGV t_ (mw (.methodLink RX1 159 yX0_placeAt) (List.mem_of_getElem? (i := 0) rfl)) (mw (.instanceMethod yX0_placeAt) (List.mem_of_getElem? (i := 1) rfl)) (mw (.selects RX0 yX0_placeAt yX0_placeAt) (List.mem_of_getElem? (i := 2) rfl)) (mw (.initialized RX0) (List.mem_of_getElem? (i := 3) rfl)) j_Y0_placeAt) rfl rfl rfl (by decide +kernel) ⟨Nat.le_of_ble_eq_true rfl, Nat.le_of_ble_eq_true rfl⟩) (cPV hK hTE hP hD 0 rfl (at_0 (k_x0.e hZ)) ⟨(k_x0.e hZ), hy1⟩) rfl rfl hl.1 rfl (lv_room (Nat.le_of_ble_eq_true rfl)) dX1_takeUp_2 ⟨Nat.le_of_ble_eq_true rfl, Nat.le_of_ble_eq_true rfl⟩) hP hD hS hA (fun r3 u2 H locs hv hP hD hS => ?_)
    have h1 := congrArg Prod.fst hv
    have h2 := (congrArg Prod.snd hv).symm
    dsimp only at h1 h2
    subst h1
    subst h2
    refine cAstore_n (ad := ad) (r := (f_Y0_placeAt S x0 x1)) (i := 2) (lv' := [(2, va_re ad (f_Y0_placeAt S x0 x1)), (0, .ref (ad x0)), (1, .int x1)]) hx hb dX1_takeUp_5 rfl hl (by decide) rfl (fun ls_ hl => ?_)
    refine cAload_n (ad := ad) (r := (f_Y0_placeAt S x0 x1)) hx hb dX1_takeUp_6 rfl (lv_at hl 0 rfl) ?_
    refine cIfnull (ad := ad) (r := (f_Y0_placeAt S x0 x1)) (tgt := 18) hx hb dX1_takeUp_7 (by decide) (fun c4 => ?_) (fun c4 => ?_)
    · rw [if_pos c4] at hE hp
      exact B_Y1_takeUp_18 S x1 (f_Y0_placeAt S x0 x1) _ _ _ hE hp hZ hP hD hS (lv_sub hl [1, 2, 0] rfl)
    · rw [if_neg c4] at hE hp
      refine lv_aload_n hx hb dX1_takeUp_10 rfl (lv_at hl 1 rfl) ?_
      refine va_get (D := G) (ci := 0) (v := va_re ad (grC S x0 2)) (C := RX0) (T := TX0) (N := 11) hx hb hts iX0 hown hK hP x0 (at_0 (k_x0.e hZ)) rfl 2 (by decide) (hw (.fieldLink RX1 121 "MotionFloor$Assembly" "draft" "LMotionFloor$Place;") (List.mem_of_getElem? (i := 4) rfl)) (fun _ h9 => h9) rfl dX1_takeUp_11 ?_
      refine cAload_n (ad := ad) (r := (f_Y0_placeAt S x0 x1)) hx hb dX1_takeUp_14 rfl (lv_at hl 0 rfl) ?_
      obtain ⟨hy12, hp⟩ := hp
      refine cTop2 (r := (grC S x0 2)) hy12.1 ?_
      obtain ⟨hy13, hp⟩ := hp
      refine cTop (r := (f_Y0_placeAt S x0 x1)) hy13.1 ?_
      obtain ⟨hy14, hp⟩ := hp
      refine cGov (va_runV (As := [.ref (ad ((f_Y0_placeAt S x0 x1).getD 0))]) (rest := []) ⟨hx, hb, hml, hown, hts⟩ (c_Y6_takeFrom l G K ad S ((grC S x0 2).getD 0) ((f_Y0_placeAt S x0 x1).getD 0) _) (cwV 1 hts (wGV t_ (mw (.methodLink RX1 177 yX6_takeFrom) (List.mem_of_getElem? (i := 10) rfl)) (mw (.instanceMethod yX6_takeFrom) (List.mem_of_getElem? (i := 11) rfl)) (mw (.selects RX6 yX6_takeFrom yX6_takeFrom) (List.mem_of_getElem? (i := 12) rfl)) (mw (.initialized RX6) (List.mem_of_getElem? (i := 9) rfl)) j_Y6_takeFrom) rfl rfl rfl (by decide +kernel) ⟨Nat.le_of_ble_eq_true rfl, Nat.le_of_ble_eq_true rfl⟩) (cPV hK hTE hP hD 5 rfl (at_5 hy12.2) ⟨hy12.2, hy13.2, hy14⟩) rfl rfl hl.1 rfl (lv_room (Nat.le_of_ble_eq_true rfl)) dX1_takeUp_15 ⟨Nat.le_of_ble_eq_true rfl, Nat.le_of_ble_eq_true rfl⟩) hP hD hS hA (fun u15 H locs hv hP hD hS => ?_)
      obtain ⟨hv, hz⟩ := hv
      have hZ := hZ.tr hz
      rw [← hv] at hE hp
      dsimp only at hE hp
      exact B_Y1_takeUp_18 u15 x1 (f_Y0_placeAt S x0 x1) _ _ _ hE hp hZ hP hD hS (lv_sub hl [1, 2, 0] rfl)
  exact B_M S0 a1 _ _ _ hX hp (eK.rf S0) hP hD hS hl
theorem dX1_bringUp_0 : decode cX1_bringUp 0 = .ok (.aload_n 0, 1) := by decide +kernel
theorem dX1_bringUp_1 : decode cX1_bringUp 1 = .ok (.getfield 121, 3) := by decide +kernel
theorem dX1_bringUp_4 : decode cX1_bringUp 4 = .ok (.invokevirtual 139, 3) := by decide +kernel
theorem dX1_bringUp_7 : decode cX1_bringUp 7 = .ok (.astore_n 2, 1) := by decide +kernel
theorem dX1_bringUp_8 : decode cX1_bringUp 8 = .ok (.aload_n 2, 1) := by decide +kernel
theorem dX1_bringUp_9 : decode cX1_bringUp 9 = .ok (.ifnull 31, 3) := by decide +kernel
theorem dX1_bringUp_12 : decode cX1_bringUp 12 = .ok (.aload_n 0, 1) := by decide +kernel
theorem dX1_bringUp_13 : decode cX1_bringUp 13 = .ok (.dup, 1) := by decide +kernel
theorem dX1_bringUp_14 : decode cX1_bringUp 14 = .ok (.getfield 187, 3) := by decide +kernel
theorem dX1_bringUp_17 : decode cX1_bringUp 17 = .ok (.iconst 1, 1) := by decide +kernel
theorem dX1_bringUp_18 : decode cX1_bringUp 18 = .ok (.iadd, 1) := by decide +kernel
theorem dX1_bringUp_19 : decode cX1_bringUp 19 = .ok (.putfield 187, 3) := by decide +kernel
theorem dX1_bringUp_22 : decode cX1_bringUp 22 = .ok (.aload_n 2, 1) := by decide +kernel
theorem dX1_bringUp_23 : decode cX1_bringUp 23 = .ok (.aload_n 0, 1) := by decide +kernel
theorem dX1_bringUp_24 : decode cX1_bringUp 24 = .ok (.getfield 187, 3) := by decide +kernel
theorem dX1_bringUp_27 : decode cX1_bringUp 27 = .ok (.putfield 171, 3) := by decide +kernel
theorem dX1_bringUp_30 : decode cX1_bringUp 30 = .ok (.aload_n 2, 1) := by decide +kernel
theorem dX1_bringUp_31 : decode cX1_bringUp 31 = .ok (.iload_n 1, 1) := by decide +kernel
theorem dX1_bringUp_32 : decode cX1_bringUp 32 = .ok (.putfield 190, 3) := by decide +kernel
theorem dX1_bringUp_35 : decode cX1_bringUp 35 = .ok (.aload_n 2, 1) := by decide +kernel
theorem dX1_bringUp_36 : decode cX1_bringUp 36 = .ok (.iconst 0, 1) := by decide +kernel
theorem dX1_bringUp_37 : decode cX1_bringUp 37 = .ok (.putfield 163, 3) := by decide +kernel
theorem dX1_bringUp_40 : decode cX1_bringUp 40 = .ok (.aload_n 0, 1) := by decide +kernel
theorem dX1_bringUp_41 : decode cX1_bringUp 41 = .ok (.getfield 121, 3) := by decide +kernel
theorem dX1_bringUp_44 : decode cX1_bringUp 44 = .ok (.getfield 193, 3) := by decide +kernel
theorem dX1_bringUp_47 : decode cX1_bringUp 47 = .ok (.aload_n 0, 1) := by decide +kernel
theorem dX1_bringUp_48 : decode cX1_bringUp 48 = .ok (.getfield 9, 3) := by decide +kernel
theorem dX1_bringUp_51 : decode cX1_bringUp 51 = .ok (.invokevirtual 196, 3) := by decide +kernel
theorem dX1_bringUp_54 : decode cX1_bringUp 54 = .ok (.aload_n 0, 1) := by decide +kernel
theorem dX1_bringUp_55 : decode cX1_bringUp 55 = .ok (.getfield 121, 3) := by decide +kernel
theorem dX1_bringUp_58 : decode cX1_bringUp 58 = .ok (.iconst 0, 1) := by decide +kernel
theorem dX1_bringUp_59 : decode cX1_bringUp 59 = .ok (.putfield 180, 3) := by decide +kernel
theorem dX1_bringUp_62 : decode cX1_bringUp 62 = .ok (.aload_n 0, 1) := by decide +kernel
theorem dX1_bringUp_63 : decode cX1_bringUp 63 = .ok (.getfield 21, 3) := by decide +kernel
theorem dX1_bringUp_66 : decode cX1_bringUp 66 = .ok (.iconst (-1), 1) := by decide +kernel
theorem dX1_bringUp_67 : decode cX1_bringUp 67 = .ok (.putfield 112, 3) := by decide +kernel
theorem dX1_bringUp_70 : decode cX1_bringUp 70 = .ok (.aload_n 0, 1) := by decide +kernel
theorem dX1_bringUp_71 : decode cX1_bringUp 71 = .ok (.getfield 9, 3) := by decide +kernel
theorem dX1_bringUp_74 : decode cX1_bringUp 74 = .ok (.getfield 96, 3) := by decide +kernel
theorem dX1_bringUp_77 : decode cX1_bringUp 77 = .ok (.ireturn, 1) := by decide +kernel
set_option maxRecDepth 100000 in
theorem zc359 : wZ (.fieldLink RX1 190 "MotionFloor$Motion" "mover" "I") := ⟨wT3 (List.mem_of_getElem? (i := 22) (by decide +kernel)), Or.inl rfl⟩
set_option maxRecDepth 100000 in
theorem zc360 : wZ (.fieldLink RX1 187 "MotionFloor$Assembly" "names" "I") := ⟨wT1 (List.mem_of_getElem? (i := 208) (by decide +kernel)), Or.inl rfl⟩
set_option maxRecDepth 100000 in
theorem zc361 : wZ (.fieldLink RX1 96 "MotionFloor$Pile" "size" "I") := ⟨wT1 (List.mem_of_getElem? (i := 88) (by decide +kernel)), Or.inl rfl⟩
set_option maxRecDepth 100000 in
theorem zc362 : wZ (.fieldLink RX1 21 "MotionFloor$Assembly" "house" "LMotionFloor$House;") := ⟨wT1 (List.mem_of_getElem? (i := 179) (by decide +kernel)), Or.inl rfl⟩
set_option maxRecDepth 100000 in
theorem zc363 : wZ (.methodLink RX1 196 yX5_pourInto) := ⟨wT3 (List.mem_of_getElem? (i := 150) (by decide +kernel)), Or.inl rfl⟩
set_option maxRecDepth 100000 in
theorem zc364 : wZ (.fieldLink RX1 193 "MotionFloor$Place" "pile" "LMotionFloor$Pile;") := ⟨wT1 (List.mem_of_getElem? (i := 114) (by decide +kernel)), Or.inl rfl⟩
set_option maxRecDepth 100000 in
theorem zc365 : wZ (.code yX1_bringUp cX1_bringUp 3 (some .int)) := ⟨wT3 (List.mem_of_getElem? (i := 149) rfl), Or.inl rfl⟩
def b_Y1_bringUp_54a (S : Cst) (x0 : Nat) (x1 : Int32) (x2 : Option Nat) : Int32 × Cst := ((giC (siC (siC S ((grC S x0 2).getD 0) 0 (0 : Int32)) ((grC (siC S ((grC S x0 2).getD 0) 0 (0 : Int32)) x0 0).getD 0) 6 ((-1) : Int32)) ((grC (siC (siC S ((grC S x0 2).getD 0) 0 (0 : Int32)) ((grC (siC S ((grC S x0 2).getD 0) 0 (0 : Int32)) x0 0).getD 0) 6 ((-1) : Int32)) x0 1).getD 0) 1), (siC (siC S ((grC S x0 2).getD 0) 0 (0 : Int32)) ((grC (siC S ((grC S x0 2).getD 0) 0 (0 : Int32)) x0 0).getD 0) 6 ((-1) : Int32)))
def q_Y1_bringUp_54a (S : Cst) (x0 : Nat) (x1 : Int32) (x2 : Option Nat) : Prop := (iR S (grC S x0 2) 5) ∧ (iR (siC S ((grC S x0 2).getD 0) 0 (0 : Int32)) (grC (siC S ((grC S x0 2).getD 0) 0 (0 : Int32)) x0 0) 1) ∧ (iR (siC (siC S ((grC S x0 2).getD 0) 0 (0 : Int32)) ((grC (siC S ((grC S x0 2).getD 0) 0 (0 : Int32)) x0 0).getD 0) 6 ((-1) : Int32)) (grC (siC (siC S ((grC S x0 2).getD 0) 0 (0 : Int32)) ((grC (siC S ((grC S x0 2).getD 0) 0 (0 : Int32)) x0 0).getD 0) 6 ((-1) : Int32)) x0 1) 4) ∧ True
def b_Y1_bringUp_40 (S : Cst) (x0 : Nat) (x1 : Int32) (x2 : Option Nat) : Int32 × Cst := (b_Y1_bringUp_54a ((f_Y5_pourInto S ((grC S ((grC S x0 2).getD 0) 1).getD 0) ((grC S x0 1).getD 0)).2) x0 x1 x2)
def q_Y1_bringUp_40 (S : Cst) (x0 : Nat) (x1 : Int32) (x2 : Option Nat) : Prop := (iR S (grC S x0 2) 5) ∧ (iR S (grC S ((grC S x0 2).getD 0) 1) 4) ∧ (iR S (grC S x0 1) 4) ∧ (p_Y5_pourInto S ((grC S ((grC S x0 2).getD 0) 1).getD 0) ((grC S x0 1).getD 0)) ∧ (q_Y1_bringUp_54a ((f_Y5_pourInto S ((grC S ((grC S x0 2).getD 0) 1).getD 0) ((grC S x0 1).getD 0)).2) x0 x1 x2)
def f_Y1_bringUp (S : Cst) (x0 : Nat) (x1 : Int32) : Int32 × Cst := if (f_Y6_motion S ((grC S x0 2).getD 0)) = none then (b_Y1_bringUp_40 S x0 x1 (f_Y6_motion S ((grC S x0 2).getD 0))) else (b_Y1_bringUp_40 (siC (siC (siC (siC S x0 8 ((giC S x0 8) + 1)) ((f_Y6_motion S ((grC S x0 2).getD 0)).getD 0) 0 (giC (siC S x0 8 ((giC S x0 8) + 1)) x0 8)) ((f_Y6_motion S ((grC S x0 2).getD 0)).getD 0) 3 x1) ((f_Y6_motion S ((grC S x0 2).getD 0)).getD 0) 10 (0 : Int32)) x0 x1 (f_Y6_motion S ((grC S x0 2).getD 0)))
def p_Y1_bringUp (S : Cst) (x0 : Nat) (x1 : Int32) : Prop := (iR S (grC S x0 2) 5) ∧ (p_Y6_motion S ((grC S x0 2).getD 0)) ∧ (if (f_Y6_motion S ((grC S x0 2).getD 0)) = none then (q_Y1_bringUp_40 S x0 x1 (f_Y6_motion S ((grC S x0 2).getD 0))) else (iR (siC S x0 8 ((giC S x0 8) + 1)) (f_Y6_motion S ((grC S x0 2).getD 0)) 3) ∧ (iR (siC (siC S x0 8 ((giC S x0 8) + 1)) ((f_Y6_motion S ((grC S x0 2).getD 0)).getD 0) 0 (giC (siC S x0 8 ((giC S x0 8) + 1)) x0 8)) (f_Y6_motion S ((grC S x0 2).getD 0)) 3) ∧ (iR (siC (siC (siC S x0 8 ((giC S x0 8) + 1)) ((f_Y6_motion S ((grC S x0 2).getD 0)).getD 0) 0 (giC (siC S x0 8 ((giC S x0 8) + 1)) x0 8)) ((f_Y6_motion S ((grC S x0 2).getD 0)).getD 0) 3 x1) (f_Y6_motion S ((grC S x0 2).getD 0)) 3) ∧ (q_Y1_bringUp_40 (siC (siC (siC (siC S x0 8 ((giC S x0 8) + 1)) ((f_Y6_motion S ((grC S x0 2).getD 0)).getD 0) 0 (giC (siC S x0 8 ((giC S x0 8) + 1)) x0 8)) ((f_Y6_motion S ((grC S x0 2).getD 0)).getD 0) 3 x1) ((f_Y6_motion S ((grC S x0 2).getD 0)).getD 0) 10 (0 : Int32)) x0 x1 (f_Y6_motion S ((grC S x0 2).getD 0))))
def e_Y1_bringUp : List Cond := [.fieldLink RX1 121 "MotionFloor$Assembly" "draft" "LMotionFloor$Place;", .methodLink RX1 139 yX6_motion, .instanceMethod yX6_motion, .selects RX6 yX6_motion yX6_motion, .initialized RX6, .fieldLink RX1 193 "MotionFloor$Place" "pile" "LMotionFloor$Pile;", .fieldLink RX1 9 "MotionFloor$Assembly" "pending" "LMotionFloor$Pile;", .methodLink RX1 196 yX5_pourInto, .instanceMethod yX5_pourInto, .selects RX5 yX5_pourInto yX5_pourInto, .initialized RX5, .fieldLink RX1 180 "MotionFloor$Place" "sort" "I", .fieldLink RX1 21 "MotionFloor$Assembly" "house" "LMotionFloor$House;", .fieldLink RX1 112 "MotionFloor$House" "speaker" "I", .fieldLink RX1 96 "MotionFloor$Pile" "size" "I", .fieldLink RX1 187 "MotionFloor$Assembly" "names" "I", .fieldLink RX1 171 "MotionFloor$Motion" "name" "I", .fieldLink RX1 190 "MotionFloor$Motion" "mover" "I", .fieldLink RX1 163 "MotionFloor$Motion" "laid" "Z"]
def v_Y1_bringUp : List Cond := .code yX1_bringUp cX1_bringUp 3 (some .int) :: (e_Y1_bringUp ++ (wsX00 ++ (wsX60 ++ (wsX20 ++ (wsX50 ++ (wsX40 ++ (v_Y6_motion ++ (v_Y5_pourInto ++ []))))))))
theorem te_Y1_bringUp : GoodIn lw_tbl e_Y1_bringUp := wGc zc323 (wGc zc322 (wGc zc133 (wGc zc132 (wGc zc118 (wGc zc364 (wGc zc349 (wGc zc363 (wGc zc338 (wGc zc337 (wGc zc34 (wGc zc357 (wGc zc362 (wGc zc315 (wGc zc361 (wGc zc360 (wGc zc341 (wGc zc359 (wGc zc344 (wG0)))))))))))))))))))
theorem t_Y1_bringUp : GoodIn lw_tbl v_Y1_bringUp := wGc zc365 (wGa te_Y1_bringUp (wGa zcX0 (wGa zcX6 (wGa zcX2 (wGa zcX5 (wGa zcX4 (wGa t_Y6_motion (wGa t_Y5_pourInto (wG0)))))))))
set_option maxHeartbeats 4000000 in
set_option maxRecDepth 100000 in
theorem c_Y1_bringUp (l : Launch) (G : va_G) (K : Nat → ClassId) (ad : Nat → Nat) (S0 : Cst) (x0 : Nat) (a1 : Int32) (sz : Nat) : Met l yX1_bringUp v_Y1_bringUp ({ frames := 2, cells := 0, slots := 0, locals := 43 }) (va_Pc [.ref (ad x0), .int a1] (cSt G K ad sz S0 (iK S0 x0 0 ∧ p_Y1_bringUp S0 x0 a1))) (va_Qi (fun (r : Int32) (u : Cst) => (r, u) = f_Y1_bringUp S0 x0 a1 ∧ eK S0 u) (cBt G K ad (va_A (wsC K ad S0) sz)) (va_A (wsC K ad S0) sz)) 0 0 (va_A (wsC K ad S0) sz) := by
  refine Met.ofW (cc := cX1_bringUp) (maxL := 3) (ret := (some .int)) (by decide) rfl ?_
  intro p e s m args below meth c s₁ B hml hv
  obtain ⟨rfl, ⟨hsz, hP, hK, hD0, hTE⟩, hp⟩ := hv
  obtain ⟨k_x0, hp⟩ := hp
  have hx := B.exec
  have hb := B.bytes
  have hr := B.returns
  have hts := atoms_spec (ws := v_Y1_bringUp) B.pre
  have t_ := t_Y1_bringUp
  have mw : ∀ w ∈ e_Y1_bringUp, w ∈ v_Y1_bringUp := fun w h => List.mem_cons_of_mem _ (List.mem_append_left _ h)
  have hw := fun w (h : w ∈ e_Y1_bringUp) => hts w (mw w h)
  have iX0 : ∀ w ∈ wsX00, w ∈ v_Y1_bringUp := fun w h => List.mem_cons_of_mem _ (List.mem_append_right _ (List.mem_append_left _ h))
  have iX6 : ∀ w ∈ wsX60, w ∈ v_Y1_bringUp := fun w h => List.mem_cons_of_mem _ (List.mem_append_right _ (List.mem_append_right _ (List.mem_append_left _ h)))
  have iX2 : ∀ w ∈ wsX20, w ∈ v_Y1_bringUp := fun w h => List.mem_cons_of_mem _ (List.mem_append_right _ (List.mem_append_right _ (List.mem_append_right _ (List.mem_append_left _ h))))
  have iX5 : ∀ w ∈ wsX50, w ∈ v_Y1_bringUp := fun w h => List.mem_cons_of_mem _ (List.mem_append_right _ (List.mem_append_right _ (List.mem_append_right _ (List.mem_append_right _ (List.mem_append_left _ h)))))
  have iX4 : ∀ w ∈ wsX40, w ∈ v_Y1_bringUp := fun w h => List.mem_cons_of_mem _ (List.mem_append_right _ (List.mem_append_right _ (List.mem_append_right _ (List.mem_append_right _ (List.mem_append_right _ (List.mem_append_left _ h))))))
  have j_Y6_motion : ∀ w ∈ v_Y6_motion, w ∈ v_Y1_bringUp := fun w h => List.mem_cons_of_mem _ (List.mem_append_right _ (List.mem_append_right _ (List.mem_append_right _ (List.mem_append_right _ (List.mem_append_right _ (List.mem_append_right _ (List.mem_append_left _ h)))))))
  have j_Y5_pourInto : ∀ w ∈ v_Y5_pourInto, w ∈ v_Y1_bringUp := fun w h => List.mem_cons_of_mem _ (List.mem_append_right _ (List.mem_append_right _ (List.mem_append_right _ (List.mem_append_right _ (List.mem_append_right _ (List.mem_append_right _ (List.mem_append_right _ (List.mem_append_left _ h))))))))
  have hown : s.vm.findClass RX1 = some m.cls := findClass_of_methodNamed B.named
  have hlocks := B.notSynchronized
  subst hsz
  have hD := hD0.self (sz := s.heap.size)
  generalize hAe : va_A (wsC K ad S0) s.heap.size = A at hD ⊢
  have hA : ∀ q : Nat, s.heap.size ≤ q → A q := fun q h => by rw [← hAe]; exact Or.inr h
  have hS : va_S A s.heap s.heap [] := va_S.rf
  have hl : lv_has (lg_sl ([.ref (ad x0), .int a1]) ++ List.replicate (3 - (lg_sl ([.ref (ad x0), .int a1])).length) Slot.unset).toArray 3 [(0, .ref (ad x0)), (1, .int a1)] := by
    exact lv_entry ([.ref (ad x0), .int a1]) (n := 3) (Nat.le_of_ble_eq_true rfl)
  rw [lg_entry_eq]
  generalize (lg_sl ([.ref (ad x0), .int a1]) ++ List.replicate (3 - (lg_sl ([.ref (ad x0), .int a1])).length) Slot.unset).toArray = ls_ at hl ⊢
  refine wGen (fun Q hQ => ?_)
  obtain ⟨X, hX⟩ : ∃ X, f_Y1_bringUp S0 x0 a1 = X := ⟨_, rfl⟩
  have B_Y1_bringUp_54a : ∀ (S : Cst) (x1 : Int32) (x2 : Option Nat) (H : Heap) (locs : List Loc) (ls_ : Array Slot), b_Y1_bringUp_54a S x0 x1 x2 = X → q_Y1_bringUp_54a S x0 x1 x2 → eK S0 S → va_P G vwCl (wsC K ad S) H → va_D A (wsC K ad S) → va_S A s.heap H locs → lv_has ls_ 3 [(0, .ref (ad x0)), (1, .int x1), (2, va_re ad x2)] → W p l e ({ frames := 2, cells := 0, slots := 0, locals := 43 } : Room) s m #[Value.ref (ad x0), Value.int a1] below meth c H locs 0 0 Q (F0 m 54 ls_ []) := by
    intro S x1 x2 H locs ls_ hE hp hZ hP hD hS hl
    unfold b_Y1_bringUp_54a at hE
    unfold q_Y1_bringUp_54a at hp
    refine lv_aload_n hx hb dX1_bringUp_54 rfl (lv_at hl 0 rfl) ?_
    refine va_get (D := G) (ci := 0) (v := va_re ad (grC S x0 2)) (C := RX0) (T := TX0) (N := 11) hx hb hts iX0 hown hK hP x0 (at_0 (k_x0.e hZ)) rfl 2 (by decide) (hw (.fieldLink RX1 121 "MotionFloor$Assembly" "draft" "LMotionFloor$Place;") (List.mem_of_getElem? (i := 0) rfl)) (fun _ h9 => h9) rfl dX1_bringUp_55 ?_
    refine lv_iconst (v := 0) hx hb dX1_bringUp_58 (by decide) ?_
    obtain ⟨hy12, hp⟩ := hp
    refine cTop2 (r := (grC S x0 2)) hy12.1 ?_
    refine va_put (D := G) (ci := 5) (v := .int 0) (ty := .int) (C := RX6) (T := TX6) (N := 2) hx hb hts iX6 tyX6 tyX6_ok nmX6 hown hK hP hD hS ((grC S x0 2).getD 0) (at_5 hy12.2) rfl 0 (by decide) (hw (.fieldLink RX1 180 "MotionFloor$Place" "sort" "I") (List.mem_of_getElem? (i := 11) rfl)) (fun _ h9 => h9) rfl (by decide +kernel) rfl rfl (Nat.le_of_ble_eq_true rfl) dX1_bringUp_59 (fun H locs hP hD hS => ?_)
    rw [st_5_0 hy12.2] at hP hD
    have hZ := hZ.tr (eK.si S ((grC S x0 2).getD 0) 0 (0 : Int32))
    refine lv_aload_n hx hb dX1_bringUp_62 rfl (lv_at hl 0 rfl) ?_
    refine va_get (D := G) (ci := 0) (v := va_re ad (grC (siC S ((grC S x0 2).getD 0) 0 (0 : Int32)) x0 0)) (C := RX0) (T := TX0) (N := 11) hx hb hts iX0 hown hK hP x0 (at_0 (k_x0.e hZ)) rfl 0 (by decide) (hw (.fieldLink RX1 21 "MotionFloor$Assembly" "house" "LMotionFloor$House;") (List.mem_of_getElem? (i := 12) rfl)) (fun _ h9 => h9) rfl dX1_bringUp_63 ?_
    refine lv_iconst (v := (-1)) hx hb dX1_bringUp_66 (by decide) ?_
    obtain ⟨hy13, hp⟩ := hp
    refine cTop2 (r := (grC (siC S ((grC S x0 2).getD 0) 0 (0 : Int32)) x0 0)) hy13.1 ?_
    refine va_put (D := G) (ci := 1) (v := .int (-1)) (ty := .int) (C := RX2) (T := TX2) (N := 8) hx hb hts iX2 tyX2 tyX2_ok nmX2 hown hK hP hD hS ((grC (siC S ((grC S x0 2).getD 0) 0 (0 : Int32)) x0 0).getD 0) (at_1 hy13.2) rfl 6 (by decide) (hw (.fieldLink RX1 112 "MotionFloor$House" "speaker" "I") (List.mem_of_getElem? (i := 13) rfl)) (fun _ h9 => h9) rfl (by decide +kernel) rfl rfl (Nat.le_of_ble_eq_true rfl) dX1_bringUp_67 (fun H locs hP hD hS => ?_)
    rw [st_1_6 hy13.2] at hP hD
    have hZ := hZ.tr (eK.si (siC S ((grC S x0 2).getD 0) 0 (0 : Int32)) ((grC (siC S ((grC S x0 2).getD 0) 0 (0 : Int32)) x0 0).getD 0) 6 ((-1) : Int32))
    refine lv_aload_n hx hb dX1_bringUp_70 rfl (lv_at hl 0 rfl) ?_
    refine va_get (D := G) (ci := 0) (v := va_re ad (grC (siC (siC S ((grC S x0 2).getD 0) 0 (0 : Int32)) ((grC (siC S ((grC S x0 2).getD 0) 0 (0 : Int32)) x0 0).getD 0) 6 ((-1) : Int32)) x0 1)) (C := RX0) (T := TX0) (N := 11) hx hb hts iX0 hown hK hP x0 (at_0 (k_x0.e hZ)) rfl 1 (by decide) (hw (.fieldLink RX1 9 "MotionFloor$Assembly" "pending" "LMotionFloor$Pile;") (List.mem_of_getElem? (i := 6) rfl)) (fun _ h9 => h9) rfl dX1_bringUp_71 ?_
    obtain ⟨hy14, hp⟩ := hp
    refine cTop (r := (grC (siC (siC S ((grC S x0 2).getD 0) 0 (0 : Int32)) ((grC (siC S ((grC S x0 2).getD 0) 0 (0 : Int32)) x0 0).getD 0) 6 ((-1) : Int32)) x0 1)) hy14.1 ?_
    refine va_get (D := G) (ci := 4) (v := .int (giC (siC (siC S ((grC S x0 2).getD 0) 0 (0 : Int32)) ((grC (siC S ((grC S x0 2).getD 0) 0 (0 : Int32)) x0 0).getD 0) 6 ((-1) : Int32)) ((grC (siC (siC S ((grC S x0 2).getD 0) 0 (0 : Int32)) ((grC (siC S ((grC S x0 2).getD 0) 0 (0 : Int32)) x0 0).getD 0) 6 ((-1) : Int32)) x0 1).getD 0) 1)) (C := RX5) (T := TX5) (N := 2) hx hb hts iX5 hown hK hP ((grC (siC (siC S ((grC S x0 2).getD 0) 0 (0 : Int32)) ((grC (siC S ((grC S x0 2).getD 0) 0 (0 : Int32)) x0 0).getD 0) 6 ((-1) : Int32)) x0 1).getD 0) (at_4 hy14.2) rfl 1 (by decide) (hw (.fieldLink RX1 96 "MotionFloor$Pile" "size" "I") (List.mem_of_getElem? (i := 14) rfl)) (fun _ h9 => h9) rfl dX1_bringUp_74 ?_
    subst hQ
    exact W.iret (v := (giC (siC (siC S ((grC S x0 2).getD 0) 0 (0 : Int32)) ((grC (siC S ((grC S x0 2).getD 0) 0 (0 : Int32)) x0 0).getD 0) 6 ((-1) : Int32)) ((grC (siC (siC S ((grC S x0 2).getD 0) 0 (0 : Int32)) ((grC (siC S ((grC S x0 2).getD 0) 0 (0 : Int32)) x0 0).getD 0) 6 ((-1) : Int32)) x0 1).getD 0) 1)) hx hb hr (fun t ht hW => ⟨⟨(giC (siC (siC S ((grC S x0 2).getD 0) 0 (0 : Int32)) ((grC (siC S ((grC S x0 2).getD 0) 0 (0 : Int32)) x0 0).getD 0) 6 ((-1) : Int32)) ((grC (siC (siC S ((grC S x0 2).getD 0) 0 (0 : Int32)) ((grC (siC S ((grC S x0 2).getD 0) 0 (0 : Int32)) x0 0).getD 0) 6 ((-1) : Int32)) x0 1).getD 0) 1), (siC (siC S ((grC S x0 2).getD 0) 0 (0 : Int32)) ((grC (siC S ((grC S x0 2).getD 0) 0 (0 : Int32)) x0 0).getD 0) 6 ((-1) : Int32)), rfl, ⟨hE.trans hX.symm, hZ⟩, by rw [ht]; exact hP, hD⟩, hS.F ht⟩) hS.2.2 dX1_bringUp_77
  have B_Y1_bringUp_40 : ∀ (S : Cst) (x1 : Int32) (x2 : Option Nat) (H : Heap) (locs : List Loc) (ls_ : Array Slot), b_Y1_bringUp_40 S x0 x1 x2 = X → q_Y1_bringUp_40 S x0 x1 x2 → eK S0 S → va_P G vwCl (wsC K ad S) H → va_D A (wsC K ad S) → va_S A s.heap H locs → lv_has ls_ 3 [(0, .ref (ad x0)), (1, .int x1), (2, va_re ad x2)] → W p l e ({ frames := 2, cells := 0, slots := 0, locals := 43 } : Room) s m #[Value.ref (ad x0), Value.int a1] below meth c H locs 0 0 Q (F0 m 40 ls_ []) := by
    intro S x1 x2 H locs ls_ hE hp hZ hP hD hS hl
    unfold b_Y1_bringUp_40 at hE
    unfold q_Y1_bringUp_40 at hp
    refine lv_aload_n hx hb dX1_bringUp_40 rfl (lv_at hl 0 rfl) ?_
    refine va_get (D := G) (ci := 0) (v := va_re ad (grC S x0 2)) (C := RX0) (T := TX0) (N := 11) hx hb hts iX0 hown hK hP x0 (at_0 (k_x0.e hZ)) rfl 2 (by decide) (hw (.fieldLink RX1 121 "MotionFloor$Assembly" "draft" "LMotionFloor$Place;") (List.mem_of_getElem? (i := 0) rfl)) (fun _ h9 => h9) rfl dX1_bringUp_41 ?_
    obtain ⟨hy6, hp⟩ := hp
    refine cTop (r := (grC S x0 2)) hy6.1 ?_
    refine va_get (D := G) (ci := 5) (v := va_re ad (grC S ((grC S x0 2).getD 0) 1)) (C := RX6) (T := TX6) (N := 2) hx hb hts iX6 hown hK hP ((grC S x0 2).getD 0) (at_5 hy6.2) rfl 1 (by decide) (hw (.fieldLink RX1 193 "MotionFloor$Place" "pile" "LMotionFloor$Pile;") (List.mem_of_getElem? (i := 5) rfl)) (fun _ h9 => h9) rfl dX1_bringUp_44 ?_
    refine lv_aload_n hx hb dX1_bringUp_47 rfl (lv_at hl 0 rfl) ?_
    refine va_get (D := G) (ci := 0) (v := va_re ad (grC S x0 1)) (C := RX0) (T := TX0) (N := 11) hx hb hts iX0 hown hK hP x0 (at_0 (k_x0.e hZ)) rfl 1 (by decide) (hw (.fieldLink RX1 9 "MotionFloor$Assembly" "pending" "LMotionFloor$Pile;") (List.mem_of_getElem? (i := 6) rfl)) (fun _ h9 => h9) rfl dX1_bringUp_48 ?_
    obtain ⟨hy7, hp⟩ := hp
    refine cTop2 (r := (grC S ((grC S x0 2).getD 0) 1)) hy7.1 ?_
    obtain ⟨hy8, hp⟩ := hp
    refine cTop (r := (grC S x0 1)) hy8.1 ?_
    obtain ⟨hy9, hp⟩ := hp
    refine cGov (va_runV (As := [.ref (ad ((grC S x0 1).getD 0))]) (rest := []) ⟨hx, hb, hml, hown, hts⟩ (c_Y5_pourInto l G K ad S ((grC S ((grC S x0 2).getD 0) 1).getD 0) ((grC S x0 1).getD 0) _) (cwV 1 hts (wGV t_ (mw (.methodLink RX1 196 yX5_pourInto) (List.mem_of_getElem? (i := 7) rfl)) (mw (.instanceMethod yX5_pourInto) (List.mem_of_getElem? (i := 8) rfl)) (mw (.selects RX5 yX5_pourInto yX5_pourInto) (List.mem_of_getElem? (i := 9) rfl)) (mw (.initialized RX5) (List.mem_of_getElem? (i := 10) rfl)) j_Y5_pourInto) rfl rfl rfl (by decide +kernel) ⟨Nat.le_of_ble_eq_true rfl, Nat.le_of_ble_eq_true rfl⟩) (cPV hK hTE hP hD 4 rfl (at_4 hy7.2) ⟨hy7.2, hy8.2, hy9⟩) rfl rfl hl.1 rfl (lv_room (Nat.le_of_ble_eq_true rfl)) dX1_bringUp_51 ⟨Nat.le_of_ble_eq_true rfl, Nat.le_of_ble_eq_true rfl⟩) hP hD hS hA (fun u10 H locs hv hP hD hS => ?_)
    obtain ⟨hv, hz⟩ := hv
    have hZ := hZ.tr hz
    rw [← hv] at hE hp
    dsimp only at hE hp
    exact B_Y1_bringUp_54a u10 x1 x2 _ _ _ hE hp hZ hP hD hS (lv_sub hl [0, 1, 2] rfl)
  have B_M : ∀ (S : Cst) (x1 : Int32) (H : Heap) (locs : List Loc) (ls_ : Array Slot), f_Y1_bringUp S x0 x1 = X → p_Y1_bringUp S x0 x1 → eK S0 S → va_P G vwCl (wsC K ad S) H → va_D A (wsC K ad S) → va_S A s.heap H locs → lv_has ls_ 3 [(0, .ref (ad x0)), (1, .int x1)] → W p l e ({ frames := 2, cells := 0, slots := 0, locals := 43 } : Room) s m #[Value.ref (ad x0), Value.int a1] below meth c H locs 0 0 Q (F0 m 0 ls_ []) := by
    intro S x1 H locs ls_ hE hp hZ hP hD hS hl
    unfold f_Y1_bringUp at hE
    unfold p_Y1_bringUp at hp
    refine lv_aload_n hx hb dX1_bringUp_0 rfl (lv_at hl 0 rfl) ?_
    refine va_get (D := G) (ci := 0) (v := va_re ad (grC S x0 2)) (C := RX0) (T := TX0) (N := 11) hx hb hts iX0 hown hK hP x0 (at_0 (k_x0.e hZ)) rfl 2 (by decide) (hw (.fieldLink RX1 121 "MotionFloor$Assembly" "draft" "LMotionFloor$Place;") (List.mem_of_getElem? (i := 0) rfl)) (fun _ h9 => h9) rfl dX1_bringUp_1 ?_
    obtain ⟨hy1, hp⟩ := hp
    refine cTop (r := (grC S x0 2)) hy1.1 ?_
    obtain ⟨hy2, hp⟩ := hp
    refine cGoq (va_runV (As := []) (rest := []) ⟨hx, hb, hml, hown, hts⟩ (c_Y6_motion l G K ad S ((grC S x0 2).getD 0) _) (cwV 0 hts (wGV t_ (mw (.methodLink RX1 139 yX6_motion) (List.mem_of_getElem? (i := 1) rfl)) (mw (.instanceMethod yX6_motion) (List.mem_of_getElem? (i := 2) rfl)) (mw (.selects RX6 yX6_motion yX6_motion) (List.mem_of_getElem? (i := 3) rfl)) (mw (.initialized RX6) (List.mem_of_getElem? (i := 4) rfl)) j_Y6_motion) rfl rfl rfl (by decide +kernel) ⟨Nat.le_of_ble_eq_true rfl, Nat.le_of_ble_eq_true rfl⟩) (cPV hK hTE hP hD 5 rfl (at_5 hy1.2) ⟨hy1.2, hy2⟩) rfl rfl hl.1 rfl (lv_room (Nat.le_of_ble_eq_true rfl)) dX1_bringUp_4 ⟨Nat.le_of_ble_eq_true rfl, Nat.le_of_ble_eq_true rfl⟩) hP hD hS hA (fun r4 u3 H locs hv hP hD hS => ?_)
    have h1 := congrArg Prod.fst hv
    have h2 := (congrArg Prod.snd hv).symm
    dsimp only at h1 h2
    subst h1
    subst h2
    refine cAstore_n (ad := ad) (r := (f_Y6_motion S ((grC S x0 2).getD 0))) (i := 2) (lv' := [(2, va_re ad (f_Y6_motion S ((grC S x0 2).getD 0))), (0, .ref (ad x0)), (1, .int x1)]) hx hb dX1_bringUp_7 rfl hl (by decide) rfl (fun ls_ hl => ?_)
    refine cAload_n (ad := ad) (r := (f_Y6_motion S ((grC S x0 2).getD 0))) hx hb dX1_bringUp_8 rfl (lv_at hl 0 rfl) ?_
    refine cIfnull (ad := ad) (r := (f_Y6_motion S ((grC S x0 2).getD 0))) (tgt := 40) hx hb dX1_bringUp_9 (by decide) (fun c5 => ?_) (fun c5 => ?_)
    · rw [if_pos c5] at hE hp
      exact B_Y1_bringUp_40 S x1 (f_Y6_motion S ((grC S x0 2).getD 0)) _ _ _ hE hp hZ hP hD hS (lv_sub hl [1, 2, 0] rfl)
    · rw [if_neg c5] at hE hp
      refine lv_aload_n hx hb dX1_bringUp_12 rfl (lv_at hl 1 rfl) ?_
      refine lv_dup hx hb dX1_bringUp_13 rfl ?_
      refine va_get (D := G) (ci := 0) (v := .int (giC S x0 8)) (C := RX0) (T := TX0) (N := 11) hx hb hts iX0 hown hK hP x0 (at_0 (k_x0.e hZ)) rfl 8 (by decide) (hw (.fieldLink RX1 187 "MotionFloor$Assembly" "names" "I") (List.mem_of_getElem? (i := 15) rfl)) (fun _ h9 => h9) rfl dX1_bringUp_14 ?_
      refine lv_iconst (v := 1) hx hb dX1_bringUp_17 (by decide) ?_
      refine lv_iadd hx hb dX1_bringUp_18 ?_
      refine va_put (D := G) (ci := 0) (v := .int ((giC S x0 8) + 1)) (ty := .int) (C := RX0) (T := TX0) (N := 11) hx hb hts iX0 tyX0 tyX0_ok nmX0 hown hK hP hD hS x0 (at_0 (k_x0.e hZ)) rfl 8 (by decide) (hw (.fieldLink RX1 187 "MotionFloor$Assembly" "names" "I") (List.mem_of_getElem? (i := 15) rfl)) (fun _ h9 => h9) rfl (by decide +kernel) rfl rfl (Nat.le_of_ble_eq_true rfl) dX1_bringUp_19 (fun H locs hP hD hS => ?_)
      rw [st_0_8 (k_x0.e hZ)] at hP hD
      have hZ := hZ.tr (eK.si S x0 8 ((giC S x0 8) + 1))
      refine cAload_n (ad := ad) (r := (f_Y6_motion S ((grC S x0 2).getD 0))) hx hb dX1_bringUp_22 rfl (lv_at hl 0 rfl) ?_
      refine lv_aload_n hx hb dX1_bringUp_23 rfl (lv_at hl 1 rfl) ?_
      refine va_get (D := G) (ci := 0) (v := .int (giC (siC S x0 8 ((giC S x0 8) + 1)) x0 8)) (C := RX0) (T := TX0) (N := 11) hx hb hts iX0 hown hK hP x0 (at_0 (k_x0.e hZ)) rfl 8 (by decide) (hw (.fieldLink RX1 187 "MotionFloor$Assembly" "names" "I") (List.mem_of_getElem? (i := 15) rfl)) (fun _ h9 => h9) rfl dX1_bringUp_24 ?_
      obtain ⟨hy15, hp⟩ := hp
      refine cTop2 (r := (f_Y6_motion S ((grC S x0 2).getD 0))) hy15.1 ?_
      refine va_put (D := G) (ci := 3) (v := .int (giC (siC S x0 8 ((giC S x0 8) + 1)) x0 8)) (ty := .int) (C := RX4) (T := TX4) (N := 16) hx hb hts iX4 tyX4 tyX4_ok nmX4 hown hK hP hD hS ((f_Y6_motion S ((grC S x0 2).getD 0)).getD 0) (at_3 hy15.2) rfl 0 (by decide) (hw (.fieldLink RX1 171 "MotionFloor$Motion" "name" "I") (List.mem_of_getElem? (i := 16) rfl)) (fun _ h9 => h9) rfl (by decide +kernel) rfl rfl (Nat.le_of_ble_eq_true rfl) dX1_bringUp_27 (fun H locs hP hD hS => ?_)
      rw [st_3_0 hy15.2] at hP hD
      have hZ := hZ.tr (eK.si (siC S x0 8 ((giC S x0 8) + 1)) ((f_Y6_motion S ((grC S x0 2).getD 0)).getD 0) 0 (giC (siC S x0 8 ((giC S x0 8) + 1)) x0 8))
      refine cAload_n (ad := ad) (r := (f_Y6_motion S ((grC S x0 2).getD 0))) hx hb dX1_bringUp_30 rfl (lv_at hl 0 rfl) ?_
      refine lv_iload_n hx hb dX1_bringUp_31 rfl (lv_at hl 2 rfl) ?_
      obtain ⟨hy16, hp⟩ := hp
      refine cTop2 (r := (f_Y6_motion S ((grC S x0 2).getD 0))) hy16.1 ?_
      refine va_put (D := G) (ci := 3) (v := .int x1) (ty := .int) (C := RX4) (T := TX4) (N := 16) hx hb hts iX4 tyX4 tyX4_ok nmX4 hown hK hP hD hS ((f_Y6_motion S ((grC S x0 2).getD 0)).getD 0) (at_3 hy16.2) rfl 3 (by decide) (hw (.fieldLink RX1 190 "MotionFloor$Motion" "mover" "I") (List.mem_of_getElem? (i := 17) rfl)) (fun _ h9 => h9) rfl (by decide +kernel) rfl rfl (Nat.le_of_ble_eq_true rfl) dX1_bringUp_32 (fun H locs hP hD hS => ?_)
      rw [st_3_3 hy16.2] at hP hD
      have hZ := hZ.tr (eK.si (siC (siC S x0 8 ((giC S x0 8) + 1)) ((f_Y6_motion S ((grC S x0 2).getD 0)).getD 0) 0 (giC (siC S x0 8 ((giC S x0 8) + 1)) x0 8)) ((f_Y6_motion S ((grC S x0 2).getD 0)).getD 0) 3 x1)
      refine cAload_n (ad := ad) (r := (f_Y6_motion S ((grC S x0 2).getD 0))) hx hb dX1_bringUp_35 rfl (lv_at hl 0 rfl) ?_
      refine lv_iconst (v := 0) hx hb dX1_bringUp_36 (by decide) ?_
      obtain ⟨hy17, hp⟩ := hp
      refine cTop2 (r := (f_Y6_motion S ((grC S x0 2).getD 0))) hy17.1 ?_
      refine va_put (D := G) (ci := 3) (v := .int 0) (ty := .boolean) (C := RX4) (T := TX4) (N := 16) hx hb hts iX4 tyX4 tyX4_ok nmX4 hown hK hP hD hS ((f_Y6_motion S ((grC S x0 2).getD 0)).getD 0) (at_3 hy17.2) rfl 10 (by decide) (hw (.fieldLink RX1 163 "MotionFloor$Motion" "laid" "Z") (List.mem_of_getElem? (i := 18) rfl)) (fun _ h9 => h9) rfl (by decide +kernel) rfl rfl (Nat.le_of_ble_eq_true rfl) dX1_bringUp_37 (fun H locs hP hD hS => ?_)
      rw [st_3_10 hy17.2] at hP hD
      have hZ := hZ.tr (eK.si (siC (siC (siC S x0 8 ((giC S x0 8) + 1)) ((f_Y6_motion S ((grC S x0 2).getD 0)).getD 0) 0 (giC (siC S x0 8 ((giC S x0 8) + 1)) x0 8)) ((f_Y6_motion S ((grC S x0 2).getD 0)).getD 0) 3 x1) ((f_Y6_motion S ((grC S x0 2).getD 0)).getD 0) 10 (0 : Int32))
      exact B_Y1_bringUp_40 (siC (siC (siC (siC S x0 8 ((giC S x0 8) + 1)) ((f_Y6_motion S ((grC S x0 2).getD 0)).getD 0) 0 (giC (siC S x0 8 ((giC S x0 8) + 1)) x0 8)) ((f_Y6_motion S ((grC S x0 2).getD 0)).getD 0) 3 x1) ((f_Y6_motion S ((grC S x0 2).getD 0)).getD 0) 10 (0 : Int32)) x1 (f_Y6_motion S ((grC S x0 2).getD 0)) _ _ _ hE hp hZ hP hD hS (lv_sub hl [1, 2, 0] rfl)
  exact B_M S0 a1 _ _ _ hX hp (eK.rf S0) hP hD hS hl
theorem dX1_support_0 : decode cX1_support 0 = .ok (.aload_n 0, 1) := by decide +kernel
theorem dX1_support_1 : decode cX1_support 1 = .ok (.ifnull 8, 3) := by decide +kernel
theorem dX1_support_4 : decode cX1_support 4 = .ok (.aload_n 0, 1) := by decide +kernel
theorem dX1_support_5 : decode cX1_support 5 = .ok (.iload_n 1, 1) := by decide +kernel
theorem dX1_support_6 : decode cX1_support 6 = .ok (.putfield 199, 3) := by decide +kernel
theorem dX1_support_9 : decode cX1_support 9 = .ok (.iconst 1, 1) := by decide +kernel
theorem dX1_support_10 : decode cX1_support 10 = .ok (.ireturn, 1) := by decide +kernel
set_option maxRecDepth 100000 in
theorem zc366 : wZ (.fieldLink RX1 199 "MotionFloor$Motion" "seconder" "I") := ⟨wT3 (List.mem_of_getElem? (i := 27) (by decide +kernel)), Or.inl rfl⟩
set_option maxRecDepth 100000 in
theorem zc367 : wZ (.code yX1_support cX1_support 2 (some .int)) := ⟨wT3 (List.mem_of_getElem? (i := 153) rfl), Or.inl rfl⟩
def b_Y1_support_9 (S : Cst)  (x0 : Option Nat) (x1 : Int32) : Int32 × Cst := ((1 : Int32), S)
def q_Y1_support_9 (S : Cst)  (x0 : Option Nat) (x1 : Int32) : Prop := True
def f_Y1_support (S : Cst) (x0 : Option Nat) (x1 : Int32) : Int32 × Cst := if x0 = none then (b_Y1_support_9 S x0 x1) else (b_Y1_support_9 (siC S (x0.getD 0) 4 x1) x0 x1)
def p_Y1_support (S : Cst) (x0 : Option Nat) (x1 : Int32) : Prop := (if x0 = none then (q_Y1_support_9 S x0 x1) else (iR S x0 3) ∧ (q_Y1_support_9 (siC S (x0.getD 0) 4 x1) x0 x1))
def e_Y1_support : List Cond := [.fieldLink RX1 199 "MotionFloor$Motion" "seconder" "I"]
def v_Y1_support : List Cond := .code yX1_support cX1_support 2 (some .int) :: (e_Y1_support ++ (wsX40 ++ []))
theorem te_Y1_support : GoodIn lw_tbl e_Y1_support := wGc zc366 (wG0)
theorem t_Y1_support : GoodIn lw_tbl v_Y1_support := wGc zc367 (wGa te_Y1_support (wGa zcX4 (wG0)))
set_option maxHeartbeats 4000000 in
set_option maxRecDepth 100000 in
theorem c_Y1_support (l : Launch) (G : va_G) (K : Nat → ClassId) (ad : Nat → Nat) (S0 : Cst)  (a0 : Option Nat) (a1 : Int32) (sz : Nat) : Met l yX1_support v_Y1_support ({ frames := 0, cells := 0, slots := 0, locals := 0 }) (va_Pc [va_re ad a0, .int a1] (cSt G K ad sz S0 (p_Y1_support S0 a0 a1))) (va_Qi (fun (r : Int32) (u : Cst) => (r, u) = f_Y1_support S0 a0 a1 ∧ eK S0 u) (cBt G K ad (va_A (wsC K ad S0) sz)) (va_A (wsC K ad S0) sz)) 0 0 (va_A (wsC K ad S0) sz) := by
  refine Met.ofW (cc := cX1_support) (maxL := 2) (ret := (some .int)) (by decide) rfl ?_
  intro p e s m args below meth c s₁ B hml hv
  obtain ⟨rfl, ⟨hsz, hP, hK, hD0, hTE⟩, hp⟩ := hv
  have hx := B.exec
  have hb := B.bytes
  have hr := B.returns
  have hts := atoms_spec (ws := v_Y1_support) B.pre
  have t_ := t_Y1_support
  have mw : ∀ w ∈ e_Y1_support, w ∈ v_Y1_support := fun w h => List.mem_cons_of_mem _ (List.mem_append_left _ h)
  have hw := fun w (h : w ∈ e_Y1_support) => hts w (mw w h)
  have iX4 : ∀ w ∈ wsX40, w ∈ v_Y1_support := fun w h => List.mem_cons_of_mem _ (List.mem_append_right _ (List.mem_append_left _ h))
  have hown : s.vm.findClass RX1 = some m.cls := findClass_of_methodNamed B.named
  have hlocks := B.notSynchronized
  subst hsz
  have hD := hD0.self (sz := s.heap.size)
  generalize hAe : va_A (wsC K ad S0) s.heap.size = A at hD ⊢
  have hA : ∀ q : Nat, s.heap.size ≤ q → A q := fun q h => by rw [← hAe]; exact Or.inr h
  have hS : va_S A s.heap s.heap [] := va_S.rf
  have hl : lv_has (lg_sl ([va_re ad a0, .int a1]) ++ List.replicate (2 - (lg_sl ([va_re ad a0, .int a1])).length) Slot.unset).toArray 2 [(0, va_re ad a0), (1, .int a1)] := by
    cases a0 <;> exact lv_entry _ (n := 2) (Nat.le_of_ble_eq_true rfl)
  rw [lg_entry_eq]
  generalize (lg_sl ([va_re ad a0, .int a1]) ++ List.replicate (2 - (lg_sl ([va_re ad a0, .int a1])).length) Slot.unset).toArray = ls_ at hl ⊢
  refine wGen (fun Q hQ => ?_)
  obtain ⟨X, hX⟩ : ∃ X, f_Y1_support S0 a0 a1 = X := ⟨_, rfl⟩
  have B_Y1_support_9 : ∀ (S : Cst) (x0 : Option Nat) (x1 : Int32) (H : Heap) (locs : List Loc) (ls_ : Array Slot), b_Y1_support_9 S x0 x1 = X → q_Y1_support_9 S x0 x1 → eK S0 S → va_P G vwCl (wsC K ad S) H → va_D A (wsC K ad S) → va_S A s.heap H locs → lv_has ls_ 2 [(0, va_re ad x0), (1, .int x1)] → W p l e ({ frames := 0, cells := 0, slots := 0, locals := 0 } : Room) s m #[va_re ad a0, Value.int a1] below meth c H locs 0 0 Q (F0 m 9 ls_ []) := by
    intro S x0 x1 H locs ls_ hE hp hZ hP hD hS hl
    unfold b_Y1_support_9 at hE
    unfold q_Y1_support_9 at hp
    refine lv_iconst (v := 1) hx hb dX1_support_9 (by decide) ?_
    subst hQ
    exact W.iret (v := (1 : Int32)) hx hb hr (fun t ht hW => ⟨⟨(1 : Int32), S, rfl, ⟨hE.trans hX.symm, hZ⟩, by rw [ht]; exact hP, hD⟩, hS.F ht⟩) hS.2.2 dX1_support_10
  have B_M : ∀ (S : Cst) (x0 : Option Nat) (x1 : Int32) (H : Heap) (locs : List Loc) (ls_ : Array Slot), f_Y1_support S x0 x1 = X → p_Y1_support S x0 x1 → eK S0 S → va_P G vwCl (wsC K ad S) H → va_D A (wsC K ad S) → va_S A s.heap H locs → lv_has ls_ 2 [(0, va_re ad x0), (1, .int x1)] → W p l e ({ frames := 0, cells := 0, slots := 0, locals := 0 } : Room) s m #[va_re ad a0, Value.int a1] below meth c H locs 0 0 Q (F0 m 0 ls_ []) := by
    intro S x0 x1 H locs ls_ hE hp hZ hP hD hS hl
    unfold f_Y1_support at hE
    unfold p_Y1_support at hp
    refine cAload_n (ad := ad) (r := x0) hx hb dX1_support_0 rfl (lv_at hl 0 rfl) ?_
    refine cIfnull (ad := ad) (r := x0) (tgt := 9) hx hb dX1_support_1 (by decide) (fun c1 => ?_) (fun c1 => ?_)
    · rw [if_pos c1] at hE hp
      exact B_Y1_support_9 S x0 x1 _ _ _ hE hp hZ hP hD hS (lv_sub hl [0, 1] rfl)
    · rw [if_neg c1] at hE hp
      refine cAload_n (ad := ad) (r := x0) hx hb dX1_support_4 rfl (lv_at hl 0 rfl) ?_
      refine lv_iload_n hx hb dX1_support_5 rfl (lv_at hl 1 rfl) ?_
      obtain ⟨hy2, hp⟩ := hp
      refine cTop2 (r := x0) hy2.1 ?_
      refine va_put (D := G) (ci := 3) (v := .int x1) (ty := .int) (C := RX4) (T := TX4) (N := 16) hx hb hts iX4 tyX4 tyX4_ok nmX4 hown hK hP hD hS (x0.getD 0) (at_3 hy2.2) rfl 4 (by decide) (hw (.fieldLink RX1 199 "MotionFloor$Motion" "seconder" "I") (List.mem_of_getElem? (i := 0) rfl)) (fun _ h9 => h9) rfl (by decide +kernel) rfl rfl (Nat.le_of_ble_eq_true rfl) dX1_support_6 (fun H locs hP hD hS => ?_)
      rw [st_3_4 hy2.2] at hP hD
      have hZ := hZ.tr (eK.si S (x0.getD 0) 4 x1)
      exact B_Y1_support_9 (siC S (x0.getD 0) 4 x1) x0 x1 _ _ _ hE hp hZ hP hD hS (lv_sub hl [0, 1] rfl)
  exact B_M S0 a0 a1 _ _ _ hX hp (eK.rf S0) hP hD hS hl
theorem dX1_endSitting_0 : decode cX1_endSitting 0 = .ok (.aload_n 0, 1) := by decide +kernel
theorem dX1_endSitting_1 : decode cX1_endSitting 1 = .ok (.getfield 9, 3) := by decide +kernel
theorem dX1_endSitting_4 : decode cX1_endSitting 4 = .ok (.getfield 96, 3) := by decide +kernel
theorem dX1_endSitting_7 : decode cX1_endSitting 7 = .ok (.istore_n 1, 1) := by decide +kernel
theorem dX1_endSitting_8 : decode cX1_endSitting 8 = .ok (.aload_n 0, 1) := by decide +kernel
theorem dX1_endSitting_9 : decode cX1_endSitting 9 = .ok (.aload_n 0, 1) := by decide +kernel
theorem dX1_endSitting_10 : decode cX1_endSitting 10 = .ok (.getfield 9, 3) := by decide +kernel
theorem dX1_endSitting_13 : decode cX1_endSitting 13 = .ok (.invokevirtual 209, 3) := by decide +kernel
theorem dX1_endSitting_16 : decode cX1_endSitting 16 = .ok (.aload_n 0, 1) := by decide +kernel
theorem dX1_endSitting_17 : decode cX1_endSitting 17 = .ok (.aload_n 0, 1) := by decide +kernel
theorem dX1_endSitting_18 : decode cX1_endSitting 18 = .ok (.getfield 121, 3) := by decide +kernel
theorem dX1_endSitting_21 : decode cX1_endSitting 21 = .ok (.invokevirtual 125, 3) := by decide +kernel
theorem dX1_endSitting_24 : decode cX1_endSitting 24 = .ok (.aload_n 0, 1) := by decide +kernel
theorem dX1_endSitting_25 : decode cX1_endSitting 25 = .ok (.getfield 21, 3) := by decide +kernel
theorem dX1_endSitting_28 : decode cX1_endSitting 28 = .ok (.iconst (-1), 1) := by decide +kernel
theorem dX1_endSitting_29 : decode cX1_endSitting 29 = .ok (.putfield 112, 3) := by decide +kernel
theorem dX1_endSitting_32 : decode cX1_endSitting 32 = .ok (.iload_n 1, 1) := by decide +kernel
theorem dX1_endSitting_33 : decode cX1_endSitting 33 = .ok (.ireturn, 1) := by decide +kernel
theorem dX1_putRuling_0 : decode cX1_putRuling 0 = .ok (.aload_n 0, 1) := by decide +kernel
theorem dX1_putRuling_1 : decode cX1_putRuling 1 = .ok (.bipush 9, 2) := by decide +kernel
theorem dX1_putRuling_3 : decode cX1_putRuling 3 = .ok (.invokevirtual 129, 3) := by decide +kernel
set_option maxRecDepth 100000 in
theorem zc368 : wZ (.methodLink RX1 125 yX0_discard) := ⟨wT2 (List.mem_of_getElem? (i := 233) (by decide +kernel)), Or.inl rfl⟩
set_option maxRecDepth 100000 in
theorem zc369 : wZ (.methodLink RX1 209 yX0_release) := ⟨wT4 (List.mem_of_getElem? (i := 25) (by decide +kernel)), Or.inl rfl⟩
set_option maxRecDepth 100000 in
theorem zc370 : wZ (.code yX1_endSitting cX1_endSitting 2 (some .int)) := ⟨wT4 (List.mem_of_getElem? (i := 24) rfl), Or.inl rfl⟩
def b_Y1_endSitting_24a (S : Cst) (x0 : Nat) (x1 : Int32) : Int32 × Cst := (x1, (siC S ((grC S x0 0).getD 0) 6 ((-1) : Int32)))
def q_Y1_endSitting_24a (S : Cst) (x0 : Nat) (x1 : Int32) : Prop := (iR S (grC S x0 0) 1) ∧ True
def b_Y1_endSitting_16a (S : Cst) (x0 : Nat) (x1 : Int32) : Int32 × Cst := (b_Y1_endSitting_24a ((f_Y0_discard S x0 ((grC S x0 2).getD 0)).2) x0 x1)
def q_Y1_endSitting_16a (S : Cst) (x0 : Nat) (x1 : Int32) : Prop := (iR S (grC S x0 2) 5) ∧ (p_Y0_discard S x0 ((grC S x0 2).getD 0)) ∧ (q_Y1_endSitting_24a ((f_Y0_discard S x0 ((grC S x0 2).getD 0)).2) x0 x1)
def f_Y1_endSitting (S : Cst) (x0 : Nat) : Int32 × Cst := (b_Y1_endSitting_16a ((f_Y0_release S x0 ((grC S x0 1).getD 0)).2) x0 (giC S ((grC S x0 1).getD 0) 1))
def p_Y1_endSitting (S : Cst) (x0 : Nat) : Prop := (iR S (grC S x0 1) 4) ∧ (iR S (grC S x0 1) 4) ∧ (p_Y0_release S x0 ((grC S x0 1).getD 0)) ∧ (q_Y1_endSitting_16a ((f_Y0_release S x0 ((grC S x0 1).getD 0)).2) x0 (giC S ((grC S x0 1).getD 0) 1))
def e_Y1_endSitting : List Cond := [.fieldLink RX1 9 "MotionFloor$Assembly" "pending" "LMotionFloor$Pile;", .fieldLink RX1 96 "MotionFloor$Pile" "size" "I", .methodLink RX1 209 yX0_release, .instanceMethod yX0_release, .selects RX0 yX0_release yX0_release, .initialized RX0, .fieldLink RX1 121 "MotionFloor$Assembly" "draft" "LMotionFloor$Place;", .methodLink RX1 125 yX0_discard, .instanceMethod yX0_discard, .selects RX0 yX0_discard yX0_discard, .fieldLink RX1 21 "MotionFloor$Assembly" "house" "LMotionFloor$House;", .fieldLink RX1 112 "MotionFloor$House" "speaker" "I"]
def v_Y1_endSitting : List Cond := .code yX1_endSitting cX1_endSitting 2 (some .int) :: (e_Y1_endSitting ++ (wsX00 ++ (wsX50 ++ (wsX20 ++ (v_Y0_release ++ (v_Y0_discard ++ []))))))
theorem te_Y1_endSitting : GoodIn lw_tbl e_Y1_endSitting := wGc zc349 (wGc zc361 (wGc zc369 (wGc zc49 (wGc zc48 (wGc zc39 (wGc zc323 (wGc zc368 (wGc zc55 (wGc zc54 (wGc zc362 (wGc zc315 (wG0))))))))))))
theorem t_Y1_endSitting : GoodIn lw_tbl v_Y1_endSitting := wGc zc370 (wGa te_Y1_endSitting (wGa zcX0 (wGa zcX5 (wGa zcX2 (wGa t_Y0_release (wGa t_Y0_discard (wG0)))))))
set_option maxHeartbeats 4000000 in
set_option maxRecDepth 100000 in
theorem c_Y1_endSitting (l : Launch) (G : va_G) (K : Nat → ClassId) (ad : Nat → Nat) (S0 : Cst) (x0 : Nat)  (sz : Nat) : Met l yX1_endSitting v_Y1_endSitting ({ frames := 4, cells := 0, slots := 0, locals := 86 }) (va_Pc [.ref (ad x0)] (cSt G K ad sz S0 (iK S0 x0 0 ∧ p_Y1_endSitting S0 x0))) (va_Qi (fun (r : Int32) (u : Cst) => (r, u) = f_Y1_endSitting S0 x0 ∧ eK S0 u) (cBt G K ad (va_A (wsC K ad S0) sz)) (va_A (wsC K ad S0) sz)) 0 0 (va_A (wsC K ad S0) sz) := by
  refine Met.ofW (cc := cX1_endSitting) (maxL := 2) (ret := (some .int)) (by decide) rfl ?_
  intro p e s m args below meth c s₁ B hml hv
  obtain ⟨rfl, ⟨hsz, hP, hK, hD0, hTE⟩, hp⟩ := hv
  obtain ⟨k_x0, hp⟩ := hp
  have hx := B.exec
  have hb := B.bytes
  have hr := B.returns
  have hts := atoms_spec (ws := v_Y1_endSitting) B.pre
  have t_ := t_Y1_endSitting
  have mw : ∀ w ∈ e_Y1_endSitting, w ∈ v_Y1_endSitting := fun w h => List.mem_cons_of_mem _ (List.mem_append_left _ h)
  have hw := fun w (h : w ∈ e_Y1_endSitting) => hts w (mw w h)
  have iX0 : ∀ w ∈ wsX00, w ∈ v_Y1_endSitting := fun w h => List.mem_cons_of_mem _ (List.mem_append_right _ (List.mem_append_left _ h))
  have iX5 : ∀ w ∈ wsX50, w ∈ v_Y1_endSitting := fun w h => List.mem_cons_of_mem _ (List.mem_append_right _ (List.mem_append_right _ (List.mem_append_left _ h)))
  have iX2 : ∀ w ∈ wsX20, w ∈ v_Y1_endSitting := fun w h => List.mem_cons_of_mem _ (List.mem_append_right _ (List.mem_append_right _ (List.mem_append_right _ (List.mem_append_left _ h))))
  have j_Y0_release : ∀ w ∈ v_Y0_release, w ∈ v_Y1_endSitting := fun w h => List.mem_cons_of_mem _ (List.mem_append_right _ (List.mem_append_right _ (List.mem_append_right _ (List.mem_append_right _ (List.mem_append_left _ h)))))
  have j_Y0_discard : ∀ w ∈ v_Y0_discard, w ∈ v_Y1_endSitting := fun w h => List.mem_cons_of_mem _ (List.mem_append_right _ (List.mem_append_right _ (List.mem_append_right _ (List.mem_append_right _ (List.mem_append_right _ (List.mem_append_left _ h))))))
  have hown : s.vm.findClass RX1 = some m.cls := findClass_of_methodNamed B.named
  have hlocks := B.notSynchronized
  subst hsz
  have hD := hD0.self (sz := s.heap.size)
  generalize hAe : va_A (wsC K ad S0) s.heap.size = A at hD ⊢
  have hA : ∀ q : Nat, s.heap.size ≤ q → A q := fun q h => by rw [← hAe]; exact Or.inr h
  have hS : va_S A s.heap s.heap [] := va_S.rf
  have hl : lv_has (lg_sl ([.ref (ad x0)]) ++ List.replicate (2 - (lg_sl ([.ref (ad x0)])).length) Slot.unset).toArray 2 [(0, .ref (ad x0))] := by
    exact lv_entry ([.ref (ad x0)]) (n := 2) (Nat.le_of_ble_eq_true rfl)
  rw [lg_entry_eq]
  generalize (lg_sl ([.ref (ad x0)]) ++ List.replicate (2 - (lg_sl ([.ref (ad x0)])).length) Slot.unset).toArray = ls_ at hl ⊢
  refine wGen (fun Q hQ => ?_)
  obtain ⟨X, hX⟩ : ∃ X, f_Y1_endSitting S0 x0 = X := ⟨_, rfl⟩
  have B_Y1_endSitting_24a : ∀ (S : Cst) (x1 : Int32) (H : Heap) (locs : List Loc) (ls_ : Array Slot), b_Y1_endSitting_24a S x0 x1 = X → q_Y1_endSitting_24a S x0 x1 → eK S0 S → va_P G vwCl (wsC K ad S) H → va_D A (wsC K ad S) → va_S A s.heap H locs → lv_has ls_ 2 [(0, .ref (ad x0)), (1, .int x1)] → W p l e ({ frames := 4, cells := 0, slots := 0, locals := 86 } : Room) s m #[Value.ref (ad x0)] below meth c H locs 0 0 Q (F0 m 24 ls_ []) := by
    intro S x1 H locs ls_ hE hp hZ hP hD hS hl
    unfold b_Y1_endSitting_24a at hE
    unfold q_Y1_endSitting_24a at hp
    refine lv_aload_n hx hb dX1_endSitting_24 rfl (lv_at hl 0 rfl) ?_
    refine va_get (D := G) (ci := 0) (v := va_re ad (grC S x0 0)) (C := RX0) (T := TX0) (N := 11) hx hb hts iX0 hown hK hP x0 (at_0 (k_x0.e hZ)) rfl 0 (by decide) (hw (.fieldLink RX1 21 "MotionFloor$Assembly" "house" "LMotionFloor$House;") (List.mem_of_getElem? (i := 10) rfl)) (fun _ h9 => h9) rfl dX1_endSitting_25 ?_
    refine lv_iconst (v := (-1)) hx hb dX1_endSitting_28 (by decide) ?_
    obtain ⟨hy10, hp⟩ := hp
    refine cTop2 (r := (grC S x0 0)) hy10.1 ?_
    refine va_put (D := G) (ci := 1) (v := .int (-1)) (ty := .int) (C := RX2) (T := TX2) (N := 8) hx hb hts iX2 tyX2 tyX2_ok nmX2 hown hK hP hD hS ((grC S x0 0).getD 0) (at_1 hy10.2) rfl 6 (by decide) (hw (.fieldLink RX1 112 "MotionFloor$House" "speaker" "I") (List.mem_of_getElem? (i := 11) rfl)) (fun _ h9 => h9) rfl (by decide +kernel) rfl rfl (Nat.le_of_ble_eq_true rfl) dX1_endSitting_29 (fun H locs hP hD hS => ?_)
    rw [st_1_6 hy10.2] at hP hD
    have hZ := hZ.tr (eK.si S ((grC S x0 0).getD 0) 6 ((-1) : Int32))
    refine lv_iload_n hx hb dX1_endSitting_32 rfl (lv_at hl 1 rfl) ?_
    subst hQ
    exact W.iret (v := x1) hx hb hr (fun t ht hW => ⟨⟨x1, (siC S ((grC S x0 0).getD 0) 6 ((-1) : Int32)), rfl, ⟨hE.trans hX.symm, hZ⟩, by rw [ht]; exact hP, hD⟩, hS.F ht⟩) hS.2.2 dX1_endSitting_33
  have B_Y1_endSitting_16a : ∀ (S : Cst) (x1 : Int32) (H : Heap) (locs : List Loc) (ls_ : Array Slot), b_Y1_endSitting_16a S x0 x1 = X → q_Y1_endSitting_16a S x0 x1 → eK S0 S → va_P G vwCl (wsC K ad S) H → va_D A (wsC K ad S) → va_S A s.heap H locs → lv_has ls_ 2 [(0, .ref (ad x0)), (1, .int x1)] → W p l e ({ frames := 4, cells := 0, slots := 0, locals := 86 } : Room) s m #[Value.ref (ad x0)] below meth c H locs 0 0 Q (F0 m 16 ls_ []) := by
    intro S x1 H locs ls_ hE hp hZ hP hD hS hl
    unfold b_Y1_endSitting_16a at hE
    unfold q_Y1_endSitting_16a at hp
    refine lv_aload_n hx hb dX1_endSitting_16 rfl (lv_at hl 0 rfl) ?_
    refine lv_aload_n hx hb dX1_endSitting_17 rfl (lv_at hl 0 rfl) ?_
    refine va_get (D := G) (ci := 0) (v := va_re ad (grC S x0 2)) (C := RX0) (T := TX0) (N := 11) hx hb hts iX0 hown hK hP x0 (at_0 (k_x0.e hZ)) rfl 2 (by decide) (hw (.fieldLink RX1 121 "MotionFloor$Assembly" "draft" "LMotionFloor$Place;") (List.mem_of_getElem? (i := 6) rfl)) (fun _ h9 => h9) rfl dX1_endSitting_18 ?_
    obtain ⟨hy6, hp⟩ := hp
    refine cTop (r := (grC S x0 2)) hy6.1 ?_
    obtain ⟨hy7, hp⟩ := hp
    refine cGov (va_runV (As := [.ref (ad ((grC S x0 2).getD 0))]) (rest := []) ⟨hx, hb, hml, hown, hts⟩ (c_Y0_discard l G K ad S x0 ((grC S x0 2).getD 0) _) (cwV 1 hts (wGV t_ (mw (.methodLink RX1 125 yX0_discard) (List.mem_of_getElem? (i := 7) rfl)) (mw (.instanceMethod yX0_discard) (List.mem_of_getElem? (i := 8) rfl)) (mw (.selects RX0 yX0_discard yX0_discard) (List.mem_of_getElem? (i := 9) rfl)) (mw (.initialized RX0) (List.mem_of_getElem? (i := 5) rfl)) j_Y0_discard) rfl rfl rfl (by decide +kernel) ⟨Nat.le_of_ble_eq_true rfl, Nat.le_of_ble_eq_true rfl⟩) (cPV hK hTE hP hD 0 rfl (at_0 (k_x0.e hZ)) ⟨(k_x0.e hZ), hy6.2, hy7⟩) rfl rfl hl.1 rfl (lv_room (Nat.le_of_ble_eq_true rfl)) dX1_endSitting_21 ⟨Nat.le_of_ble_eq_true rfl, Nat.le_of_ble_eq_true rfl⟩) hP hD hS hA (fun u8 H locs hv hP hD hS => ?_)
    obtain ⟨hv, hz⟩ := hv
    have hZ := hZ.tr hz
    rw [← hv] at hE hp
    dsimp only at hE hp
    exact B_Y1_endSitting_24a u8 x1 _ _ _ hE hp hZ hP hD hS (lv_sub hl [0, 1] rfl)
  have B_M : ∀ (S : Cst) (H : Heap) (locs : List Loc) (ls_ : Array Slot), f_Y1_endSitting S x0 = X → p_Y1_endSitting S x0 → eK S0 S → va_P G vwCl (wsC K ad S) H → va_D A (wsC K ad S) → va_S A s.heap H locs → lv_has ls_ 2 [(0, .ref (ad x0))] → W p l e ({ frames := 4, cells := 0, slots := 0, locals := 86 } : Room) s m #[Value.ref (ad x0)] below meth c H locs 0 0 Q (F0 m 0 ls_ []) := by
    intro S H locs ls_ hE hp hZ hP hD hS hl
    unfold f_Y1_endSitting at hE
    unfold p_Y1_endSitting at hp
    refine lv_aload_n hx hb dX1_endSitting_0 rfl (lv_at hl 0 rfl) ?_
    refine va_get (D := G) (ci := 0) (v := va_re ad (grC S x0 1)) (C := RX0) (T := TX0) (N := 11) hx hb hts iX0 hown hK hP x0 (at_0 (k_x0.e hZ)) rfl 1 (by decide) (hw (.fieldLink RX1 9 "MotionFloor$Assembly" "pending" "LMotionFloor$Pile;") (List.mem_of_getElem? (i := 0) rfl)) (fun _ h9 => h9) rfl dX1_endSitting_1 ?_
    obtain ⟨hy1, hp⟩ := hp
    refine cTop (r := (grC S x0 1)) hy1.1 ?_
    refine va_get (D := G) (ci := 4) (v := .int (giC S ((grC S x0 1).getD 0) 1)) (C := RX5) (T := TX5) (N := 2) hx hb hts iX5 hown hK hP ((grC S x0 1).getD 0) (at_4 hy1.2) rfl 1 (by decide) (hw (.fieldLink RX1 96 "MotionFloor$Pile" "size" "I") (List.mem_of_getElem? (i := 1) rfl)) (fun _ h9 => h9) rfl dX1_endSitting_4 ?_
    refine lv_istore_n (i := 1) (lv' := [(1, .int (giC S ((grC S x0 1).getD 0) 1)), (0, .ref (ad x0))]) hx hb dX1_endSitting_7 rfl hl (by decide) rfl (fun ls_ hl => ?_)
    refine lv_aload_n hx hb dX1_endSitting_8 rfl (lv_at hl 1 rfl) ?_
    refine lv_aload_n hx hb dX1_endSitting_9 rfl (lv_at hl 1 rfl) ?_
    refine va_get (D := G) (ci := 0) (v := va_re ad (grC S x0 1)) (C := RX0) (T := TX0) (N := 11) hx hb hts iX0 hown hK hP x0 (at_0 (k_x0.e hZ)) rfl 1 (by decide) (hw (.fieldLink RX1 9 "MotionFloor$Assembly" "pending" "LMotionFloor$Pile;") (List.mem_of_getElem? (i := 0) rfl)) (fun _ h9 => h9) rfl dX1_endSitting_10 ?_
    obtain ⟨hy2, hp⟩ := hp
    refine cTop (r := (grC S x0 1)) hy2.1 ?_
    obtain ⟨hy3, hp⟩ := hp
    refine cGov (va_runV (As := [.ref (ad ((grC S x0 1).getD 0))]) (rest := []) ⟨hx, hb, hml, hown, hts⟩ (c_Y0_release l G K ad S x0 ((grC S x0 1).getD 0) _) (cwV 1 hts (wGV t_ (mw (.methodLink RX1 209 yX0_release) (List.mem_of_getElem? (i := 2) rfl)) (mw (.instanceMethod yX0_release) (List.mem_of_getElem? (i := 3) rfl)) (mw (.selects RX0 yX0_release yX0_release) (List.mem_of_getElem? (i := 4) rfl)) (mw (.initialized RX0) (List.mem_of_getElem? (i := 5) rfl)) j_Y0_release) rfl rfl rfl (by decide +kernel) ⟨Nat.le_of_ble_eq_true rfl, Nat.le_of_ble_eq_true rfl⟩) (cPV hK hTE hP hD 0 rfl (at_0 (k_x0.e hZ)) ⟨(k_x0.e hZ), hy2.2, hy3⟩) rfl rfl hl.1 rfl (lv_room (Nat.le_of_ble_eq_true rfl)) dX1_endSitting_13 ⟨Nat.le_of_ble_eq_true rfl, Nat.le_of_ble_eq_true rfl⟩) hP hD hS hA (fun u4 H locs hv hP hD hS => ?_)
    obtain ⟨hv, hz⟩ := hv
    have hZ := hZ.tr hz
    rw [← hv] at hE hp
    dsimp only at hE hp
    exact B_Y1_endSitting_16a u4 (giC S ((grC S x0 1).getD 0) 1) _ _ _ hE hp hZ hP hD hS (lv_sub hl [1, 0] rfl)
  exact B_M S0 _ _ _ hX hp (eK.rf S0) hP hD hS hl
theorem dX2_tally_0 : decode cX2_tally 0 = .ok (.iconst 0, 1) := by decide +kernel
theorem dX2_tally_1 : decode cX2_tally 1 = .ok (.istore_n 3, 1) := by decide +kernel
theorem dX2_tally_2 : decode cX2_tally 2 = .ok (.iconst 0, 1) := by decide +kernel
theorem dX2_tally_3 : decode cX2_tally 3 = .ok (.istore 4, 2) := by decide +kernel
theorem dX2_tally_5 : decode cX2_tally 5 = .ok (.iload 4, 2) := by decide +kernel
theorem dX2_tally_7 : decode cX2_tally 7 = .ok (.aload_n 0, 1) := by decide +kernel
theorem dX2_tally_8 : decode cX2_tally 8 = .ok (.getfield 19, 3) := by decide +kernel
theorem dX2_tally_11 : decode cX2_tally 11 = .ok (.if_icmp .ge 31, 3) := by decide +kernel
theorem dX2_tally_14 : decode cX2_tally 14 = .ok (.aload_n 0, 1) := by decide +kernel
theorem dX2_tally_15 : decode cX2_tally 15 = .ok (.iload 4, 2) := by decide +kernel
theorem dX2_tally_17 : decode cX2_tally 17 = .ok (.invokevirtual 57, 3) := by decide +kernel
theorem dX2_tally_20 : decode cX2_tally 20 = .ok (.ifCond .eq 16, 3) := by decide +kernel
theorem dX2_tally_23 : decode cX2_tally 23 = .ok (.aload_n 1, 1) := by decide +kernel
theorem dX2_tally_24 : decode cX2_tally 24 = .ok (.iload 4, 2) := by decide +kernel
theorem dX2_tally_26 : decode cX2_tally 26 = .ok (.invokevirtual 67, 3) := by decide +kernel
theorem dX2_tally_36 : decode cX2_tally 36 = .ok (.iinc 4 1, 3) := by decide +kernel
theorem dX2_tally_39 : decode cX2_tally 39 = .ok (.goto (-34), 3) := by decide +kernel
theorem dX2_tally_42 : decode cX2_tally 42 = .ok (.iload_n 3, 1) := by decide +kernel
theorem dX2_tally_43 : decode cX2_tally 43 = .ok (.ireturn, 1) := by decide +kernel
theorem dX4_voteOf_0 : decode cX4_voteOf 0 = .ok (.iload_n 1, 1) := by decide +kernel
theorem dX4_voteOf_1 : decode cX4_voteOf 1 = .ok (.ifCond .lt 12, 3) := by decide +kernel
theorem dX4_voteOf_4 : decode cX4_voteOf 4 = .ok (.iload_n 1, 1) := by decide +kernel
theorem dX4_voteOf_5 : decode cX4_voteOf 5 = .ok (.aload_n 0, 1) := by decide +kernel
theorem dX4_voteOf_6 : decode cX4_voteOf 6 = .ok (.getfield 18, 3) := by decide +kernel
theorem dX4_voteOf_9 : decode cX4_voteOf 9 = .ok (.arraylength, 1) := by decide +kernel
theorem dX4_voteOf_10 : decode cX4_voteOf 10 = .ok (.if_icmp .lt 7, 3) := by decide +kernel
theorem dX4_voteOf_13 : decode cX4_voteOf 13 = .ok (.iconst (-1), 1) := by decide +kernel
theorem dX4_voteOf_14 : decode cX4_voteOf 14 = .ok (.goto 11, 3) := by decide +kernel
theorem dX4_voteOf_17 : decode cX4_voteOf 17 = .ok (.aload_n 0, 1) := by decide +kernel
theorem dX4_voteOf_18 : decode cX4_voteOf 18 = .ok (.getfield 18, 3) := by decide +kernel
theorem dX4_voteOf_21 : decode cX4_voteOf 21 = .ok (.iload_n 1, 1) := by decide +kernel
theorem dX4_voteOf_22 : decode cX4_voteOf 22 = .ok (.baload, 1) := by decide +kernel
theorem dX4_voteOf_23 : decode cX4_voteOf 23 = .ok (.iconst 1, 1) := by decide +kernel
theorem dX4_voteOf_24 : decode cX4_voteOf 24 = .ok (.isub, 1) := by decide +kernel
theorem dX4_voteOf_25 : decode cX4_voteOf 25 = .ok (.ireturn, 1) := by decide +kernel
set_option maxRecDepth 100000 in
theorem zc371 : wZ (.fieldLink RX4 18 "MotionFloor$Motion" "votes" "[B") := ⟨wT3 (List.mem_of_getElem? (i := 59) (by decide +kernel)), Or.inl rfl⟩
set_option maxRecDepth 100000 in
theorem zc372 : wZ (.code yX4_voteOf cX4_voteOf 2 (some .int)) := ⟨wT3 (List.mem_of_getElem? (i := 174) rfl), Or.inl rfl⟩
def b_Y4_voteOf_25 (S : Cst) (x0 : Nat) (x1 : Int32) (y0 : Int32) : Int32 := y0
def q_Y4_voteOf_25 (S : Cst) (x0 : Nat) (x1 : Int32) (y0 : Int32) : Prop := True
def b_Y4_voteOf_13 (S : Cst) (x0 : Nat) (x1 : Int32) : Int32 := (b_Y4_voteOf_25 S x0 x1 (-1))
def q_Y4_voteOf_13 (S : Cst) (x0 : Nat) (x1 : Int32) : Prop := (q_Y4_voteOf_25 S x0 x1 (-1))
def f_Y4_voteOf (S : Cst) (x0 : Nat) (x1 : Int32) : Int32 := if x1 < 0 then (b_Y4_voteOf_13 S x0 x1) else if x1 < (Int32.ofNat (lnC S ((grC S x0 13).getD 0))) then (b_Y4_voteOf_25 S x0 x1 ((giC S ((grC S x0 13).getD 0) x1.toNatClampNeg) - 1)) else (b_Y4_voteOf_13 S x0 x1)
def p_Y4_voteOf (S : Cst) (x0 : Nat) (x1 : Int32) : Prop := (if x1 < 0 then (q_Y4_voteOf_13 S x0 x1) else (iR S (grC S x0 13) 22) ∧ (if x1 < (Int32.ofNat (lnC S ((grC S x0 13).getD 0))) then (iR S (grC S x0 13) 22) ∧ (vp_in x1 (lnC S ((grC S x0 13).getD 0))) ∧ (q_Y4_voteOf_25 S x0 x1 ((giC S ((grC S x0 13).getD 0) x1.toNatClampNeg) - 1)) else (q_Y4_voteOf_13 S x0 x1)))
def e_Y4_voteOf : List Cond := [.fieldLink RX4 18 "MotionFloor$Motion" "votes" "[B"]
def v_Y4_voteOf : List Cond := .code yX4_voteOf cX4_voteOf 2 (some .int) :: (e_Y4_voteOf ++ (wsX40 ++ []))
theorem te_Y4_voteOf : GoodIn lw_tbl e_Y4_voteOf := wGc zc371 (wG0)
theorem t_Y4_voteOf : GoodIn lw_tbl v_Y4_voteOf := wGc zc372 (wGa te_Y4_voteOf (wGa zcX4 (wG0)))
set_option maxHeartbeats 4000000 in
set_option maxRecDepth 100000 in
theorem c_Y4_voteOf (l : Launch) (G : va_G) (K : Nat → ClassId) (ad : Nat → Nat) (S : Cst) (x0 : Nat) (a1 : Int32) (sz : Nat) : Met l yX4_voteOf v_Y4_voteOf ({ frames := 0, cells := 0, slots := 0, locals := 0 }) (va_Pc [.ref (ad x0), .int a1] (cSt G K ad sz S (iK S x0 3 ∧ p_Y4_voteOf S x0 a1))) (va_Qi (fun (r : Int32) (u : Cst) => (r, u) = (f_Y4_voteOf S x0 a1, S)) (cBt G K ad (va_A (wsC K ad S) sz)) (va_A (wsC K ad S) sz)) 0 0 (va_A (wsC K ad S) sz) := by
  refine Met.ofW (cc := cX4_voteOf) (maxL := 2) (ret := (some .int)) (by decide) rfl ?_
  intro p e s m args below meth c s₁ B hml hv
  obtain ⟨rfl, ⟨hsz, hP, hK, hD0, hTE⟩, hp⟩ := hv
  obtain ⟨k_x0, hp⟩ := hp
  have hx := B.exec
  have hb := B.bytes
  have hr := B.returns
  have hts := atoms_spec (ws := v_Y4_voteOf) B.pre
  have t_ := t_Y4_voteOf
  have mw : ∀ w ∈ e_Y4_voteOf, w ∈ v_Y4_voteOf := fun w h => List.mem_cons_of_mem _ (List.mem_append_left _ h)
  have hw := fun w (h : w ∈ e_Y4_voteOf) => hts w (mw w h)
  have iX4 : ∀ w ∈ wsX40, w ∈ v_Y4_voteOf := fun w h => List.mem_cons_of_mem _ (List.mem_append_right _ (List.mem_append_left _ h))
  have hown : s.vm.findClass RX4 = some m.cls := findClass_of_methodNamed B.named
  have hlocks := B.notSynchronized
  subst hsz
  have hD := hD0.self (sz := s.heap.size)
  generalize hAe : va_A (wsC K ad S) s.heap.size = A at hD ⊢
  have hA : ∀ q : Nat, s.heap.size ≤ q → A q := fun q h => by rw [← hAe]; exact Or.inr h
  have hS : va_S A s.heap s.heap [] := va_S.rf
  have hl : lv_has (lg_sl ([.ref (ad x0), .int a1]) ++ List.replicate (2 - (lg_sl ([.ref (ad x0), .int a1])).length) Slot.unset).toArray 2 [(0, .ref (ad x0)), (1, .int a1)] := by
    exact lv_entry ([.ref (ad x0), .int a1]) (n := 2) (Nat.le_of_ble_eq_true rfl)
  rw [lg_entry_eq]
  generalize (lg_sl ([.ref (ad x0), .int a1]) ++ List.replicate (2 - (lg_sl ([.ref (ad x0), .int a1])).length) Slot.unset).toArray = ls_ at hl ⊢
  refine wGen (fun Q hQ => ?_)
  obtain ⟨X, hX⟩ : ∃ X, f_Y4_voteOf S x0 a1 = X := ⟨_, rfl⟩
  have B_Y4_voteOf_25 : ∀ (x1 : Int32) (y0 : Int32) (H : Heap) (locs : List Loc) (ls_ : Array Slot), b_Y4_voteOf_25 S x0 x1 y0 = X → q_Y4_voteOf_25 S x0 x1 y0 → va_P G vwCl (wsC K ad S) H → va_D A (wsC K ad S) → va_S A s.heap H locs → lv_has ls_ 2 [(0, .ref (ad x0)), (1, .int x1)] → W p l e ({ frames := 0, cells := 0, slots := 0, locals := 0 } : Room) s m #[Value.ref (ad x0), Value.int a1] below meth c H locs 0 0 Q (F0 m 25 ls_ [.int y0]) := by
    intro x1 y0 H locs ls_ hE hp hP hD hS hl
    unfold b_Y4_voteOf_25 at hE
    unfold q_Y4_voteOf_25 at hp
    subst hQ
    exact W.iret (v := y0) hx hb hr (fun t ht hW => ⟨⟨y0, S, rfl, (pair_i (hE.trans hX.symm)), by rw [ht]; exact hP, hD⟩, hS.F ht⟩) hS.2.2 dX4_voteOf_25
  have B_Y4_voteOf_13 : ∀ (x1 : Int32) (H : Heap) (locs : List Loc) (ls_ : Array Slot), b_Y4_voteOf_13 S x0 x1 = X → q_Y4_voteOf_13 S x0 x1 → va_P G vwCl (wsC K ad S) H → va_D A (wsC K ad S) → va_S A s.heap H locs → lv_has ls_ 2 [(0, .ref (ad x0)), (1, .int x1)] → W p l e ({ frames := 0, cells := 0, slots := 0, locals := 0 } : Room) s m #[Value.ref (ad x0), Value.int a1] below meth c H locs 0 0 Q (F0 m 13 ls_ []) := by
    intro x1 H locs ls_ hE hp hP hD hS hl
    unfold b_Y4_voteOf_13 at hE
    unfold q_Y4_voteOf_13 at hp
    refine lv_iconst (v := (-1)) hx hb dX4_voteOf_13 (by decide) ?_
    refine lv_goto (tgt := 25) hx hb dX4_voteOf_14 (by decide) ?_
    exact B_Y4_voteOf_25 x1 (-1) _ _ _ hE hp hP hD hS (lv_sub hl [0, 1] rfl)
  have B_M : ∀ (x1 : Int32) (H : Heap) (locs : List Loc) (ls_ : Array Slot), f_Y4_voteOf S x0 x1 = X → p_Y4_voteOf S x0 x1 → va_P G vwCl (wsC K ad S) H → va_D A (wsC K ad S) → va_S A s.heap H locs → lv_has ls_ 2 [(0, .ref (ad x0)), (1, .int x1)] → W p l e ({ frames := 0, cells := 0, slots := 0, locals := 0 } : Room) s m #[Value.ref (ad x0), Value.int a1] below meth c H locs 0 0 Q (F0 m 0 ls_ []) := by
    intro x1 H locs ls_ hE hp hP hD hS hl
    unfold f_Y4_voteOf at hE
    unfold p_Y4_voteOf at hp
    refine lv_iload_n hx hb dX4_voteOf_0 rfl (lv_at hl 1 rfl) ?_
    refine lv_if_lt (tgt := 13) hx hb dX4_voteOf_1 (by decide) (fun c1 => ?_) (fun c1 => ?_)
    · rw [if_pos c1] at hE hp
      exact B_Y4_voteOf_13 x1 _ _ _ hE hp hP hD hS (lv_sub hl [0, 1] rfl)
    · rw [if_neg c1] at hE hp
      refine lv_iload_n hx hb dX4_voteOf_4 rfl (lv_at hl 1 rfl) ?_
      refine lv_aload_n hx hb dX4_voteOf_5 rfl (lv_at hl 0 rfl) ?_
      refine va_get (D := G) (ci := 3) (v := va_re ad (grC S x0 13)) (C := RX4) (T := TX4) (N := 16) hx hb hts iX4 hown hK hP x0 (at_3 k_x0) rfl 13 (by decide) (hw (.fieldLink RX4 18 "MotionFloor$Motion" "votes" "[B") (List.mem_of_getElem? (i := 0) rfl)) (fun _ h9 => h9) rfl dX4_voteOf_6 ?_
      obtain ⟨hy2, hp⟩ := hp
      refine cTop (r := (grC S x0 13)) hy2.1 ?_
      refine va_alen (v := (Int32.ofNat (lnC S ((grC S x0 13).getD 0)))) hx hb hK hP ((grC S x0 13).getD 0) 2 (at_22 hy2.2) rfl rfl dX4_voteOf_9 ?_
      refine lv_icmp_lt (tgt := 17) hx hb dX4_voteOf_10 (by decide) (fun c3 => ?_) (fun c3 => ?_)
      · rw [if_pos c3] at hE hp
        refine lv_aload_n hx hb dX4_voteOf_17 rfl (lv_at hl 0 rfl) ?_
        refine va_get (D := G) (ci := 3) (v := va_re ad (grC S x0 13)) (C := RX4) (T := TX4) (N := 16) hx hb hts iX4 hown hK hP x0 (at_3 k_x0) rfl 13 (by decide) (hw (.fieldLink RX4 18 "MotionFloor$Motion" "votes" "[B") (List.mem_of_getElem? (i := 0) rfl)) (fun _ h9 => h9) rfl dX4_voteOf_18 ?_
        refine lv_iload_n hx hb dX4_voteOf_21 rfl (lv_at hl 1 rfl) ?_
        obtain ⟨hy4, hp⟩ := hp
        refine cTop2 (r := (grC S x0 13)) hy4.1 ?_
        obtain ⟨hy5, hp⟩ := hp
        refine va_bald hx hb hK hP ((grC S x0 13).getD 0) 2 (at_22 hy4.2) rfl hy5 dX4_voteOf_22 ?_
        refine lv_iconst (v := 1) hx hb dX4_voteOf_23 (by decide) ?_
        refine lv_isub hx hb dX4_voteOf_24 ?_
        exact B_Y4_voteOf_25 x1 ((giC S ((grC S x0 13).getD 0) x1.toNatClampNeg) - 1) _ _ _ hE hp hP hD hS (lv_sub hl [0, 1] rfl)
      · rw [if_neg c3] at hE hp
        exact B_Y4_voteOf_13 x1 _ _ _ hE hp hP hD hS (lv_sub hl [0, 1] rfl)
  exact B_M a1 _ _ _ hX hp hP hD hS hl
theorem dX2_tally_29 : decode cX2_tally 29 = .ok (.iload_n 2, 1) := by decide +kernel
theorem dX2_tally_30 : decode cX2_tally 30 = .ok (.if_icmp .ne 6, 3) := by decide +kernel
theorem dX2_tally_33 : decode cX2_tally 33 = .ok (.iinc 3 1, 3) := by decide +kernel
set_option maxRecDepth 100000 in
theorem zc373 : wZ (.selects RX4 yX4_voteOf yX4_voteOf) := ⟨wT3 (List.mem_of_getElem? (i := 173) (by decide +kernel)), Or.inl rfl⟩
set_option maxRecDepth 100000 in
theorem zc374 : wZ (.instanceMethod yX4_voteOf) := ⟨wT3 (List.mem_of_getElem? (i := 172) (by decide +kernel)), Or.inl rfl⟩
set_option maxRecDepth 100000 in
theorem zc375 : wZ (.methodLink RX2 67 yX4_voteOf) := ⟨wT3 (List.mem_of_getElem? (i := 171) (by decide +kernel)), Or.inl rfl⟩
set_option maxRecDepth 100000 in
theorem zc376 : wZ (.code yX2_tally cX2_tally 5 (some .int)) := ⟨wT3 (List.mem_of_getElem? (i := 170) rfl), Or.inl rfl⟩
def b_Y2_tally_36 (S : Cst) (x0 : Nat) (x1 : Option Nat) (x2 : Int32) (x3 : Int32) (x4 : Int32) : (Int32) ⊕ ((Option Nat) × Int32 × Int32 × Int32) := Sum.inr (x1, x2, x3, (x4 + 1))
def q_Y2_tally_36 (S : Cst) (x0 : Nat) (x1 : Option Nat) (x2 : Int32) (x3 : Int32) (x4 : Int32) : Prop := True
def st_Y2_tally_5 (S : Cst) (x0 : Nat) (x1 : Option Nat) (x2 : Int32) (x3 : Int32) (x4 : Int32) : (Int32) ⊕ ((Option Nat) × Int32 × Int32 × Int32) := if (giC S x0 0) ≤ x4 then Sum.inl (x3) else if (f_Y2_isThere S x0 x4) = 0 then (b_Y2_tally_36 S x0 x1 x2 x3 x4) else if (f_Y4_voteOf S (x1.getD 0) x4) = x2 then (b_Y2_tally_36 S x0 x1 x2 (x3 + 1) x4) else (b_Y2_tally_36 S x0 x1 x2 x3 x4)
def ps_Y2_tally_5 (S : Cst) (x0 : Nat) (x1 : Option Nat) (x2 : Int32) (x3 : Int32) (x4 : Int32) : Prop := (if (giC S x0 0) ≤ x4 then True else (p_Y2_isThere S x0 x4) ∧ (if (f_Y2_isThere S x0 x4) = 0 then (q_Y2_tally_36 S x0 x1 x2 x3 x4) else (iR S x1 3) ∧ (p_Y4_voteOf S (x1.getD 0) x4) ∧ (if (f_Y4_voteOf S (x1.getD 0) x4) = x2 then (q_Y2_tally_36 S x0 x1 x2 (x3 + 1) x4) else (q_Y2_tally_36 S x0 x1 x2 x3 x4))))
def lp_Y2_tally_5 (S : Cst) (x0 : Nat) : Nat → (Option Nat) → Int32 → Int32 → Int32 → Int32
  | 0, _, _, _, _ => 0
  | n + 1, x1, x2, x3, x4 => match st_Y2_tally_5 S x0 x1 x2 x3 x4 with
    | Sum.inl r => r
    | Sum.inr q => lp_Y2_tally_5 S x0 n q.1 q.2.1 q.2.2.1 q.2.2.2
def lq_Y2_tally_5 (S : Cst) (x0 : Nat) : Nat → (Option Nat) → Int32 → Int32 → Int32 → Prop
  | 0, _, _, _, _ => False
  | n + 1, x1, x2, x3, x4 => ps_Y2_tally_5 S x0 x1 x2 x3 x4 ∧ (match st_Y2_tally_5 S x0 x1 x2 x3 x4 with
    | Sum.inl _ => True
    | Sum.inr q => lq_Y2_tally_5 S x0 n q.1 q.2.1 q.2.2.1 q.2.2.2)
def f_Y2_tally (S : Cst) (x0 : Nat) (x1 : Option Nat) (x2 : Int32) : Int32 := (lp_Y2_tally_5 S x0 100000 x1 x2 0 0)
def p_Y2_tally (S : Cst) (x0 : Nat) (x1 : Option Nat) (x2 : Int32) : Prop := (lq_Y2_tally_5 S x0 100000 x1 x2 0 0)
def e_Y2_tally : List Cond := [.fieldLink RX2 19 "MotionFloor$House" "seats" "I", .methodLink RX2 57 yX2_isThere, .instanceMethod yX2_isThere, .selects RX2 yX2_isThere yX2_isThere, .initialized RX2, .methodLink RX2 67 yX4_voteOf, .instanceMethod yX4_voteOf, .selects RX4 yX4_voteOf yX4_voteOf, .initialized RX4]
def v_Y2_tally : List Cond := .code yX2_tally cX2_tally 5 (some .int) :: (e_Y2_tally ++ (wsX20 ++ (v_Y2_isThere ++ (v_Y4_voteOf ++ []))))
theorem te_Y2_tally : GoodIn lw_tbl e_Y2_tally := wGc zc84 (wGc zc310 (wGc zc147 (wGc zc146 (wGc zc77 (wGc zc375 (wGc zc374 (wGc zc373 (wGc zc182 (wG0)))))))))
theorem t_Y2_tally : GoodIn lw_tbl v_Y2_tally := wGc zc376 (wGa te_Y2_tally (wGa zcX2 (wGa t_Y2_isThere (wGa t_Y4_voteOf (wG0)))))
set_option maxHeartbeats 4000000 in
set_option maxRecDepth 100000 in
theorem c_Y2_tally (l : Launch) (G : va_G) (K : Nat → ClassId) (ad : Nat → Nat) (S : Cst) (x0 : Nat) (a1 : Option Nat) (a2 : Int32) (sz : Nat) : Met l yX2_tally v_Y2_tally ({ frames := 1, cells := 0, slots := 0, locals := 21 }) (va_Pc [.ref (ad x0), va_re ad a1, .int a2] (cSt G K ad sz S (iK S x0 1 ∧ p_Y2_tally S x0 a1 a2))) (va_Qi (fun (r : Int32) (u : Cst) => (r, u) = (f_Y2_tally S x0 a1 a2, S)) (cBt G K ad (va_A (wsC K ad S) sz)) (va_A (wsC K ad S) sz)) 0 0 (va_A (wsC K ad S) sz) := by
  refine Met.ofW (cc := cX2_tally) (maxL := 5) (ret := (some .int)) (by decide) rfl ?_
  intro p e s m args below meth c s₁ B hml hv
  obtain ⟨rfl, ⟨hsz, hP, hK, hD0, hTE⟩, hp⟩ := hv
  obtain ⟨k_x0, hp⟩ := hp
  have hx := B.exec
  have hb := B.bytes
  have hr := B.returns
  have hts := atoms_spec (ws := v_Y2_tally) B.pre
  have t_ := t_Y2_tally
  have mw : ∀ w ∈ e_Y2_tally, w ∈ v_Y2_tally := fun w h => List.mem_cons_of_mem _ (List.mem_append_left _ h)
  have hw := fun w (h : w ∈ e_Y2_tally) => hts w (mw w h)
  have iX2 : ∀ w ∈ wsX20, w ∈ v_Y2_tally := fun w h => List.mem_cons_of_mem _ (List.mem_append_right _ (List.mem_append_left _ h))
  have j_Y2_isThere : ∀ w ∈ v_Y2_isThere, w ∈ v_Y2_tally := fun w h => List.mem_cons_of_mem _ (List.mem_append_right _ (List.mem_append_right _ (List.mem_append_left _ h)))
  have j_Y4_voteOf : ∀ w ∈ v_Y4_voteOf, w ∈ v_Y2_tally := fun w h => List.mem_cons_of_mem _ (List.mem_append_right _ (List.mem_append_right _ (List.mem_append_right _ (List.mem_append_left _ h))))
  have hown : s.vm.findClass RX2 = some m.cls := findClass_of_methodNamed B.named
  have hlocks := B.notSynchronized
  subst hsz
  have hD := hD0.self (sz := s.heap.size)
  generalize hAe : va_A (wsC K ad S) s.heap.size = A at hD ⊢
  have hA : ∀ q : Nat, s.heap.size ≤ q → A q := fun q h => by rw [← hAe]; exact Or.inr h
  have hS : va_S A s.heap s.heap [] := va_S.rf
  have hl : lv_has (lg_sl ([.ref (ad x0), va_re ad a1, .int a2]) ++ List.replicate (5 - (lg_sl ([.ref (ad x0), va_re ad a1, .int a2])).length) Slot.unset).toArray 5 [(0, .ref (ad x0)), (1, va_re ad a1), (2, .int a2)] := by
    cases a1 <;> exact lv_entry _ (n := 5) (Nat.le_of_ble_eq_true rfl)
  rw [lg_entry_eq]
  generalize (lg_sl ([.ref (ad x0), va_re ad a1, .int a2]) ++ List.replicate (5 - (lg_sl ([.ref (ad x0), va_re ad a1, .int a2])).length) Slot.unset).toArray = ls_ at hl ⊢
  refine wGen (fun Q hQ => ?_)
  obtain ⟨X, hX⟩ : ∃ X, f_Y2_tally S x0 a1 a2 = X := ⟨_, rfl⟩
  have L_5 : ∀ (n : Nat) (x1 : Option Nat) (x2 : Int32) (x3 : Int32) (x4 : Int32) (H : Heap) (locs : List Loc) (ls_ : Array Slot), lp_Y2_tally_5 S x0 n x1 x2 x3 x4 = X → lq_Y2_tally_5 S x0 n x1 x2 x3 x4 → va_P G vwCl (wsC K ad S) H → va_D A (wsC K ad S) → va_S A s.heap H locs → lv_has ls_ 5 [(0, .ref (ad x0)), (1, va_re ad x1), (2, .int x2), (3, .int x3), (4, .int x4)] → W p l e ({ frames := 1, cells := 0, slots := 0, locals := 21 } : Room) s m #[Value.ref (ad x0), va_re ad a1, Value.int a2] below meth c H locs 0 0 Q (F0 m 5 ls_ []) := by
    intro n1
    induction n1 with
    | zero => intro x1 x2 x3 x4 H locs ls_ hE hp; exact False.elim hp
    | succ n1 ih1 =>
      intro x1 x2 x3 x4 H locs ls_ hO1 hp hP hD hS hl
      rw [lp_Y2_tally_5] at hO1
      rw [lq_Y2_tally_5] at hp
      obtain ⟨hp, hq1⟩ := hp
      generalize hE : st_Y2_tally_5 S x0 x1 x2 x3 x4 = Y1 at hO1 hq1
      unfold st_Y2_tally_5 at hE
      unfold ps_Y2_tally_5 at hp
      have B_Y2_tally_36 : ∀ (x1 : Option Nat) (x2 : Int32) (x3 : Int32) (x4 : Int32) (H : Heap) (locs : List Loc) (ls_ : Array Slot), b_Y2_tally_36 S x0 x1 x2 x3 x4 = Y1 → q_Y2_tally_36 S x0 x1 x2 x3 x4 → va_P G vwCl (wsC K ad S) H → va_D A (wsC K ad S) → va_S A s.heap H locs → lv_has ls_ 5 [(0, .ref (ad x0)), (1, va_re ad x1), (2, .int x2), (3, .int x3), (4, .int x4)] → W p l e ({ frames := 1, cells := 0, slots := 0, locals := 21 } : Room) s m #[Value.ref (ad x0), va_re ad a1, Value.int a2] below meth c H locs 0 0 Q (F0 m 36 ls_ []) := by
        intro x1 x2 x3 x4 H locs ls_ hE hp hP hD hS hl
        unfold b_Y2_tally_36 at hE
        unfold q_Y2_tally_36 at hp
        refine lv_iinc (i := 4) (v := (x4 + 1)) (lv' := [(4, .int (x4 + 1)), (0, .ref (ad x0)), (1, va_re ad x1), (2, .int x2), (3, .int x3)]) hx hb dX2_tally_36 hl (k := 4) rfl rfl (by decide) rfl (fun ls_ hl => ?_)
        refine lv_goto (tgt := 5) hx hb dX2_tally_39 (by decide) ?_
        subst hE
        dsimp only at hO1 hq1
        exact ih1 x1 x2 x3 (x4 + 1) _ _ _ hO1 hq1 hP hD hS (lv_sub hl [1, 2, 3, 4, 0] rfl)
      refine lv_iload hx hb dX2_tally_5 (lv_at hl 4 rfl) ?_
      refine lv_aload_n hx hb dX2_tally_7 rfl (lv_at hl 0 rfl) ?_
      refine va_get (D := G) (ci := 1) (v := .int (giC S x0 0)) (C := RX2) (T := TX2) (N := 8) hx hb hts iX2 hown hK hP x0 (at_1 k_x0) rfl 0 (by decide) (hw (.fieldLink RX2 19 "MotionFloor$House" "seats" "I") (List.mem_of_getElem? (i := 0) rfl)) (fun _ h9 => h9) rfl dX2_tally_8 ?_
      refine lv_icmp_ge (tgt := 42) hx hb dX2_tally_11 (by decide) (fun c1 => ?_) (fun c1 => ?_)
      · rw [if_pos c1] at hE hp
        subst hE
        have hE := hO1
        dsimp only at hE
        refine lv_iload_n hx hb dX2_tally_42 rfl (lv_at hl 3 rfl) ?_
        subst hQ
        exact W.iret (v := x3) hx hb hr (fun t ht hW => ⟨⟨x3, S, rfl, (pair_i (hE.trans hX.symm)), by rw [ht]; exact hP, hD⟩, hS.F ht⟩) hS.2.2 dX2_tally_43
      · rw [if_neg c1] at hE hp
        refine lv_aload_n hx hb dX2_tally_14 rfl (lv_at hl 0 rfl) ?_
        refine lv_iload hx hb dX2_tally_15 (lv_at hl 4 rfl) ?_
        obtain ⟨hy2, hp⟩ := hp
        refine cGoi (va_runV (As := [.int x4]) (rest := []) ⟨hx, hb, hml, hown, hts⟩ (c_Y2_isThere l G K ad S x0 x4 _) (cwV 1 hts (wGV t_ (mw (.methodLink RX2 57 yX2_isThere) (List.mem_of_getElem? (i := 1) rfl)) (mw (.instanceMethod yX2_isThere) (List.mem_of_getElem? (i := 2) rfl)) (mw (.selects RX2 yX2_isThere yX2_isThere) (List.mem_of_getElem? (i := 3) rfl)) (mw (.initialized RX2) (List.mem_of_getElem? (i := 4) rfl)) j_Y2_isThere) rfl rfl rfl (by decide +kernel) ⟨Nat.le_of_ble_eq_true rfl, Nat.le_of_ble_eq_true rfl⟩) (cPV hK hTE hP hD 1 rfl (at_1 k_x0) ⟨k_x0, hy2⟩) rfl rfl hl.1 rfl (lv_room (Nat.le_of_ble_eq_true rfl)) dX2_tally_17 ⟨Nat.le_of_ble_eq_true rfl, Nat.le_of_ble_eq_true rfl⟩) hP hD hS hA (fun r4 u3 H locs hv hP hD hS => ?_)
        have h1 := congrArg Prod.fst hv
        have h2 := (congrArg Prod.snd hv).symm
        dsimp only at h1 h2
        subst h1
        subst h2
        refine lv_if_eq (tgt := 36) hx hb dX2_tally_20 (by decide) (fun c5 => ?_) (fun c5 => ?_)
        · rw [if_pos c5] at hE hp
          exact B_Y2_tally_36 x1 x2 x3 x4 _ _ _ hE hp hP hD hS (lv_sub hl [0, 1, 2, 3, 4] rfl)
        · rw [if_neg c5] at hE hp
          refine cAload_n (ad := ad) (r := x1) hx hb dX2_tally_23 rfl (lv_at hl 1 rfl) ?_
          refine lv_iload hx hb dX2_tally_24 (lv_at hl 4 rfl) ?_
          obtain ⟨hy6, hp⟩ := hp
          refine cTop2 (r := x1) hy6.1 ?_
          obtain ⟨hy7, hp⟩ := hp
          refine cGoi (va_runV (As := [.int x4]) (rest := []) ⟨hx, hb, hml, hown, hts⟩ (c_Y4_voteOf l G K ad S (x1.getD 0) x4 _) (cwV 1 hts (wGV t_ (mw (.methodLink RX2 67 yX4_voteOf) (List.mem_of_getElem? (i := 5) rfl)) (mw (.instanceMethod yX4_voteOf) (List.mem_of_getElem? (i := 6) rfl)) (mw (.selects RX4 yX4_voteOf yX4_voteOf) (List.mem_of_getElem? (i := 7) rfl)) (mw (.initialized RX4) (List.mem_of_getElem? (i := 8) rfl)) j_Y4_voteOf) rfl rfl rfl (by decide +kernel) ⟨Nat.le_of_ble_eq_true rfl, Nat.le_of_ble_eq_true rfl⟩) (cPV hK hTE hP hD 3 rfl (at_3 hy6.2) ⟨hy6.2, hy7⟩) rfl rfl hl.1 rfl (lv_room (Nat.le_of_ble_eq_true rfl)) dX2_tally_26 ⟨Nat.le_of_ble_eq_true rfl, Nat.le_of_ble_eq_true rfl⟩) hP hD hS hA (fun r9 u8 H locs hv hP hD hS => ?_)
          have h1 := congrArg Prod.fst hv
          have h2 := (congrArg Prod.snd hv).symm
          dsimp only at h1 h2
          subst h1
          subst h2
          refine lv_iload_n hx hb dX2_tally_29 rfl (lv_at hl 2 rfl) ?_
          refine lv_icmp_ne (tgt := 36) hx hb dX2_tally_30 (by decide) (fun c10 => ?_) (fun c10 => ?_)
          · rw [if_neg c10] at hE hp
            exact B_Y2_tally_36 x1 x2 x3 x4 _ _ _ hE hp hP hD hS (lv_sub hl [0, 1, 2, 3, 4] rfl)
          · rw [if_pos c10] at hE hp
            refine lv_iinc (i := 3) (v := (x3 + 1)) (lv' := [(3, .int (x3 + 1)), (0, .ref (ad x0)), (1, va_re ad x1), (2, .int x2), (4, .int x4)]) hx hb dX2_tally_33 hl (k := 3) rfl rfl (by decide) rfl (fun ls_ hl => ?_)
            exact B_Y2_tally_36 x1 x2 (x3 + 1) x4 _ _ _ hE hp hP hD hS (lv_sub hl [1, 2, 3, 0, 4] rfl)
  have B_M : ∀ (x1 : Option Nat) (x2 : Int32) (H : Heap) (locs : List Loc) (ls_ : Array Slot), f_Y2_tally S x0 x1 x2 = X → p_Y2_tally S x0 x1 x2 → va_P G vwCl (wsC K ad S) H → va_D A (wsC K ad S) → va_S A s.heap H locs → lv_has ls_ 5 [(0, .ref (ad x0)), (1, va_re ad x1), (2, .int x2)] → W p l e ({ frames := 1, cells := 0, slots := 0, locals := 21 } : Room) s m #[Value.ref (ad x0), va_re ad a1, Value.int a2] below meth c H locs 0 0 Q (F0 m 0 ls_ []) := by
    intro x1 x2 H locs ls_ hE hp hP hD hS hl
    unfold f_Y2_tally at hE
    unfold p_Y2_tally at hp
    refine lv_iconst (v := 0) hx hb dX2_tally_0 (by decide) ?_
    refine lv_istore_n (i := 3) (lv' := [(3, .int 0), (0, .ref (ad x0)), (1, va_re ad x1), (2, .int x2)]) hx hb dX2_tally_1 rfl hl (by decide) rfl (fun ls_ hl => ?_)
    refine lv_iconst (v := 0) hx hb dX2_tally_2 (by decide) ?_
    refine lv_istore (i := 4) (lv' := [(4, .int 0), (3, .int 0), (0, .ref (ad x0)), (1, va_re ad x1), (2, .int x2)]) hx hb dX2_tally_3 hl (by decide) rfl (fun ls_ hl => ?_)
    exact L_5 100000 x1 x2 0 0 _ _ _ hE hp hP hD hS (lv_sub hl [2, 3, 4, 1, 0] rfl)
  exact B_M a1 a2 _ _ _ hX hp hP hD hS hl
set_option maxRecDepth 100000 in
theorem zc377 : wZ (.code yX2_isMajority cX2_isMajority 5 (some .boolean)) := ⟨wT3 (List.mem_of_getElem? (i := 181) rfl), Or.inl rfl⟩
def b_Y2_isMajority_85 (S : Cst) (x0 : Nat) (x1 : Int32) (x2 : Int32) (x3 : Int32) (x4 : Int32) (y0 : Int32) : Int32 := y0
def q_Y2_isMajority_85 (S : Cst) (x0 : Nat) (x1 : Int32) (x2 : Int32) (x3 : Int32) (x4 : Int32) (y0 : Int32) : Prop := (narrow .boolean (.int y0) = .int y0) ∧ True
def b_Y2_isMajority_69 (S : Cst) (x0 : Nat) (x1 : Int32) (x2 : Int32) (x3 : Int32) (x4 : Int32) (y0 : Int32) : Int32 := y0
def q_Y2_isMajority_69 (S : Cst) (x0 : Nat) (x1 : Int32) (x2 : Int32) (x3 : Int32) (x4 : Int32) (y0 : Int32) : Prop := (narrow .boolean (.int y0) = .int y0) ∧ True
def b_Y2_isMajority_68 (S : Cst) (x0 : Nat) (x1 : Int32) (x2 : Int32) (x3 : Int32) (x4 : Int32) : Int32 := (b_Y2_isMajority_69 S x0 x1 x2 x3 x4 0)
def q_Y2_isMajority_68 (S : Cst) (x0 : Nat) (x1 : Int32) (x2 : Int32) (x3 : Int32) (x4 : Int32) : Prop := (q_Y2_isMajority_69 S x0 x1 x2 x3 x4 0)
def b_Y2_isMajority_42 (S : Cst) (x0 : Nat) (x1 : Int32) (x2 : Int32) (x3 : Int32) (x4 : Int32) (y0 : Int32) : Int32 := y0
def q_Y2_isMajority_42 (S : Cst) (x0 : Nat) (x1 : Int32) (x2 : Int32) (x3 : Int32) (x4 : Int32) (y0 : Int32) : Prop := (narrow .boolean (.int y0) = .int y0) ∧ True
def b_Y2_isMajority_24 (S : Cst) (x0 : Nat) (x1 : Int32) (x2 : Int32) (x3 : Int32) (y0 : Int32) : Int32 := if y0 = 1 then if x2 ≤ x3 then (b_Y2_isMajority_42 S x0 x1 x2 x3 y0 0) else (b_Y2_isMajority_42 S x0 x1 x2 x3 y0 1) else if y0 = 2 then if x2 ≤ 0 then (b_Y2_isMajority_68 S x0 x1 x2 x3 y0) else if (3 * x2) < (2 * (x2 + x3)) then (b_Y2_isMajority_68 S x0 x1 x2 x3 y0) else (b_Y2_isMajority_69 S x0 x1 x2 x3 y0 1) else if (2 * x2) ≤ (giC S x0 0) then (b_Y2_isMajority_85 S x0 x1 x2 x3 y0 0) else (b_Y2_isMajority_85 S x0 x1 x2 x3 y0 1)
def q_Y2_isMajority_24 (S : Cst) (x0 : Nat) (x1 : Int32) (x2 : Int32) (x3 : Int32) (y0 : Int32) : Prop := (if y0 = 1 then (if x2 ≤ x3 then (q_Y2_isMajority_42 S x0 x1 x2 x3 y0 0) else (q_Y2_isMajority_42 S x0 x1 x2 x3 y0 1)) else (if y0 = 2 then (if x2 ≤ 0 then (q_Y2_isMajority_68 S x0 x1 x2 x3 y0) else (if (3 * x2) < (2 * (x2 + x3)) then (q_Y2_isMajority_68 S x0 x1 x2 x3 y0) else (q_Y2_isMajority_69 S x0 x1 x2 x3 y0 1))) else (if (2 * x2) ≤ (giC S x0 0) then (q_Y2_isMajority_85 S x0 x1 x2 x3 y0 0) else (q_Y2_isMajority_85 S x0 x1 x2 x3 y0 1))))
def b_Y2_isMajority_14 (S : Cst) (x0 : Nat) (x1 : Int32) (x2 : Int32) (x3 : Int32) : Int32 := (b_Y2_isMajority_24 S x0 x1 x2 x3 1)
def q_Y2_isMajority_14 (S : Cst) (x0 : Nat) (x1 : Int32) (x2 : Int32) (x3 : Int32) : Prop := (q_Y2_isMajority_24 S x0 x1 x2 x3 1)
def f_Y2_isMajority (S : Cst) (x0 : Nat) (x1 : Int32) (x2 : Int32) (x3 : Int32) : Int32 := if x1 < 1 then (b_Y2_isMajority_14 S x0 x1 x2 x3) else if x1 < (Int32.ofNat (lnC S ((grC S x0 7).getD 0))) then (b_Y2_isMajority_24 S x0 x1 x2 x3 (giC S ((grC S x0 7).getD 0) x1.toNatClampNeg)) else (b_Y2_isMajority_14 S x0 x1 x2 x3)
def p_Y2_isMajority (S : Cst) (x0 : Nat) (x1 : Int32) (x2 : Int32) (x3 : Int32) : Prop := (if x1 < 1 then (q_Y2_isMajority_14 S x0 x1 x2 x3) else (iR S (grC S x0 7) 20) ∧ (if x1 < (Int32.ofNat (lnC S ((grC S x0 7).getD 0))) then (iR S (grC S x0 7) 20) ∧ (vp_in x1 (lnC S ((grC S x0 7).getD 0))) ∧ (q_Y2_isMajority_24 S x0 x1 x2 x3 (giC S ((grC S x0 7).getD 0) x1.toNatClampNeg)) else (q_Y2_isMajority_14 S x0 x1 x2 x3)))
def e_Y2_isMajority : List Cond := [.fieldLink RX2 19 "MotionFloor$House" "seats" "I", .fieldLink RX2 15 "MotionFloor$House" "majorities" "[I"]
def v_Y2_isMajority : List Cond := .code yX2_isMajority cX2_isMajority 5 (some .boolean) :: (e_Y2_isMajority ++ (wsX20 ++ []))
theorem te_Y2_isMajority : GoodIn lw_tbl e_Y2_isMajority := wGc zc84 (wGc zc76 (wG0))
theorem t_Y2_isMajority : GoodIn lw_tbl v_Y2_isMajority := wGc zc377 (wGa te_Y2_isMajority (wGa zcX2 (wG0)))
set_option maxHeartbeats 4000000 in
set_option maxRecDepth 100000 in
theorem c_Y2_isMajority (l : Launch) (G : va_G) (K : Nat → ClassId) (ad : Nat → Nat) (S : Cst) (x0 : Nat) (a1 : Int32) (a2 : Int32) (a3 : Int32) (sz : Nat) : Met l yX2_isMajority v_Y2_isMajority ({ frames := 0, cells := 0, slots := 0, locals := 0 }) (va_Pc [.ref (ad x0), .int a1, .int a2, .int a3] (cSt G K ad sz S (iK S x0 1 ∧ p_Y2_isMajority S x0 a1 a2 a3))) (va_Qi (fun (r : Int32) (u : Cst) => (r, u) = (f_Y2_isMajority S x0 a1 a2 a3, S)) (cBt G K ad (va_A (wsC K ad S) sz)) (va_A (wsC K ad S) sz)) 0 0 (va_A (wsC K ad S) sz) := by
  refine Met.ofW (cc := cX2_isMajority) (maxL := 5) (ret := (some .boolean)) (by decide) rfl ?_
  intro p e s m args below meth c s₁ B hml hv
  obtain ⟨rfl, ⟨hsz, hP, hK, hD0, hTE⟩, hp⟩ := hv
  obtain ⟨k_x0, hp⟩ := hp
  have hx := B.exec
  have hb := B.bytes
  have hr := B.returns
  have hts := atoms_spec (ws := v_Y2_isMajority) B.pre
  have t_ := t_Y2_isMajority
  have mw : ∀ w ∈ e_Y2_isMajority, w ∈ v_Y2_isMajority := fun w h => List.mem_cons_of_mem _ (List.mem_append_left _ h)
  have hw := fun w (h : w ∈ e_Y2_isMajority) => hts w (mw w h)
  have iX2 : ∀ w ∈ wsX20, w ∈ v_Y2_isMajority := fun w h => List.mem_cons_of_mem _ (List.mem_append_right _ (List.mem_append_left _ h))
  have hown : s.vm.findClass RX2 = some m.cls := findClass_of_methodNamed B.named
  have hlocks := B.notSynchronized
  subst hsz
  have hD := hD0.self (sz := s.heap.size)
  generalize hAe : va_A (wsC K ad S) s.heap.size = A at hD ⊢
  have hA : ∀ q : Nat, s.heap.size ≤ q → A q := fun q h => by rw [← hAe]; exact Or.inr h
  have hS : va_S A s.heap s.heap [] := va_S.rf
  have hl : lv_has (lg_sl ([.ref (ad x0), .int a1, .int a2, .int a3]) ++ List.replicate (5 - (lg_sl ([.ref (ad x0), .int a1, .int a2, .int a3])).length) Slot.unset).toArray 5 [(0, .ref (ad x0)), (1, .int a1), (2, .int a2), (3, .int a3)] := by
    exact lv_entry ([.ref (ad x0), .int a1, .int a2, .int a3]) (n := 5) (Nat.le_of_ble_eq_true rfl)
  rw [lg_entry_eq]
  generalize (lg_sl ([.ref (ad x0), .int a1, .int a2, .int a3]) ++ List.replicate (5 - (lg_sl ([.ref (ad x0), .int a1, .int a2, .int a3])).length) Slot.unset).toArray = ls_ at hl ⊢
  refine wGen (fun Q hQ => ?_)
  obtain ⟨X, hX⟩ : ∃ X, f_Y2_isMajority S x0 a1 a2 a3 = X := ⟨_, rfl⟩
  have B_Y2_isMajority_85 : ∀ (x1 : Int32) (x2 : Int32) (x3 : Int32) (x4 : Int32) (y0 : Int32) (H : Heap) (locs : List Loc) (ls_ : Array Slot), b_Y2_isMajority_85 S x0 x1 x2 x3 x4 y0 = X → q_Y2_isMajority_85 S x0 x1 x2 x3 x4 y0 → va_P G vwCl (wsC K ad S) H → va_D A (wsC K ad S) → va_S A s.heap H locs → lv_has ls_ 5 [(0, .ref (ad x0)), (1, .int x1), (2, .int x2), (3, .int x3), (4, .int x4)] → W p l e ({ frames := 0, cells := 0, slots := 0, locals := 0 } : Room) s m #[Value.ref (ad x0), Value.int a1, Value.int a2, Value.int a3] below meth c H locs 0 0 Q (F0 m 85 ls_ [.int y0]) := by
    intro x1 x2 x3 x4 y0 H locs ls_ hE hp hP hD hS hl
    unfold b_Y2_isMajority_85 at hE
    unfold q_Y2_isMajority_85 at hp
    obtain ⟨hy5, hp⟩ := hp
    subst hQ
    exact W.zret (v := y0) (ty := .boolean) hx hb hr hy5 (fun t ht hW => ⟨⟨y0, S, rfl, (pair_i (hE.trans hX.symm)), by rw [ht]; exact hP, hD⟩, hS.F ht⟩) hS.2.2 dX2_isMajority_85
  have B_Y2_isMajority_69 : ∀ (x1 : Int32) (x2 : Int32) (x3 : Int32) (x4 : Int32) (y0 : Int32) (H : Heap) (locs : List Loc) (ls_ : Array Slot), b_Y2_isMajority_69 S x0 x1 x2 x3 x4 y0 = X → q_Y2_isMajority_69 S x0 x1 x2 x3 x4 y0 → va_P G vwCl (wsC K ad S) H → va_D A (wsC K ad S) → va_S A s.heap H locs → lv_has ls_ 5 [(0, .ref (ad x0)), (1, .int x1), (2, .int x2), (3, .int x3), (4, .int x4)] → W p l e ({ frames := 0, cells := 0, slots := 0, locals := 0 } : Room) s m #[Value.ref (ad x0), Value.int a1, Value.int a2, Value.int a3] below meth c H locs 0 0 Q (F0 m 69 ls_ [.int y0]) := by
    intro x1 x2 x3 x4 y0 H locs ls_ hE hp hP hD hS hl
    unfold b_Y2_isMajority_69 at hE
    unfold q_Y2_isMajority_69 at hp
    obtain ⟨hy7, hp⟩ := hp
    subst hQ
    exact W.zret (v := y0) (ty := .boolean) hx hb hr hy7 (fun t ht hW => ⟨⟨y0, S, rfl, (pair_i (hE.trans hX.symm)), by rw [ht]; exact hP, hD⟩, hS.F ht⟩) hS.2.2 dX2_isMajority_69
  have B_Y2_isMajority_68 : ∀ (x1 : Int32) (x2 : Int32) (x3 : Int32) (x4 : Int32) (H : Heap) (locs : List Loc) (ls_ : Array Slot), b_Y2_isMajority_68 S x0 x1 x2 x3 x4 = X → q_Y2_isMajority_68 S x0 x1 x2 x3 x4 → va_P G vwCl (wsC K ad S) H → va_D A (wsC K ad S) → va_S A s.heap H locs → lv_has ls_ 5 [(0, .ref (ad x0)), (1, .int x1), (2, .int x2), (3, .int x3), (4, .int x4)] → W p l e ({ frames := 0, cells := 0, slots := 0, locals := 0 } : Room) s m #[Value.ref (ad x0), Value.int a1, Value.int a2, Value.int a3] below meth c H locs 0 0 Q (F0 m 68 ls_ []) := by
    intro x1 x2 x3 x4 H locs ls_ hE hp hP hD hS hl
    unfold b_Y2_isMajority_68 at hE
    unfold q_Y2_isMajority_68 at hp
    refine lv_iconst (v := 0) hx hb dX2_isMajority_68 (by decide) ?_
    exact B_Y2_isMajority_69 x1 x2 x3 x4 0 _ _ _ hE hp hP hD hS (lv_sub hl [0, 1, 2, 3, 4] rfl)
  have B_Y2_isMajority_42 : ∀ (x1 : Int32) (x2 : Int32) (x3 : Int32) (x4 : Int32) (y0 : Int32) (H : Heap) (locs : List Loc) (ls_ : Array Slot), b_Y2_isMajority_42 S x0 x1 x2 x3 x4 y0 = X → q_Y2_isMajority_42 S x0 x1 x2 x3 x4 y0 → va_P G vwCl (wsC K ad S) H → va_D A (wsC K ad S) → va_S A s.heap H locs → lv_has ls_ 5 [(0, .ref (ad x0)), (1, .int x1), (2, .int x2), (3, .int x3), (4, .int x4)] → W p l e ({ frames := 0, cells := 0, slots := 0, locals := 0 } : Room) s m #[Value.ref (ad x0), Value.int a1, Value.int a2, Value.int a3] below meth c H locs 0 0 Q (F0 m 42 ls_ [.int y0]) := by
    intro x1 x2 x3 x4 y0 H locs ls_ hE hp hP hD hS hl
    unfold b_Y2_isMajority_42 at hE
    unfold q_Y2_isMajority_42 at hp
    obtain ⟨hy10, hp⟩ := hp
    subst hQ
    exact W.zret (v := y0) (ty := .boolean) hx hb hr hy10 (fun t ht hW => ⟨⟨y0, S, rfl, (pair_i (hE.trans hX.symm)), by rw [ht]; exact hP, hD⟩, hS.F ht⟩) hS.2.2 dX2_isMajority_42
  have B_Y2_isMajority_24 : ∀ (x1 : Int32) (x2 : Int32) (x3 : Int32) (y0 : Int32) (H : Heap) (locs : List Loc) (ls_ : Array Slot), b_Y2_isMajority_24 S x0 x1 x2 x3 y0 = X → q_Y2_isMajority_24 S x0 x1 x2 x3 y0 → va_P G vwCl (wsC K ad S) H → va_D A (wsC K ad S) → va_S A s.heap H locs → lv_has ls_ 5 [(0, .ref (ad x0)), (1, .int x1), (2, .int x2), (3, .int x3)] → W p l e ({ frames := 0, cells := 0, slots := 0, locals := 0 } : Room) s m #[Value.ref (ad x0), Value.int a1, Value.int a2, Value.int a3] below meth c H locs 0 0 Q (F0 m 24 ls_ [.int y0]) := by
    intro x1 x2 x3 y0 H locs ls_ hE hp hP hD hS hl
    unfold b_Y2_isMajority_24 at hE
    unfold q_Y2_isMajority_24 at hp
    refine lv_istore (i := 4) (lv' := [(4, .int y0), (0, .ref (ad x0)), (1, .int x1), (2, .int x2), (3, .int x3)]) hx hb dX2_isMajority_24 hl (by decide) rfl (fun ls_ hl => ?_)
    refine lv_iload hx hb dX2_isMajority_26 (lv_at hl 0 rfl) ?_
    refine lv_iconst (v := 1) hx hb dX2_isMajority_28 (by decide) ?_
    refine lv_icmp_ne (tgt := 43) hx hb dX2_isMajority_29 (by decide) (fun c2 => ?_) (fun c2 => ?_)
    · rw [if_neg c2] at hE hp
      refine lv_iload hx hb dX2_isMajority_43 (lv_at hl 0 rfl) ?_
      refine lv_iconst (v := 2) hx hb dX2_isMajority_45 (by decide) ?_
      refine lv_icmp_ne (tgt := 70) hx hb dX2_isMajority_46 (by decide) (fun c3 => ?_) (fun c3 => ?_)
      · rw [if_neg c3] at hE hp
        refine lv_iconst (v := 2) hx hb dX2_isMajority_70 (by decide) ?_
        refine lv_iload_n hx hb dX2_isMajority_71 rfl (lv_at hl 3 rfl) ?_
        refine lv_imul hx hb dX2_isMajority_72 ?_
        refine lv_aload_n hx hb dX2_isMajority_73 rfl (lv_at hl 1 rfl) ?_
        refine va_get (D := G) (ci := 1) (v := .int (giC S x0 0)) (C := RX2) (T := TX2) (N := 8) hx hb hts iX2 hown hK hP x0 (at_1 k_x0) rfl 0 (by decide) (hw (.fieldLink RX2 19 "MotionFloor$House" "seats" "I") (List.mem_of_getElem? (i := 0) rfl)) (fun _ h9 => h9) rfl dX2_isMajority_74 ?_
        refine lv_icmp_le (tgt := 84) hx hb dX2_isMajority_77 (by decide) (fun c4 => ?_) (fun c4 => ?_)
        · rw [if_pos c4] at hE hp
          refine lv_iconst (v := 0) hx hb dX2_isMajority_84 (by decide) ?_
          exact B_Y2_isMajority_85 x1 x2 x3 y0 0 _ _ _ hE hp hP hD hS (lv_sub hl [1, 2, 3, 4, 0] rfl)
        · rw [if_neg c4] at hE hp
          refine lv_iconst (v := 1) hx hb dX2_isMajority_80 (by decide) ?_
          refine lv_goto (tgt := 85) hx hb dX2_isMajority_81 (by decide) ?_
          exact B_Y2_isMajority_85 x1 x2 x3 y0 1 _ _ _ hE hp hP hD hS (lv_sub hl [1, 2, 3, 4, 0] rfl)
      · rw [if_pos c3] at hE hp
        refine lv_iload_n hx hb dX2_isMajority_49 rfl (lv_at hl 3 rfl) ?_
        refine lv_if_le (tgt := 68) hx hb dX2_isMajority_50 (by decide) (fun c6 => ?_) (fun c6 => ?_)
        · rw [if_pos c6] at hE hp
          exact B_Y2_isMajority_68 x1 x2 x3 y0 _ _ _ hE hp hP hD hS (lv_sub hl [1, 2, 3, 4, 0] rfl)
        · rw [if_neg c6] at hE hp
          refine lv_iconst (v := 3) hx hb dX2_isMajority_53 (by decide) ?_
          refine lv_iload_n hx hb dX2_isMajority_54 rfl (lv_at hl 3 rfl) ?_
          refine lv_imul hx hb dX2_isMajority_55 ?_
          refine lv_iconst (v := 2) hx hb dX2_isMajority_56 (by decide) ?_
          refine lv_iload_n hx hb dX2_isMajority_57 rfl (lv_at hl 3 rfl) ?_
          refine lv_iload_n hx hb dX2_isMajority_58 rfl (lv_at hl 4 rfl) ?_
          refine lv_iadd hx hb dX2_isMajority_59 ?_
          refine lv_imul hx hb dX2_isMajority_60 ?_
          refine lv_icmp_lt (tgt := 68) hx hb dX2_isMajority_61 (by decide) (fun c8 => ?_) (fun c8 => ?_)
          · rw [if_pos c8] at hE hp
            exact B_Y2_isMajority_68 x1 x2 x3 y0 _ _ _ hE hp hP hD hS (lv_sub hl [1, 2, 3, 4, 0] rfl)
          · rw [if_neg c8] at hE hp
            refine lv_iconst (v := 1) hx hb dX2_isMajority_64 (by decide) ?_
            refine lv_goto (tgt := 69) hx hb dX2_isMajority_65 (by decide) ?_
            exact B_Y2_isMajority_69 x1 x2 x3 y0 1 _ _ _ hE hp hP hD hS (lv_sub hl [1, 2, 3, 4, 0] rfl)
    · rw [if_pos c2] at hE hp
      refine lv_iload_n hx hb dX2_isMajority_32 rfl (lv_at hl 3 rfl) ?_
      refine lv_iload_n hx hb dX2_isMajority_33 rfl (lv_at hl 4 rfl) ?_
      refine lv_icmp_le (tgt := 41) hx hb dX2_isMajority_34 (by decide) (fun c9 => ?_) (fun c9 => ?_)
      · rw [if_pos c9] at hE hp
        refine lv_iconst (v := 0) hx hb dX2_isMajority_41 (by decide) ?_
        exact B_Y2_isMajority_42 x1 x2 x3 y0 0 _ _ _ hE hp hP hD hS (lv_sub hl [1, 2, 3, 4, 0] rfl)
      · rw [if_neg c9] at hE hp
        refine lv_iconst (v := 1) hx hb dX2_isMajority_37 (by decide) ?_
        refine lv_goto (tgt := 42) hx hb dX2_isMajority_38 (by decide) ?_
        exact B_Y2_isMajority_42 x1 x2 x3 y0 1 _ _ _ hE hp hP hD hS (lv_sub hl [1, 2, 3, 4, 0] rfl)
  have B_Y2_isMajority_14 : ∀ (x1 : Int32) (x2 : Int32) (x3 : Int32) (H : Heap) (locs : List Loc) (ls_ : Array Slot), b_Y2_isMajority_14 S x0 x1 x2 x3 = X → q_Y2_isMajority_14 S x0 x1 x2 x3 → va_P G vwCl (wsC K ad S) H → va_D A (wsC K ad S) → va_S A s.heap H locs → lv_has ls_ 5 [(0, .ref (ad x0)), (1, .int x1), (2, .int x2), (3, .int x3)] → W p l e ({ frames := 0, cells := 0, slots := 0, locals := 0 } : Room) s m #[Value.ref (ad x0), Value.int a1, Value.int a2, Value.int a3] below meth c H locs 0 0 Q (F0 m 14 ls_ []) := by
    intro x1 x2 x3 H locs ls_ hE hp hP hD hS hl
    unfold b_Y2_isMajority_14 at hE
    unfold q_Y2_isMajority_14 at hp
    refine lv_iconst (v := 1) hx hb dX2_isMajority_14 (by decide) ?_
    refine lv_goto (tgt := 24) hx hb dX2_isMajority_15 (by decide) ?_
    exact B_Y2_isMajority_24 x1 x2 x3 1 _ _ _ hE hp hP hD hS (lv_sub hl [0, 1, 2, 3] rfl)
  have B_M : ∀ (x1 : Int32) (x2 : Int32) (x3 : Int32) (H : Heap) (locs : List Loc) (ls_ : Array Slot), f_Y2_isMajority S x0 x1 x2 x3 = X → p_Y2_isMajority S x0 x1 x2 x3 → va_P G vwCl (wsC K ad S) H → va_D A (wsC K ad S) → va_S A s.heap H locs → lv_has ls_ 5 [(0, .ref (ad x0)), (1, .int x1), (2, .int x2), (3, .int x3)] → W p l e ({ frames := 0, cells := 0, slots := 0, locals := 0 } : Room) s m #[Value.ref (ad x0), Value.int a1, Value.int a2, Value.int a3] below meth c H locs 0 0 Q (F0 m 0 ls_ []) := by
    intro x1 x2 x3 H locs ls_ hE hp hP hD hS hl
    unfold f_Y2_isMajority at hE
    unfold p_Y2_isMajority at hp
    refine lv_iload_n hx hb dX2_isMajority_0 rfl (lv_at hl 1 rfl) ?_
    refine lv_iconst (v := 1) hx hb dX2_isMajority_1 (by decide) ?_
    refine lv_icmp_lt (tgt := 14) hx hb dX2_isMajority_2 (by decide) (fun c1 => ?_) (fun c1 => ?_)
    · rw [if_pos c1] at hE hp
      exact B_Y2_isMajority_14 x1 x2 x3 _ _ _ hE hp hP hD hS (lv_sub hl [0, 1, 2, 3] rfl)
    · rw [if_neg c1] at hE hp
      refine lv_iload_n hx hb dX2_isMajority_5 rfl (lv_at hl 1 rfl) ?_
      refine lv_aload_n hx hb dX2_isMajority_6 rfl (lv_at hl 0 rfl) ?_
      refine va_get (D := G) (ci := 1) (v := va_re ad (grC S x0 7)) (C := RX2) (T := TX2) (N := 8) hx hb hts iX2 hown hK hP x0 (at_1 k_x0) rfl 7 (by decide) (hw (.fieldLink RX2 15 "MotionFloor$House" "majorities" "[I") (List.mem_of_getElem? (i := 1) rfl)) (fun _ h9 => h9) rfl dX2_isMajority_7 ?_
      obtain ⟨hy11, hp⟩ := hp
      refine cTop (r := (grC S x0 7)) hy11.1 ?_
      refine va_alen (v := (Int32.ofNat (lnC S ((grC S x0 7).getD 0)))) hx hb hK hP ((grC S x0 7).getD 0) 0 (at_20 hy11.2) rfl rfl dX2_isMajority_10 ?_
      refine lv_icmp_lt (tgt := 18) hx hb dX2_isMajority_11 (by decide) (fun c12 => ?_) (fun c12 => ?_)
      · rw [if_pos c12] at hE hp
        refine lv_aload_n hx hb dX2_isMajority_18 rfl (lv_at hl 0 rfl) ?_
        refine va_get (D := G) (ci := 1) (v := va_re ad (grC S x0 7)) (C := RX2) (T := TX2) (N := 8) hx hb hts iX2 hown hK hP x0 (at_1 k_x0) rfl 7 (by decide) (hw (.fieldLink RX2 15 "MotionFloor$House" "majorities" "[I") (List.mem_of_getElem? (i := 1) rfl)) (fun _ h9 => h9) rfl dX2_isMajority_19 ?_
        refine lv_iload_n hx hb dX2_isMajority_22 rfl (lv_at hl 1 rfl) ?_
        obtain ⟨hy13, hp⟩ := hp
        refine cTop2 (r := (grC S x0 7)) hy13.1 ?_
        obtain ⟨hy14, hp⟩ := hp
        refine va_iald hx hb hK hP ((grC S x0 7).getD 0) 0 (at_20 hy13.2) rfl hy14 dX2_isMajority_23 ?_
        exact B_Y2_isMajority_24 x1 x2 x3 (giC S ((grC S x0 7).getD 0) x1.toNatClampNeg) _ _ _ hE hp hP hD hS (lv_sub hl [0, 1, 2, 3] rfl)
      · rw [if_neg c12] at hE hp
        exact B_Y2_isMajority_14 x1 x2 x3 _ _ _ hE hp hP hD hS (lv_sub hl [0, 1, 2, 3] rfl)
  exact B_M a1 a2 a3 _ _ _ hX hp hP hD hS hl
theorem dX3_at_0 : decode cX3_at 0 = .ok (.iload_n 1, 1) := by decide +kernel
theorem dX3_at_1 : decode cX3_at 1 = .ok (.ifCond .lt 23, 3) := by decide +kernel
theorem dX3_at_4 : decode cX3_at 4 = .ok (.iload_n 1, 1) := by decide +kernel
theorem dX3_at_5 : decode cX3_at 5 = .ok (.aload_n 0, 1) := by decide +kernel
theorem dX3_at_6 : decode cX3_at 6 = .ok (.getfield 28, 3) := by decide +kernel
theorem dX3_at_9 : decode cX3_at 9 = .ok (.if_icmp .ge 15, 3) := by decide +kernel
theorem dX3_at_12 : decode cX3_at 12 = .ok (.iload_n 2, 1) := by decide +kernel
theorem dX3_at_13 : decode cX3_at 13 = .ok (.ifCond .lt 11, 3) := by decide +kernel
theorem dX3_at_16 : decode cX3_at 16 = .ok (.iload_n 2, 1) := by decide +kernel
theorem dX3_at_17 : decode cX3_at 17 = .ok (.aload_n 0, 1) := by decide +kernel
theorem dX3_at_18 : decode cX3_at 18 = .ok (.getfield 15, 3) := by decide +kernel
theorem dX3_at_21 : decode cX3_at 21 = .ok (.if_icmp .lt 5, 3) := by decide +kernel
theorem dX3_at_24 : decode cX3_at 24 = .ok (.iconst (-1), 1) := by decide +kernel
theorem dX3_at_25 : decode cX3_at 25 = .ok (.ireturn, 1) := by decide +kernel
theorem dX3_at_26 : decode cX3_at 26 = .ok (.iload_n 1, 1) := by decide +kernel
theorem dX3_at_27 : decode cX3_at 27 = .ok (.aload_n 0, 1) := by decide +kernel
theorem dX3_at_28 : decode cX3_at 28 = .ok (.getfield 15, 3) := by decide +kernel
theorem dX3_at_31 : decode cX3_at 31 = .ok (.imul, 1) := by decide +kernel
theorem dX3_at_32 : decode cX3_at 32 = .ok (.iload_n 2, 1) := by decide +kernel
theorem dX3_at_33 : decode cX3_at 33 = .ok (.iadd, 1) := by decide +kernel
theorem dX3_at_34 : decode cX3_at 34 = .ok (.istore_n 3, 1) := by decide +kernel
theorem dX3_at_35 : decode cX3_at 35 = .ok (.iload_n 3, 1) := by decide +kernel
theorem dX3_at_36 : decode cX3_at 36 = .ok (.ifCond .lt 12, 3) := by decide +kernel
theorem dX3_at_39 : decode cX3_at 39 = .ok (.iload_n 3, 1) := by decide +kernel
theorem dX3_at_40 : decode cX3_at 40 = .ok (.aload_n 0, 1) := by decide +kernel
theorem dX3_at_41 : decode cX3_at 41 = .ok (.getfield 24, 3) := by decide +kernel
theorem dX3_at_44 : decode cX3_at 44 = .ok (.arraylength, 1) := by decide +kernel
theorem dX3_at_45 : decode cX3_at 45 = .ok (.if_icmp .lt 7, 3) := by decide +kernel
theorem dX3_at_48 : decode cX3_at 48 = .ok (.iconst (-1), 1) := by decide +kernel
theorem dX3_at_49 : decode cX3_at 49 = .ok (.goto 9, 3) := by decide +kernel
theorem dX3_at_52 : decode cX3_at 52 = .ok (.aload_n 0, 1) := by decide +kernel
theorem dX3_at_53 : decode cX3_at 53 = .ok (.getfield 24, 3) := by decide +kernel
theorem dX3_at_56 : decode cX3_at 56 = .ok (.iload_n 3, 1) := by decide +kernel
theorem dX3_at_57 : decode cX3_at 57 = .ok (.iaload, 1) := by decide +kernel
theorem dX3_at_58 : decode cX3_at 58 = .ok (.ireturn, 1) := by decide +kernel
set_option maxRecDepth 100000 in
theorem zc378 : wZ (.fieldLink RX3 24 "MotionFloor$Ledger" "cells" "[I") := ⟨wT1 (List.mem_of_getElem? (i := 132) (by decide +kernel)), Or.inl rfl⟩
set_option maxRecDepth 100000 in
theorem zc379 : wZ (.fieldLink RX3 15 "MotionFloor$Ledger" "columns" "I") := ⟨wT1 (List.mem_of_getElem? (i := 130) (by decide +kernel)), Or.inl rfl⟩
set_option maxRecDepth 100000 in
theorem zc380 : wZ (.code yX3_at cX3_at 4 (some .int)) := ⟨wT4 (List.mem_of_getElem? (i := 177) rfl), Or.inl rfl⟩
def b_Y3_at_24 (S : Cst) (x0 : Nat) (x1 : Int32) (x2 : Int32) : Int32 := ((-1) : Int32)
def q_Y3_at_24 (S : Cst) (x0 : Nat) (x1 : Int32) (x2 : Int32) : Prop := True
def b_Y3_at_58 (S : Cst) (x0 : Nat) (x1 : Int32) (x2 : Int32) (x3 : Int32) (y0 : Int32) : Int32 := y0
def q_Y3_at_58 (S : Cst) (x0 : Nat) (x1 : Int32) (x2 : Int32) (x3 : Int32) (y0 : Int32) : Prop := True
def b_Y3_at_48 (S : Cst) (x0 : Nat) (x1 : Int32) (x2 : Int32) (x3 : Int32) : Int32 := (b_Y3_at_58 S x0 x1 x2 x3 (-1))
def q_Y3_at_48 (S : Cst) (x0 : Nat) (x1 : Int32) (x2 : Int32) (x3 : Int32) : Prop := (q_Y3_at_58 S x0 x1 x2 x3 (-1))
def f_Y3_at (S : Cst) (x0 : Nat) (x1 : Int32) (x2 : Int32) : Int32 := if x1 < 0 then (b_Y3_at_24 S x0 x1 x2) else if (giC S x0 3) ≤ x1 then (b_Y3_at_24 S x0 x1 x2) else if x2 < 0 then (b_Y3_at_24 S x0 x1 x2) else if x2 < (giC S x0 0) then if ((x1 * (giC S x0 0)) + x2) < 0 then (b_Y3_at_48 S x0 x1 x2 ((x1 * (giC S x0 0)) + x2)) else if ((x1 * (giC S x0 0)) + x2) < (Int32.ofNat (lnC S ((grC S x0 2).getD 0))) then (b_Y3_at_58 S x0 x1 x2 ((x1 * (giC S x0 0)) + x2) (giC S ((grC S x0 2).getD 0) ((x1 * (giC S x0 0)) + x2).toNatClampNeg)) else (b_Y3_at_48 S x0 x1 x2 ((x1 * (giC S x0 0)) + x2)) else (b_Y3_at_24 S x0 x1 x2)
def p_Y3_at (S : Cst) (x0 : Nat) (x1 : Int32) (x2 : Int32) : Prop := (if x1 < 0 then (q_Y3_at_24 S x0 x1 x2) else (if (giC S x0 3) ≤ x1 then (q_Y3_at_24 S x0 x1 x2) else (if x2 < 0 then (q_Y3_at_24 S x0 x1 x2) else (if x2 < (giC S x0 0) then (if ((x1 * (giC S x0 0)) + x2) < 0 then (q_Y3_at_48 S x0 x1 x2 ((x1 * (giC S x0 0)) + x2)) else (iR S (grC S x0 2) 20) ∧ (if ((x1 * (giC S x0 0)) + x2) < (Int32.ofNat (lnC S ((grC S x0 2).getD 0))) then (iR S (grC S x0 2) 20) ∧ (vp_in ((x1 * (giC S x0 0)) + x2) (lnC S ((grC S x0 2).getD 0))) ∧ (q_Y3_at_58 S x0 x1 x2 ((x1 * (giC S x0 0)) + x2) (giC S ((grC S x0 2).getD 0) ((x1 * (giC S x0 0)) + x2).toNatClampNeg)) else (q_Y3_at_48 S x0 x1 x2 ((x1 * (giC S x0 0)) + x2)))) else (q_Y3_at_24 S x0 x1 x2)))))
def e_Y3_at : List Cond := [.fieldLink RX3 28 "MotionFloor$Ledger" "size" "I", .fieldLink RX3 15 "MotionFloor$Ledger" "columns" "I", .fieldLink RX3 24 "MotionFloor$Ledger" "cells" "[I"]
def v_Y3_at : List Cond := .code yX3_at cX3_at 4 (some .int) :: (e_Y3_at ++ (wsX30 ++ []))
theorem te_Y3_at : GoodIn lw_tbl e_Y3_at := wGc zc248 (wGc zc379 (wGc zc378 (wG0)))
theorem t_Y3_at : GoodIn lw_tbl v_Y3_at := wGc zc380 (wGa te_Y3_at (wGa zcX3 (wG0)))
set_option maxHeartbeats 4000000 in
set_option maxRecDepth 100000 in
theorem c_Y3_at (l : Launch) (G : va_G) (K : Nat → ClassId) (ad : Nat → Nat) (S : Cst) (x0 : Nat) (a1 : Int32) (a2 : Int32) (sz : Nat) : Met l yX3_at v_Y3_at ({ frames := 0, cells := 0, slots := 0, locals := 0 }) (va_Pc [.ref (ad x0), .int a1, .int a2] (cSt G K ad sz S (iK S x0 2 ∧ p_Y3_at S x0 a1 a2))) (va_Qi (fun (r : Int32) (u : Cst) => (r, u) = (f_Y3_at S x0 a1 a2, S)) (cBt G K ad (va_A (wsC K ad S) sz)) (va_A (wsC K ad S) sz)) 0 0 (va_A (wsC K ad S) sz) := by
  refine Met.ofW (cc := cX3_at) (maxL := 4) (ret := (some .int)) (by decide) rfl ?_
  intro p e s m args below meth c s₁ B hml hv
  obtain ⟨rfl, ⟨hsz, hP, hK, hD0, hTE⟩, hp⟩ := hv
  obtain ⟨k_x0, hp⟩ := hp
  have hx := B.exec
  have hb := B.bytes
  have hr := B.returns
  have hts := atoms_spec (ws := v_Y3_at) B.pre
  have t_ := t_Y3_at
  have mw : ∀ w ∈ e_Y3_at, w ∈ v_Y3_at := fun w h => List.mem_cons_of_mem _ (List.mem_append_left _ h)
  have hw := fun w (h : w ∈ e_Y3_at) => hts w (mw w h)
  have iX3 : ∀ w ∈ wsX30, w ∈ v_Y3_at := fun w h => List.mem_cons_of_mem _ (List.mem_append_right _ (List.mem_append_left _ h))
  have hown : s.vm.findClass RX3 = some m.cls := findClass_of_methodNamed B.named
  have hlocks := B.notSynchronized
  subst hsz
  have hD := hD0.self (sz := s.heap.size)
  generalize hAe : va_A (wsC K ad S) s.heap.size = A at hD ⊢
  have hA : ∀ q : Nat, s.heap.size ≤ q → A q := fun q h => by rw [← hAe]; exact Or.inr h
  have hS : va_S A s.heap s.heap [] := va_S.rf
  have hl : lv_has (lg_sl ([.ref (ad x0), .int a1, .int a2]) ++ List.replicate (4 - (lg_sl ([.ref (ad x0), .int a1, .int a2])).length) Slot.unset).toArray 4 [(0, .ref (ad x0)), (1, .int a1), (2, .int a2)] := by
    exact lv_entry ([.ref (ad x0), .int a1, .int a2]) (n := 4) (Nat.le_of_ble_eq_true rfl)
  rw [lg_entry_eq]
  generalize (lg_sl ([.ref (ad x0), .int a1, .int a2]) ++ List.replicate (4 - (lg_sl ([.ref (ad x0), .int a1, .int a2])).length) Slot.unset).toArray = ls_ at hl ⊢
  refine wGen (fun Q hQ => ?_)
  obtain ⟨X, hX⟩ : ∃ X, f_Y3_at S x0 a1 a2 = X := ⟨_, rfl⟩
  have B_Y3_at_24 : ∀ (x1 : Int32) (x2 : Int32) (H : Heap) (locs : List Loc) (ls_ : Array Slot), b_Y3_at_24 S x0 x1 x2 = X → q_Y3_at_24 S x0 x1 x2 → va_P G vwCl (wsC K ad S) H → va_D A (wsC K ad S) → va_S A s.heap H locs → lv_has ls_ 4 [(0, .ref (ad x0)), (1, .int x1), (2, .int x2)] → W p l e ({ frames := 0, cells := 0, slots := 0, locals := 0 } : Room) s m #[Value.ref (ad x0), Value.int a1, Value.int a2] below meth c H locs 0 0 Q (F0 m 24 ls_ []) := by
    intro x1 x2 H locs ls_ hE hp hP hD hS hl
    unfold b_Y3_at_24 at hE
    unfold q_Y3_at_24 at hp
    refine lv_iconst (v := (-1)) hx hb dX3_at_24 (by decide) ?_
    subst hQ
    exact W.iret (v := ((-1) : Int32)) hx hb hr (fun t ht hW => ⟨⟨((-1) : Int32), S, rfl, (pair_i (hE.trans hX.symm)), by rw [ht]; exact hP, hD⟩, hS.F ht⟩) hS.2.2 dX3_at_25
  have B_Y3_at_58 : ∀ (x1 : Int32) (x2 : Int32) (x3 : Int32) (y0 : Int32) (H : Heap) (locs : List Loc) (ls_ : Array Slot), b_Y3_at_58 S x0 x1 x2 x3 y0 = X → q_Y3_at_58 S x0 x1 x2 x3 y0 → va_P G vwCl (wsC K ad S) H → va_D A (wsC K ad S) → va_S A s.heap H locs → lv_has ls_ 4 [(0, .ref (ad x0)), (1, .int x1), (2, .int x2), (3, .int x3)] → W p l e ({ frames := 0, cells := 0, slots := 0, locals := 0 } : Room) s m #[Value.ref (ad x0), Value.int a1, Value.int a2] below meth c H locs 0 0 Q (F0 m 58 ls_ [.int y0]) := by
    intro x1 x2 x3 y0 H locs ls_ hE hp hP hD hS hl
    unfold b_Y3_at_58 at hE
    unfold q_Y3_at_58 at hp
    subst hQ
    exact W.iret (v := y0) hx hb hr (fun t ht hW => ⟨⟨y0, S, rfl, (pair_i (hE.trans hX.symm)), by rw [ht]; exact hP, hD⟩, hS.F ht⟩) hS.2.2 dX3_at_58
  have B_Y3_at_48 : ∀ (x1 : Int32) (x2 : Int32) (x3 : Int32) (H : Heap) (locs : List Loc) (ls_ : Array Slot), b_Y3_at_48 S x0 x1 x2 x3 = X → q_Y3_at_48 S x0 x1 x2 x3 → va_P G vwCl (wsC K ad S) H → va_D A (wsC K ad S) → va_S A s.heap H locs → lv_has ls_ 4 [(0, .ref (ad x0)), (1, .int x1), (2, .int x2), (3, .int x3)] → W p l e ({ frames := 0, cells := 0, slots := 0, locals := 0 } : Room) s m #[Value.ref (ad x0), Value.int a1, Value.int a2] below meth c H locs 0 0 Q (F0 m 48 ls_ []) := by
    intro x1 x2 x3 H locs ls_ hE hp hP hD hS hl
    unfold b_Y3_at_48 at hE
    unfold q_Y3_at_48 at hp
    refine lv_iconst (v := (-1)) hx hb dX3_at_48 (by decide) ?_
    refine lv_goto (tgt := 58) hx hb dX3_at_49 (by decide) ?_
    exact B_Y3_at_58 x1 x2 x3 (-1) _ _ _ hE hp hP hD hS (lv_sub hl [0, 1, 2, 3] rfl)
  have B_M : ∀ (x1 : Int32) (x2 : Int32) (H : Heap) (locs : List Loc) (ls_ : Array Slot), f_Y3_at S x0 x1 x2 = X → p_Y3_at S x0 x1 x2 → va_P G vwCl (wsC K ad S) H → va_D A (wsC K ad S) → va_S A s.heap H locs → lv_has ls_ 4 [(0, .ref (ad x0)), (1, .int x1), (2, .int x2)] → W p l e ({ frames := 0, cells := 0, slots := 0, locals := 0 } : Room) s m #[Value.ref (ad x0), Value.int a1, Value.int a2] below meth c H locs 0 0 Q (F0 m 0 ls_ []) := by
    intro x1 x2 H locs ls_ hE hp hP hD hS hl
    unfold f_Y3_at at hE
    unfold p_Y3_at at hp
    refine lv_iload_n hx hb dX3_at_0 rfl (lv_at hl 1 rfl) ?_
    refine lv_if_lt (tgt := 24) hx hb dX3_at_1 (by decide) (fun c1 => ?_) (fun c1 => ?_)
    · rw [if_pos c1] at hE hp
      exact B_Y3_at_24 x1 x2 _ _ _ hE hp hP hD hS (lv_sub hl [0, 1, 2] rfl)
    · rw [if_neg c1] at hE hp
      refine lv_iload_n hx hb dX3_at_4 rfl (lv_at hl 1 rfl) ?_
      refine lv_aload_n hx hb dX3_at_5 rfl (lv_at hl 0 rfl) ?_
      refine va_get (D := G) (ci := 2) (v := .int (giC S x0 3)) (C := RX3) (T := TX3) (N := 4) hx hb hts iX3 hown hK hP x0 (at_2 k_x0) rfl 3 (by decide) (hw (.fieldLink RX3 28 "MotionFloor$Ledger" "size" "I") (List.mem_of_getElem? (i := 0) rfl)) (fun _ h9 => h9) rfl dX3_at_6 ?_
      refine lv_icmp_ge (tgt := 24) hx hb dX3_at_9 (by decide) (fun c2 => ?_) (fun c2 => ?_)
      · rw [if_pos c2] at hE hp
        exact B_Y3_at_24 x1 x2 _ _ _ hE hp hP hD hS (lv_sub hl [0, 1, 2] rfl)
      · rw [if_neg c2] at hE hp
        refine lv_iload_n hx hb dX3_at_12 rfl (lv_at hl 2 rfl) ?_
        refine lv_if_lt (tgt := 24) hx hb dX3_at_13 (by decide) (fun c3 => ?_) (fun c3 => ?_)
        · rw [if_pos c3] at hE hp
          exact B_Y3_at_24 x1 x2 _ _ _ hE hp hP hD hS (lv_sub hl [0, 1, 2] rfl)
        · rw [if_neg c3] at hE hp
          refine lv_iload_n hx hb dX3_at_16 rfl (lv_at hl 2 rfl) ?_
          refine lv_aload_n hx hb dX3_at_17 rfl (lv_at hl 0 rfl) ?_
          refine va_get (D := G) (ci := 2) (v := .int (giC S x0 0)) (C := RX3) (T := TX3) (N := 4) hx hb hts iX3 hown hK hP x0 (at_2 k_x0) rfl 0 (by decide) (hw (.fieldLink RX3 15 "MotionFloor$Ledger" "columns" "I") (List.mem_of_getElem? (i := 1) rfl)) (fun _ h9 => h9) rfl dX3_at_18 ?_
          refine lv_icmp_lt (tgt := 26) hx hb dX3_at_21 (by decide) (fun c4 => ?_) (fun c4 => ?_)
          · rw [if_pos c4] at hE hp
            refine lv_iload_n hx hb dX3_at_26 rfl (lv_at hl 1 rfl) ?_
            refine lv_aload_n hx hb dX3_at_27 rfl (lv_at hl 0 rfl) ?_
            refine va_get (D := G) (ci := 2) (v := .int (giC S x0 0)) (C := RX3) (T := TX3) (N := 4) hx hb hts iX3 hown hK hP x0 (at_2 k_x0) rfl 0 (by decide) (hw (.fieldLink RX3 15 "MotionFloor$Ledger" "columns" "I") (List.mem_of_getElem? (i := 1) rfl)) (fun _ h9 => h9) rfl dX3_at_28 ?_
            refine lv_imul hx hb dX3_at_31 ?_
            refine lv_iload_n hx hb dX3_at_32 rfl (lv_at hl 2 rfl) ?_
            refine lv_iadd hx hb dX3_at_33 ?_
            refine lv_istore_n (i := 3) (lv' := [(3, .int ((x1 * (giC S x0 0)) + x2)), (0, .ref (ad x0)), (1, .int x1), (2, .int x2)]) hx hb dX3_at_34 rfl hl (by decide) rfl (fun ls_ hl => ?_)
            refine lv_iload_n hx hb dX3_at_35 rfl (lv_at hl 0 rfl) ?_
            refine lv_if_lt (tgt := 48) hx hb dX3_at_36 (by decide) (fun c5 => ?_) (fun c5 => ?_)
            · rw [if_pos c5] at hE hp
              exact B_Y3_at_48 x1 x2 ((x1 * (giC S x0 0)) + x2) _ _ _ hE hp hP hD hS (lv_sub hl [1, 2, 3, 0] rfl)
            · rw [if_neg c5] at hE hp
              refine lv_iload_n hx hb dX3_at_39 rfl (lv_at hl 0 rfl) ?_
              refine lv_aload_n hx hb dX3_at_40 rfl (lv_at hl 1 rfl) ?_
              refine va_get (D := G) (ci := 2) (v := va_re ad (grC S x0 2)) (C := RX3) (T := TX3) (N := 4) hx hb hts iX3 hown hK hP x0 (at_2 k_x0) rfl 2 (by decide) (hw (.fieldLink RX3 24 "MotionFloor$Ledger" "cells" "[I") (List.mem_of_getElem? (i := 2) rfl)) (fun _ h9 => h9) rfl dX3_at_41 ?_
              obtain ⟨hy6, hp⟩ := hp
              refine cTop (r := (grC S x0 2)) hy6.1 ?_
              refine va_alen (v := (Int32.ofNat (lnC S ((grC S x0 2).getD 0)))) hx hb hK hP ((grC S x0 2).getD 0) 0 (at_20 hy6.2) rfl rfl dX3_at_44 ?_
              refine lv_icmp_lt (tgt := 52) hx hb dX3_at_45 (by decide) (fun c7 => ?_) (fun c7 => ?_)
              · rw [if_pos c7] at hE hp
                refine lv_aload_n hx hb dX3_at_52 rfl (lv_at hl 1 rfl) ?_
                refine va_get (D := G) (ci := 2) (v := va_re ad (grC S x0 2)) (C := RX3) (T := TX3) (N := 4) hx hb hts iX3 hown hK hP x0 (at_2 k_x0) rfl 2 (by decide) (hw (.fieldLink RX3 24 "MotionFloor$Ledger" "cells" "[I") (List.mem_of_getElem? (i := 2) rfl)) (fun _ h9 => h9) rfl dX3_at_53 ?_
                refine lv_iload_n hx hb dX3_at_56 rfl (lv_at hl 0 rfl) ?_
                obtain ⟨hy8, hp⟩ := hp
                refine cTop2 (r := (grC S x0 2)) hy8.1 ?_
                obtain ⟨hy9, hp⟩ := hp
                refine va_iald hx hb hK hP ((grC S x0 2).getD 0) 0 (at_20 hy8.2) rfl hy9 dX3_at_57 ?_
                exact B_Y3_at_58 x1 x2 ((x1 * (giC S x0 0)) + x2) (giC S ((grC S x0 2).getD 0) ((x1 * (giC S x0 0)) + x2).toNatClampNeg) _ _ _ hE hp hP hD hS (lv_sub hl [1, 2, 3, 0] rfl)
              · rw [if_neg c7] at hE hp
                exact B_Y3_at_48 x1 x2 ((x1 * (giC S x0 0)) + x2) _ _ _ hE hp hP hD hS (lv_sub hl [1, 2, 3, 0] rfl)
          · rw [if_neg c4] at hE hp
            exact B_Y3_at_24 x1 x2 _ _ _ hE hp hP hD hS (lv_sub hl [0, 1, 2] rfl)
  exact B_M a1 a2 _ _ _ hX hp hP hD hS hl
