theorem gdX10_order_0 : ckS (List.drop 0 cX10_order.data.toList) 0 [(0, .aload_n 0, 1), (1, .getfield 10, 3), (4, .aload_n 0, 1), (5, .getfield 10, 3), (8, .bipush 15, 2), (10, .iload_n 1, 1), (11, .iconst 0, 1), (12, .iconst 0, 1), (13, .iconst 0, 1), (14, .invokestatic 36, 3), (17, .putfield 42, 3), (20, .aload_n 0, 1), (21, .getfield 10, 3), (24, .getfield 42, 3), (27, .ifCond .ne 7, 3), (30, .iconst 1, 1), (31, .goto 4, 3), (34, .iconst 0, 1), (35, .ireturn, 1)] = true := by decide +kernel
theorem dX10_order_0 : decode cX10_order 0 = .ok (.aload_n 0, 1) := ckS_g gdX10_order_0 0 rfl
theorem dX10_order_1 : decode cX10_order 1 = .ok (.getfield 10, 3) := ckS_g gdX10_order_0 1 rfl
theorem dX10_order_4 : decode cX10_order 4 = .ok (.aload_n 0, 1) := ckS_g gdX10_order_0 2 rfl
theorem dX10_order_5 : decode cX10_order 5 = .ok (.getfield 10, 3) := ckS_g gdX10_order_0 3 rfl
theorem dX10_order_8 : decode cX10_order 8 = .ok (.bipush 15, 2) := ckS_g gdX10_order_0 4 rfl
theorem dX10_order_10 : decode cX10_order 10 = .ok (.iload_n 1, 1) := ckS_g gdX10_order_0 5 rfl
theorem dX10_order_11 : decode cX10_order 11 = .ok (.iconst 0, 1) := ckS_g gdX10_order_0 6 rfl
theorem dX10_order_12 : decode cX10_order 12 = .ok (.iconst 0, 1) := ckS_g gdX10_order_0 7 rfl
theorem dX10_order_13 : decode cX10_order 13 = .ok (.iconst 0, 1) := ckS_g gdX10_order_0 8 rfl
theorem dX10_order_14 : decode cX10_order 14 = .ok (.invokestatic 36, 3) := ckS_g gdX10_order_0 9 rfl
theorem dX10_order_17 : decode cX10_order 17 = .ok (.putfield 42, 3) := ckS_g gdX10_order_0 10 rfl
theorem dX10_order_20 : decode cX10_order 20 = .ok (.aload_n 0, 1) := ckS_g gdX10_order_0 11 rfl
theorem dX10_order_21 : decode cX10_order 21 = .ok (.getfield 10, 3) := ckS_g gdX10_order_0 12 rfl
theorem dX10_order_24 : decode cX10_order 24 = .ok (.getfield 42, 3) := ckS_g gdX10_order_0 13 rfl
theorem dX10_order_27 : decode cX10_order 27 = .ok (.ifCond .ne 7, 3) := ckS_g gdX10_order_0 14 rfl
theorem dX10_order_30 : decode cX10_order 30 = .ok (.iconst 1, 1) := ckS_g gdX10_order_0 15 rfl
theorem dX10_order_31 : decode cX10_order 31 = .ok (.goto 4, 3) := ckS_g gdX10_order_0 16 rfl
theorem dX10_order_34 : decode cX10_order 34 = .ok (.iconst 0, 1) := ckS_g gdX10_order_0 17 rfl
theorem dX10_order_35 : decode cX10_order 35 = .ok (.ireturn, 1) := ckS_g gdX10_order_0 18 rfl
set_option maxRecDepth 100000 in
theorem zc498 : wZ (.fieldLink RX10 42 "MotionFloor$Assembly" "reason" "I") := ⟨wT1 (List.mem_of_getElem? (i := 210) (by decide +kernel)), Or.inl rfl⟩
set_option maxRecDepth 100000 in
theorem zc499 : wZ (.static yX8_against) := ⟨wT2 (List.mem_of_getElem? (i := 50) (by decide +kernel)), Or.inl rfl⟩
set_option maxRecDepth 100000 in
theorem zc500 : wZ (.methodLink RX10 36 yX8_against) := ⟨wT4 (List.mem_of_getElem? (i := 116) (by decide +kernel)), Or.inl rfl⟩
set_option maxRecDepth 100000 in
theorem zc501 : wZ (.code yX10_order cX10_order 2 (some .int)) := ⟨wT4 (List.mem_of_getElem? (i := 115) rfl), Or.inl rfl⟩
def b_Y10_order_35 (S : Cst) (x0 : Nat) (x1 : Int32) (y0 : Int32) : Int32 × Cst := (y0, S)
def q_Y10_order_35 (S : Cst) (x0 : Nat) (x1 : Int32) (y0 : Int32) : Prop := True
def b_Y10_order_17a (S : Cst) (x0 : Nat) (x1 : Int32) (y0 : Int32) (o1 : Option Nat) : Int32 × Cst := if (giC (siC S (o1.getD 0) 9 y0) ((grC (siC S (o1.getD 0) 9 y0) x0 0).getD 0) 9) = 0 then (b_Y10_order_35 (siC S (o1.getD 0) 9 y0) x0 x1 1) else (b_Y10_order_35 (siC S (o1.getD 0) 9 y0) x0 x1 0)
def q_Y10_order_17a (S : Cst) (x0 : Nat) (x1 : Int32) (y0 : Int32) (o1 : Option Nat) : Prop := (iR S o1 0) ∧ (iR (siC S (o1.getD 0) 9 y0) (grC (siC S (o1.getD 0) 9 y0) x0 0) 0) ∧ (if (giC (siC S (o1.getD 0) 9 y0) ((grC (siC S (o1.getD 0) 9 y0) x0 0).getD 0) 9) = 0 then (q_Y10_order_35 (siC S (o1.getD 0) 9 y0) x0 x1 1) else (q_Y10_order_35 (siC S (o1.getD 0) 9 y0) x0 x1 0))
def f_Y10_order (S : Cst) (x0 : Nat) (x1 : Int32) : Int32 × Cst := (b_Y10_order_17a S x0 x1 (f_Y8_against S ((grC S x0 0).getD 0) (15 : Int32) x1 (0 : Int32) (0 : Int32) (0 : Int32)) (grC S x0 0))
def p_Y10_order (S : Cst) (x0 : Nat) (x1 : Int32) : Prop := (iR S (grC S x0 0) 0) ∧ (p_Y8_against S ((grC S x0 0).getD 0) (15 : Int32) x1 (0 : Int32) (0 : Int32) (0 : Int32)) ∧ (q_Y10_order_17a S x0 x1 (f_Y8_against S ((grC S x0 0).getD 0) (15 : Int32) x1 (0 : Int32) (0 : Int32) (0 : Int32)) (grC S x0 0))
def e_Y10_order : List Cond := [.fieldLink RX10 10 "MotionFloor" "now" "LMotionFloor$Assembly;", .methodLink RX10 36 yX8_against, .static yX8_against, .initialized RX8, .fieldLink RX10 42 "MotionFloor$Assembly" "reason" "I"]
def v_Y10_order : List Cond := .code yX10_order cX10_order 2 (some .int) :: (e_Y10_order ++ (wsX100 ++ (wsX00 ++ (v_Y8_against ++ []))))
theorem te_Y10_order : GoodIn lw_tbl e_Y10_order := wGc zc496 (wGc zc500 (wGc zc499 (wGc zc373 (wGc zc498 (wG0)))))
theorem t_Y10_order : GoodIn lw_tbl v_Y10_order := wGc zc501 (wGa te_Y10_order (wGa zcX10 (wGa zcX0 (wGa t_Y8_against (wG0)))))
set_option maxHeartbeats 4000000 in
set_option maxRecDepth 100000 in
theorem c_Y10_order (l : Launch) (G : va_G) (K : Nat → ClassId) (ad : Nat → Nat) (S0 : Cst) (x0 : Nat) (a1 : Int32) (sz : Nat) : Met l yX10_order v_Y10_order ({ frames := 6, cells := 0, slots := 0, locals := 143 }) (va_Pc [.ref (ad x0), .int a1] (cSt G K ad sz S0 (iK S0 x0 7 ∧ p_Y10_order S0 x0 a1))) (va_Qi (fun (r : Int32) (u : Cst) => (r, u) = f_Y10_order S0 x0 a1 ∧ eK S0 u) (cBt G K ad (va_A (wsC K ad S0) sz)) (va_A (wsC K ad S0) sz)) 0 0 (va_A (wsC K ad S0) sz) := by
  refine Met.ofW (cc := cX10_order) (maxL := 2) (ret := (some .int)) (by decide) rfl ?_
  intro p e s m args below meth c s₁ B hml hv
  obtain ⟨rfl, ⟨hsz, hP, hK, hD0, hTE⟩, hp⟩ := hv
  obtain ⟨k_x0, hp⟩ := hp
  have hx := B.exec
  have hb := B.bytes
  have hr := B.returns
  have hts := atoms_spec (ws := v_Y10_order) B.pre
  have t_ := t_Y10_order
  have mw : ∀ w ∈ e_Y10_order, w ∈ v_Y10_order := fun w h => List.mem_cons_of_mem _ (List.mem_append_left _ h)
  have hw := fun w (h : w ∈ e_Y10_order) => hts w (mw w h)
  have iX10 : ∀ w ∈ wsX100, w ∈ v_Y10_order := fun w h => List.mem_cons_of_mem _ (List.mem_append_right _ (List.mem_append_left _ h))
  have iX0 : ∀ w ∈ wsX00, w ∈ v_Y10_order := fun w h => List.mem_cons_of_mem _ (List.mem_append_right _ (List.mem_append_right _ (List.mem_append_left _ h)))
  have j_Y8_against : ∀ w ∈ v_Y8_against, w ∈ v_Y10_order := fun w h => List.mem_cons_of_mem _ (List.mem_append_right _ (List.mem_append_right _ (List.mem_append_right _ (List.mem_append_left _ h))))
  have hown : s.vm.findClass RX10 = some m.cls := findClass_of_methodNamed B.named
  have hlocks := B.notSynchronized
  subst hsz
  have hD := hD0.self (sz := s.heap.size)
  generalize hAe : va_A (wsC K ad S0) s.heap.size = A at hD ⊢
  have hA : ∀ q : Nat, s.heap.size ≤ q → A q := fun q h => by rw [← hAe]; exact Or.inr h
  have hS : va_S A s.heap s.heap [] := va_S.rf
  have hl : lv_has (lg_sl ([.ref (ad x0), .int a1]) ++ List.replicate (2 - (lg_sl ([.ref (ad x0), .int a1])).length) Slot.unset).toArray 2 [(0, .ref (ad x0)), (1, .int a1)] := by
    exact lv_entry ([.ref (ad x0), .int a1]) (n := 2) (Nat.le_of_ble_eq_true rfl)
  rw [lg_entry_eq]
  generalize (lg_sl ([.ref (ad x0), .int a1]) ++ List.replicate (2 - (lg_sl ([.ref (ad x0), .int a1])).length) Slot.unset).toArray = ls_ at hl ⊢
  refine wGen (fun Q hQ => ?_)
  obtain ⟨X, hX⟩ : ∃ X, f_Y10_order S0 x0 a1 = X := ⟨_, rfl⟩
  have B_Y10_order_35 : ∀ (S : Cst) (x1 : Int32) (y0 : Int32) (H : Heap) (locs : List Loc) (ls_ : Array Slot), b_Y10_order_35 S x0 x1 y0 = X → q_Y10_order_35 S x0 x1 y0 → eK S0 S → va_P G vwCl (wsC K ad S) H → va_D A (wsC K ad S) → va_S A s.heap H locs → lv_has ls_ 2 [(0, .ref (ad x0)), (1, .int x1)] → W p l e ({ frames := 6, cells := 0, slots := 0, locals := 143 } : Room) s m #[Value.ref (ad x0), Value.int a1] below meth c H locs 0 0 Q (F0 m 35 ls_ [.int y0]) := by
    intro S x1 y0 H locs ls_ hE hp hZ hP hD hS hl
    unfold b_Y10_order_35 at hE
    unfold q_Y10_order_35 at hp
    subst hQ
    exact W.iret (v := y0) hx hb hr (fun t ht hW => ⟨⟨y0, S, rfl, ⟨hE.trans hX.symm, hZ⟩, by rw [ht]; exact hP, hD⟩, hS.F ht⟩) hS.2.2 dX10_order_35
  have B_Y10_order_17a : ∀ (S : Cst) (x1 : Int32) (y0 : Int32) (o1 : Option Nat) (H : Heap) (locs : List Loc) (ls_ : Array Slot), b_Y10_order_17a S x0 x1 y0 o1 = X → q_Y10_order_17a S x0 x1 y0 o1 → eK S0 S → va_P G vwCl (wsC K ad S) H → va_D A (wsC K ad S) → va_S A s.heap H locs → lv_has ls_ 2 [(0, .ref (ad x0)), (1, .int x1)] → W p l e ({ frames := 6, cells := 0, slots := 0, locals := 143 } : Room) s m #[Value.ref (ad x0), Value.int a1] below meth c H locs 0 0 Q (F0 m 17 ls_ [.int y0, va_re ad o1]) := by
    intro S x1 y0 o1 H locs ls_ hE hp hZ hP hD hS hl
    unfold b_Y10_order_17a at hE
    unfold q_Y10_order_17a at hp
    obtain ⟨hy5, hp⟩ := hp
    refine cTop2 (r := o1) hy5.1 ?_
    refine va_put (D := G) (ci := 0) (v := .int y0) (ty := .int) (C := RX0) (T := TX0) (N := 11) hx hb hts iX0 tyX0 tyX0_ok nmX0 hown hK hP hD hS (o1.getD 0) (at_0 hy5.2) rfl 9 (by decide) (hw (.fieldLink RX10 42 "MotionFloor$Assembly" "reason" "I") (List.mem_of_getElem? (i := 4) rfl)) (fun _ h9 => h9) rfl (by decide +kernel) rfl rfl (Nat.le_of_ble_eq_true rfl) dX10_order_17 (fun H locs hP hD hS => ?_)
    rw [st_0_9 hy5.2] at hP hD
    have hZ := hZ.tr (eK.si S (o1.getD 0) 9 y0)
    refine lv_aload_n hx hb dX10_order_20 rfl (lv_at hl 0 rfl) ?_
    refine va_get (D := G) (ci := 7) (v := va_re ad (grC (siC S (o1.getD 0) 9 y0) x0 0)) (C := RX10) (T := TX10) (N := 5) hx hb hts iX10 hown hK hP x0 (at_7 (k_x0.e hZ)) rfl 0 (by decide) (hw (.fieldLink RX10 10 "MotionFloor" "now" "LMotionFloor$Assembly;") (List.mem_of_getElem? (i := 0) rfl)) (fun _ h9 => h9) rfl dX10_order_21 ?_
    obtain ⟨hy6, hp⟩ := hp
    refine cTop (r := (grC (siC S (o1.getD 0) 9 y0) x0 0)) hy6.1 ?_
    refine va_get (D := G) (ci := 0) (v := .int (giC (siC S (o1.getD 0) 9 y0) ((grC (siC S (o1.getD 0) 9 y0) x0 0).getD 0) 9)) (C := RX0) (T := TX0) (N := 11) hx hb hts iX0 hown hK hP ((grC (siC S (o1.getD 0) 9 y0) x0 0).getD 0) (at_0 hy6.2) rfl 9 (by decide) (hw (.fieldLink RX10 42 "MotionFloor$Assembly" "reason" "I") (List.mem_of_getElem? (i := 4) rfl)) (fun _ h9 => h9) rfl dX10_order_24 ?_
    refine lv_if_ne (tgt := 34) hx hb dX10_order_27 (by decide) (fun c7 => ?_) (fun c7 => ?_)
    · rw [if_neg c7] at hE hp
      refine lv_iconst (v := 0) hx hb dX10_order_34 (by decide) ?_
      exact B_Y10_order_35 (siC S (o1.getD 0) 9 y0) x1 0 _ _ _ hE hp hZ hP hD hS (lv_sub hl [0, 1] rfl)
    · rw [if_pos c7] at hE hp
      refine lv_iconst (v := 1) hx hb dX10_order_30 (by decide) ?_
      refine lv_goto (tgt := 35) hx hb dX10_order_31 (by decide) ?_
      exact B_Y10_order_35 (siC S (o1.getD 0) 9 y0) x1 1 _ _ _ hE hp hZ hP hD hS (lv_sub hl [0, 1] rfl)
  have B_M : ∀ (S : Cst) (x1 : Int32) (H : Heap) (locs : List Loc) (ls_ : Array Slot), f_Y10_order S x0 x1 = X → p_Y10_order S x0 x1 → eK S0 S → va_P G vwCl (wsC K ad S) H → va_D A (wsC K ad S) → va_S A s.heap H locs → lv_has ls_ 2 [(0, .ref (ad x0)), (1, .int x1)] → W p l e ({ frames := 6, cells := 0, slots := 0, locals := 143 } : Room) s m #[Value.ref (ad x0), Value.int a1] below meth c H locs 0 0 Q (F0 m 0 ls_ []) := by
    intro S x1 H locs ls_ hE hp hZ hP hD hS hl
    unfold f_Y10_order at hE
    unfold p_Y10_order at hp
    refine lv_aload_n hx hb dX10_order_0 rfl (lv_at hl 0 rfl) ?_
    refine va_get (D := G) (ci := 7) (v := va_re ad (grC S x0 0)) (C := RX10) (T := TX10) (N := 5) hx hb hts iX10 hown hK hP x0 (at_7 (k_x0.e hZ)) rfl 0 (by decide) (hw (.fieldLink RX10 10 "MotionFloor" "now" "LMotionFloor$Assembly;") (List.mem_of_getElem? (i := 0) rfl)) (fun _ h9 => h9) rfl dX10_order_1 ?_
    refine lv_aload_n hx hb dX10_order_4 rfl (lv_at hl 0 rfl) ?_
    refine va_get (D := G) (ci := 7) (v := va_re ad (grC S x0 0)) (C := RX10) (T := TX10) (N := 5) hx hb hts iX10 hown hK hP x0 (at_7 (k_x0.e hZ)) rfl 0 (by decide) (hw (.fieldLink RX10 10 "MotionFloor" "now" "LMotionFloor$Assembly;") (List.mem_of_getElem? (i := 0) rfl)) (fun _ h9 => h9) rfl dX10_order_5 ?_
    refine lv_bipush (v := 15) hx hb dX10_order_8 (by decide) ?_
    refine lv_iload_n hx hb dX10_order_10 rfl (lv_at hl 1 rfl) ?_
    refine lv_iconst (v := 0) hx hb dX10_order_11 (by decide) ?_
    refine lv_iconst (v := 0) hx hb dX10_order_12 (by decide) ?_
    refine lv_iconst (v := 0) hx hb dX10_order_13 (by decide) ?_
    obtain ⟨hy1, hp⟩ := hp
    refine cTop6 (r := (grC S x0 0)) hy1.1 ?_
    obtain ⟨hy2, hp⟩ := hp
    refine cGoi (va_runS (As := [.ref (ad ((grC S x0 0).getD 0)), .int 15, .int x1, .int 0, .int 0, .int 0]) (rest := [va_re ad (grC S x0 0)]) ⟨hx, hb, hml, hown, hts⟩ (c_Y8_against l G K ad S ((grC S x0 0).getD 0) (15 : Int32) x1 (0 : Int32) (0 : Int32) (0 : Int32) _) (va_cwS 6 hts (wGS t_ (mw (.methodLink RX10 36 yX8_against) (List.mem_of_getElem? (i := 1) rfl)) (mw (.static yX8_against) (List.mem_of_getElem? (i := 2) rfl)) (mw (.initialized RX8) (List.mem_of_getElem? (i := 3) rfl)) j_Y8_against) rfl rfl rfl (by decide +kernel) ⟨Nat.le_of_ble_eq_true rfl, Nat.le_of_ble_eq_true rfl⟩) (cPS hK hTE hP hD ⟨hy1.2, hy2⟩) rfl rfl hl.1 rfl (lv_room (by simp only [List.map_cons, List.map_nil, List.sum_cons, List.sum_nil, re_cat]; exact Nat.le_of_ble_eq_true rfl)) dX10_order_14 ⟨Nat.le_of_ble_eq_true rfl, Nat.le_of_ble_eq_true rfl⟩) hP hD hS hA (fun r4 u3 H locs hv hP hD hS => ?_)
    have h1 := congrArg Prod.fst hv
    have h2 := (congrArg Prod.snd hv).symm
    dsimp only at h1 h2
    subst h1
    subst h2
    exact B_Y10_order_17a S x1 (f_Y8_against S ((grC S x0 0).getD 0) (15 : Int32) x1 (0 : Int32) (0 : Int32) (0 : Int32)) (grC S x0 0) _ _ _ hE hp hZ hP hD hS (lv_sub hl [0, 1] rfl)
  exact B_M S0 a1 _ _ _ hX hp (eK.rf S0) hP hD hS hl
theorem gdX10_why_0 : ckS (List.drop 0 cX10_why.data.toList) 0 [(0, .aload_n 0, 1), (1, .getfield 10, 3), (4, .getfield 42, 3), (7, .ireturn, 1)] = true := by decide +kernel
theorem dX10_why_0 : decode cX10_why 0 = .ok (.aload_n 0, 1) := ckS_g gdX10_why_0 0 rfl
theorem dX10_why_1 : decode cX10_why 1 = .ok (.getfield 10, 3) := ckS_g gdX10_why_0 1 rfl
theorem dX10_why_4 : decode cX10_why 4 = .ok (.getfield 42, 3) := ckS_g gdX10_why_0 2 rfl
theorem dX10_why_7 : decode cX10_why 7 = .ok (.ireturn, 1) := ckS_g gdX10_why_0 3 rfl
set_option maxRecDepth 100000 in
theorem zc502 : wZ (.code yX10_why cX10_why 1 (some .int)) := ⟨wT4 (List.mem_of_getElem? (i := 120) rfl), Or.inl rfl⟩
def f_Y10_why (S : Cst) (x0 : Nat) : Int32 := (giC S ((grC S x0 0).getD 0) 9)
def p_Y10_why (S : Cst) (x0 : Nat) : Prop := (iR S (grC S x0 0) 0) ∧ True
def e_Y10_why : List Cond := [.fieldLink RX10 10 "MotionFloor" "now" "LMotionFloor$Assembly;", .fieldLink RX10 42 "MotionFloor$Assembly" "reason" "I"]
def v_Y10_why : List Cond := .code yX10_why cX10_why 1 (some .int) :: (e_Y10_why ++ (wsX100 ++ (wsX00 ++ [])))
theorem te_Y10_why : GoodIn lw_tbl e_Y10_why := wGc zc496 (wGc zc498 (wG0))
theorem t_Y10_why : GoodIn lw_tbl v_Y10_why := wGc zc502 (wGa te_Y10_why (wGa zcX10 (wGa zcX0 (wG0))))
set_option maxHeartbeats 4000000 in
set_option maxRecDepth 100000 in
theorem c_Y10_why (l : Launch) (G : va_G) (K : Nat → ClassId) (ad : Nat → Nat) (S : Cst) (x0 : Nat)  (sz : Nat) : Met l yX10_why v_Y10_why ({ frames := 0, cells := 0, slots := 0, locals := 0 }) (va_Pc [.ref (ad x0)] (cSt G K ad sz S (iK S x0 7 ∧ p_Y10_why S x0))) (va_Qi (fun (r : Int32) (u : Cst) => (r, u) = (f_Y10_why S x0, S)) (cBt G K ad (va_A (wsC K ad S) sz)) (va_A (wsC K ad S) sz)) 0 0 (va_A (wsC K ad S) sz) := by
  refine Met.ofW (cc := cX10_why) (maxL := 1) (ret := (some .int)) (by decide) rfl ?_
  intro p e s m args below meth c s₁ B hml hv
  obtain ⟨rfl, ⟨hsz, hP, hK, hD0, hTE⟩, hp⟩ := hv
  obtain ⟨k_x0, hp⟩ := hp
  have hx := B.exec
  have hb := B.bytes
  have hr := B.returns
  have hts := atoms_spec (ws := v_Y10_why) B.pre
  have t_ := t_Y10_why
  have mw : ∀ w ∈ e_Y10_why, w ∈ v_Y10_why := fun w h => List.mem_cons_of_mem _ (List.mem_append_left _ h)
  have hw := fun w (h : w ∈ e_Y10_why) => hts w (mw w h)
  have iX10 : ∀ w ∈ wsX100, w ∈ v_Y10_why := fun w h => List.mem_cons_of_mem _ (List.mem_append_right _ (List.mem_append_left _ h))
  have iX0 : ∀ w ∈ wsX00, w ∈ v_Y10_why := fun w h => List.mem_cons_of_mem _ (List.mem_append_right _ (List.mem_append_right _ (List.mem_append_left _ h)))
  have hown : s.vm.findClass RX10 = some m.cls := findClass_of_methodNamed B.named
  have hlocks := B.notSynchronized
  subst hsz
  have hD := hD0.self (sz := s.heap.size)
  generalize hAe : va_A (wsC K ad S) s.heap.size = A at hD ⊢
  have hA : ∀ q : Nat, s.heap.size ≤ q → A q := fun q h => by rw [← hAe]; exact Or.inr h
  have hS : va_S A s.heap s.heap [] := va_S.rf
  have hl : lv_has (lg_sl ([.ref (ad x0)]) ++ List.replicate (1 - (lg_sl ([.ref (ad x0)])).length) Slot.unset).toArray 1 [(0, .ref (ad x0))] := by
    exact lv_entry ([.ref (ad x0)]) (n := 1) (Nat.le_of_ble_eq_true rfl)
  rw [lg_entry_eq]
  generalize (lg_sl ([.ref (ad x0)]) ++ List.replicate (1 - (lg_sl ([.ref (ad x0)])).length) Slot.unset).toArray = ls_ at hl ⊢
  refine wGen (fun Q hQ => ?_)
  obtain ⟨X, hX⟩ : ∃ X, f_Y10_why S x0 = X := ⟨_, rfl⟩
  have B_M : ∀ (H : Heap) (locs : List Loc) (ls_ : Array Slot), f_Y10_why S x0 = X → p_Y10_why S x0 → va_P G vwCl (wsC K ad S) H → va_D A (wsC K ad S) → va_S A s.heap H locs → lv_has ls_ 1 [(0, .ref (ad x0))] → W p l e ({ frames := 0, cells := 0, slots := 0, locals := 0 } : Room) s m #[Value.ref (ad x0)] below meth c H locs 0 0 Q (F0 m 0 ls_ []) := by
    intro  H locs ls_ hE hp hP hD hS hl
    unfold f_Y10_why at hE
    unfold p_Y10_why at hp
    refine lv_aload_n hx hb dX10_why_0 rfl (lv_at hl 0 rfl) ?_
    refine va_get (D := G) (ci := 7) (v := va_re ad (grC S x0 0)) (C := RX10) (T := TX10) (N := 5) hx hb hts iX10 hown hK hP x0 (at_7 k_x0) rfl 0 (by decide) (hw (.fieldLink RX10 10 "MotionFloor" "now" "LMotionFloor$Assembly;") (List.mem_of_getElem? (i := 0) rfl)) (fun _ h9 => h9) rfl dX10_why_1 ?_
    obtain ⟨hy1, hp⟩ := hp
    refine cTop (r := (grC S x0 0)) hy1.1 ?_
    refine va_get (D := G) (ci := 0) (v := .int (giC S ((grC S x0 0).getD 0) 9)) (C := RX0) (T := TX0) (N := 11) hx hb hts iX0 hown hK hP ((grC S x0 0).getD 0) (at_0 hy1.2) rfl 9 (by decide) (hw (.fieldLink RX10 42 "MotionFloor$Assembly" "reason" "I") (List.mem_of_getElem? (i := 1) rfl)) (fun _ h9 => h9) rfl dX10_why_4 ?_
    subst hQ
    exact W.iret (v := (giC S ((grC S x0 0).getD 0) 9)) hx hb hr (fun t ht hW => ⟨⟨(giC S ((grC S x0 0).getD 0) 9), S, rfl, (pair_i (hE.trans hX.symm)), by rw [ht]; exact hP, hD⟩, hS.F ht⟩) hS.2.2 dX10_why_7
  exact B_M  _ _ _ hX hp hP hD hS hl
theorem gdX10_pending_0 : ckS (List.drop 0 cX10_pending.data.toList) 0 [(0, .aload_n 0, 1), (1, .getfield 10, 3), (4, .getfield 46, 3), (7, .iload_n 1, 1), (8, .invokevirtual 50, 3), (11, .astore_n 3, 1), (12, .aload_n 3, 1), (13, .ifnonnull 7, 3), (16, .iconst (-1), 1), (17, .goto 8, 3), (20, .aload_n 3, 1), (21, .iload_n 2, 1), (22, .invokevirtual 56, 3), (25, .ireturn, 1)] = true := by decide +kernel
theorem dX10_pending_0 : decode cX10_pending 0 = .ok (.aload_n 0, 1) := ckS_g gdX10_pending_0 0 rfl
theorem dX10_pending_1 : decode cX10_pending 1 = .ok (.getfield 10, 3) := ckS_g gdX10_pending_0 1 rfl
theorem dX10_pending_4 : decode cX10_pending 4 = .ok (.getfield 46, 3) := ckS_g gdX10_pending_0 2 rfl
theorem dX10_pending_7 : decode cX10_pending 7 = .ok (.iload_n 1, 1) := ckS_g gdX10_pending_0 3 rfl
theorem dX10_pending_8 : decode cX10_pending 8 = .ok (.invokevirtual 50, 3) := ckS_g gdX10_pending_0 4 rfl
theorem dX10_pending_11 : decode cX10_pending 11 = .ok (.astore_n 3, 1) := ckS_g gdX10_pending_0 5 rfl
theorem dX10_pending_12 : decode cX10_pending 12 = .ok (.aload_n 3, 1) := ckS_g gdX10_pending_0 6 rfl
theorem dX10_pending_13 : decode cX10_pending 13 = .ok (.ifnonnull 7, 3) := ckS_g gdX10_pending_0 7 rfl
theorem dX10_pending_16 : decode cX10_pending 16 = .ok (.iconst (-1), 1) := ckS_g gdX10_pending_0 8 rfl
theorem dX10_pending_17 : decode cX10_pending 17 = .ok (.goto 8, 3) := ckS_g gdX10_pending_0 9 rfl
theorem dX10_pending_20 : decode cX10_pending 20 = .ok (.aload_n 3, 1) := ckS_g gdX10_pending_0 10 rfl
theorem dX10_pending_21 : decode cX10_pending 21 = .ok (.iload_n 2, 1) := ckS_g gdX10_pending_0 11 rfl
theorem dX10_pending_22 : decode cX10_pending 22 = .ok (.invokevirtual 56, 3) := ckS_g gdX10_pending_0 12 rfl
theorem dX10_pending_25 : decode cX10_pending 25 = .ok (.ireturn, 1) := ckS_g gdX10_pending_0 13 rfl
set_option maxRecDepth 100000 in
theorem zc503 : wZ (.selects RX4 yX4_fact yX4_fact) := ⟨wT4 (List.mem_of_getElem? (i := 128) (by decide +kernel)), Or.inl rfl⟩
set_option maxRecDepth 100000 in
theorem zc504 : wZ (.instanceMethod yX4_fact) := ⟨wT4 (List.mem_of_getElem? (i := 127) (by decide +kernel)), Or.inl rfl⟩
set_option maxRecDepth 100000 in
theorem zc505 : wZ (.methodLink RX10 56 yX4_fact) := ⟨wT4 (List.mem_of_getElem? (i := 126) (by decide +kernel)), Or.inl rfl⟩
set_option maxRecDepth 100000 in
theorem zc506 : wZ (.methodLink RX10 50 yX5_at) := ⟨wT4 (List.mem_of_getElem? (i := 125) (by decide +kernel)), Or.inl rfl⟩
set_option maxRecDepth 100000 in
theorem zc507 : wZ (.fieldLink RX10 46 "MotionFloor$Assembly" "pending" "LMotionFloor$Pile;") := ⟨wT1 (List.mem_of_getElem? (i := 186) (by decide +kernel)), Or.inl rfl⟩
set_option maxRecDepth 100000 in
theorem zc508 : wZ (.code yX10_pending cX10_pending 4 (some .int)) := ⟨wT4 (List.mem_of_getElem? (i := 124) rfl), Or.inl rfl⟩
def b_Y10_pending_25 (S : Cst) (x0 : Nat) (x1 : Int32) (x2 : Int32) (x3 : Option Nat) (y0 : Int32) : Int32 := y0
def q_Y10_pending_25 (S : Cst) (x0 : Nat) (x1 : Int32) (x2 : Int32) (x3 : Option Nat) (y0 : Int32) : Prop := True
def f_Y10_pending (S : Cst) (x0 : Nat) (x1 : Int32) (x2 : Int32) : Int32 := if (f_Y5_at S ((grC S ((grC S x0 0).getD 0) 1).getD 0) x1) = none then (b_Y10_pending_25 S x0 x1 x2 (f_Y5_at S ((grC S ((grC S x0 0).getD 0) 1).getD 0) x1) (-1)) else (b_Y10_pending_25 S x0 x1 x2 (f_Y5_at S ((grC S ((grC S x0 0).getD 0) 1).getD 0) x1) (f_Y4_fact S ((f_Y5_at S ((grC S ((grC S x0 0).getD 0) 1).getD 0) x1).getD 0) x2))
def p_Y10_pending (S : Cst) (x0 : Nat) (x1 : Int32) (x2 : Int32) : Prop := (iR S (grC S x0 0) 0) ∧ (iR S (grC S ((grC S x0 0).getD 0) 1) 4) ∧ (p_Y5_at S ((grC S ((grC S x0 0).getD 0) 1).getD 0) x1) ∧ (if (f_Y5_at S ((grC S ((grC S x0 0).getD 0) 1).getD 0) x1) = none then (q_Y10_pending_25 S x0 x1 x2 (f_Y5_at S ((grC S ((grC S x0 0).getD 0) 1).getD 0) x1) (-1)) else (iR S (f_Y5_at S ((grC S ((grC S x0 0).getD 0) 1).getD 0) x1) 3) ∧ (p_Y4_fact S ((f_Y5_at S ((grC S ((grC S x0 0).getD 0) 1).getD 0) x1).getD 0) x2) ∧ (q_Y10_pending_25 S x0 x1 x2 (f_Y5_at S ((grC S ((grC S x0 0).getD 0) 1).getD 0) x1) (f_Y4_fact S ((f_Y5_at S ((grC S ((grC S x0 0).getD 0) 1).getD 0) x1).getD 0) x2)))
def e_Y10_pending : List Cond := [.fieldLink RX10 10 "MotionFloor" "now" "LMotionFloor$Assembly;", .fieldLink RX10 46 "MotionFloor$Assembly" "pending" "LMotionFloor$Pile;", .methodLink RX10 50 yX5_at, .instanceMethod yX5_at, .selects RX5 yX5_at yX5_at, .initialized RX5, .methodLink RX10 56 yX4_fact, .instanceMethod yX4_fact, .selects RX4 yX4_fact yX4_fact, .initialized RX4]
def v_Y10_pending : List Cond := .code yX10_pending cX10_pending 4 (some .int) :: (e_Y10_pending ++ (wsX100 ++ (wsX00 ++ (v_Y5_at ++ (v_Y4_fact ++ [])))))
theorem te_Y10_pending : GoodIn lw_tbl e_Y10_pending := wGc zc496 (wGc zc507 (wGc zc506 (wGc zc123 (wGc zc122 (wGc zc34 (wGc zc505 (wGc zc504 (wGc zc503 (wGc zc170 (wG0))))))))))
theorem t_Y10_pending : GoodIn lw_tbl v_Y10_pending := wGc zc508 (wGa te_Y10_pending (wGa zcX10 (wGa zcX0 (wGa t_Y5_at (wGa t_Y4_fact (wG0))))))
set_option maxHeartbeats 4000000 in
set_option maxRecDepth 100000 in
theorem c_Y10_pending (l : Launch) (G : va_G) (K : Nat → ClassId) (ad : Nat → Nat) (S : Cst) (x0 : Nat) (a1 : Int32) (a2 : Int32) (sz : Nat) : Met l yX10_pending v_Y10_pending ({ frames := 1, cells := 0, slots := 0, locals := 21 }) (va_Pc [.ref (ad x0), .int a1, .int a2] (cSt G K ad sz S (iK S x0 7 ∧ p_Y10_pending S x0 a1 a2))) (va_Qi (fun (r : Int32) (u : Cst) => (r, u) = (f_Y10_pending S x0 a1 a2, S)) (cBt G K ad (va_A (wsC K ad S) sz)) (va_A (wsC K ad S) sz)) 0 0 (va_A (wsC K ad S) sz) := by
  refine Met.ofW (cc := cX10_pending) (maxL := 4) (ret := (some .int)) (by decide) rfl ?_
  intro p e s m args below meth c s₁ B hml hv
  obtain ⟨rfl, ⟨hsz, hP, hK, hD0, hTE⟩, hp⟩ := hv
  obtain ⟨k_x0, hp⟩ := hp
  have hx := B.exec
  have hb := B.bytes
  have hr := B.returns
  have hts := atoms_spec (ws := v_Y10_pending) B.pre
  have t_ := t_Y10_pending
  have mw : ∀ w ∈ e_Y10_pending, w ∈ v_Y10_pending := fun w h => List.mem_cons_of_mem _ (List.mem_append_left _ h)
  have hw := fun w (h : w ∈ e_Y10_pending) => hts w (mw w h)
  have iX10 : ∀ w ∈ wsX100, w ∈ v_Y10_pending := fun w h => List.mem_cons_of_mem _ (List.mem_append_right _ (List.mem_append_left _ h))
  have iX0 : ∀ w ∈ wsX00, w ∈ v_Y10_pending := fun w h => List.mem_cons_of_mem _ (List.mem_append_right _ (List.mem_append_right _ (List.mem_append_left _ h)))
  have j_Y5_at : ∀ w ∈ v_Y5_at, w ∈ v_Y10_pending := fun w h => List.mem_cons_of_mem _ (List.mem_append_right _ (List.mem_append_right _ (List.mem_append_right _ (List.mem_append_left _ h))))
  have j_Y4_fact : ∀ w ∈ v_Y4_fact, w ∈ v_Y10_pending := fun w h => List.mem_cons_of_mem _ (List.mem_append_right _ (List.mem_append_right _ (List.mem_append_right _ (List.mem_append_right _ (List.mem_append_left _ h)))))
  have hown : s.vm.findClass RX10 = some m.cls := findClass_of_methodNamed B.named
  have hlocks := B.notSynchronized
  subst hsz
  have hD := hD0.self (sz := s.heap.size)
  generalize hAe : va_A (wsC K ad S) s.heap.size = A at hD ⊢
  have hA : ∀ q : Nat, s.heap.size ≤ q → A q := fun q h => by rw [← hAe]; exact Or.inr h
  have hS : va_S A s.heap s.heap [] := va_S.rf
  have hl : lv_has (lg_sl ([.ref (ad x0), .int a1, .int a2]) ++ List.replicate (4 - (lg_sl ([.ref (ad x0), .int a1, .int a2])).length) Slot.unset).toArray 4 [(0, .ref (ad x0)), (1, .int a1), (2, .int a2)] := by
    exact lv_entry ([.ref (ad x0), .int a1, .int a2]) (n := 4) (Nat.le_of_ble_eq_true rfl)
  rw [lg_entry_eq]
  generalize (lg_sl ([.ref (ad x0), .int a1, .int a2]) ++ List.replicate (4 - (lg_sl ([.ref (ad x0), .int a1, .int a2])).length) Slot.unset).toArray = ls_ at hl ⊢
  refine wGen (fun Q hQ => ?_)
  obtain ⟨X, hX⟩ : ∃ X, f_Y10_pending S x0 a1 a2 = X := ⟨_, rfl⟩
  have B_Y10_pending_25 : ∀ (x1 : Int32) (x2 : Int32) (x3 : Option Nat) (y0 : Int32) (H : Heap) (locs : List Loc) (ls_ : Array Slot), b_Y10_pending_25 S x0 x1 x2 x3 y0 = X → q_Y10_pending_25 S x0 x1 x2 x3 y0 → va_P G vwCl (wsC K ad S) H → va_D A (wsC K ad S) → va_S A s.heap H locs → lv_has ls_ 4 [(0, .ref (ad x0)), (1, .int x1), (2, .int x2), (3, va_re ad x3)] → W p l e ({ frames := 1, cells := 0, slots := 0, locals := 21 } : Room) s m #[Value.ref (ad x0), Value.int a1, Value.int a2] below meth c H locs 0 0 Q (F0 m 25 ls_ [.int y0]) := by
    intro x1 x2 x3 y0 H locs ls_ hE hp hP hD hS hl
    unfold b_Y10_pending_25 at hE
    unfold q_Y10_pending_25 at hp
    subst hQ
    exact W.iret (v := y0) hx hb hr (fun t ht hW => ⟨⟨y0, S, rfl, (pair_i (hE.trans hX.symm)), by rw [ht]; exact hP, hD⟩, hS.F ht⟩) hS.2.2 dX10_pending_25
  have B_M : ∀ (x1 : Int32) (x2 : Int32) (H : Heap) (locs : List Loc) (ls_ : Array Slot), f_Y10_pending S x0 x1 x2 = X → p_Y10_pending S x0 x1 x2 → va_P G vwCl (wsC K ad S) H → va_D A (wsC K ad S) → va_S A s.heap H locs → lv_has ls_ 4 [(0, .ref (ad x0)), (1, .int x1), (2, .int x2)] → W p l e ({ frames := 1, cells := 0, slots := 0, locals := 21 } : Room) s m #[Value.ref (ad x0), Value.int a1, Value.int a2] below meth c H locs 0 0 Q (F0 m 0 ls_ []) := by
    intro x1 x2 H locs ls_ hE hp hP hD hS hl
    unfold f_Y10_pending at hE
    unfold p_Y10_pending at hp
    refine lv_aload_n hx hb dX10_pending_0 rfl (lv_at hl 0 rfl) ?_
    refine va_get (D := G) (ci := 7) (v := va_re ad (grC S x0 0)) (C := RX10) (T := TX10) (N := 5) hx hb hts iX10 hown hK hP x0 (at_7 k_x0) rfl 0 (by decide) (hw (.fieldLink RX10 10 "MotionFloor" "now" "LMotionFloor$Assembly;") (List.mem_of_getElem? (i := 0) rfl)) (fun _ h9 => h9) rfl dX10_pending_1 ?_
    obtain ⟨hy1, hp⟩ := hp
    refine cTop (r := (grC S x0 0)) hy1.1 ?_
    refine va_get (D := G) (ci := 0) (v := va_re ad (grC S ((grC S x0 0).getD 0) 1)) (C := RX0) (T := TX0) (N := 11) hx hb hts iX0 hown hK hP ((grC S x0 0).getD 0) (at_0 hy1.2) rfl 1 (by decide) (hw (.fieldLink RX10 46 "MotionFloor$Assembly" "pending" "LMotionFloor$Pile;") (List.mem_of_getElem? (i := 1) rfl)) (fun _ h9 => h9) rfl dX10_pending_4 ?_
    refine lv_iload_n hx hb dX10_pending_7 rfl (lv_at hl 1 rfl) ?_
    obtain ⟨hy2, hp⟩ := hp
    refine cTop2 (r := (grC S ((grC S x0 0).getD 0) 1)) hy2.1 ?_
    obtain ⟨hy3, hp⟩ := hp
    refine cGoq (va_runV (As := [.int x1]) (rest := []) ⟨hx, hb, hml, hown, hts⟩ (c_Y5_at l G K ad S ((grC S ((grC S x0 0).getD 0) 1).getD 0) x1 _) (cwV 1 hts (wGV t_ (mw (.methodLink RX10 50 yX5_at) (List.mem_of_getElem? (i := 2) rfl)) (mw (.instanceMethod yX5_at) (List.mem_of_getElem? (i := 3) rfl)) (mw (.selects RX5 yX5_at yX5_at) (List.mem_of_getElem? (i := 4) rfl)) (mw (.initialized RX5) (List.mem_of_getElem? (i := 5) rfl)) j_Y5_at) rfl rfl rfl (by decide +kernel) ⟨Nat.le_of_ble_eq_true rfl, Nat.le_of_ble_eq_true rfl⟩) (cPV hK hTE hP hD 4 rfl (at_4 hy2.2) ⟨hy2.2, hy3⟩) rfl rfl hl.1 rfl (lv_room (Nat.le_of_ble_eq_true rfl)) dX10_pending_8 ⟨Nat.le_of_ble_eq_true rfl, Nat.le_of_ble_eq_true rfl⟩) hP hD hS hA (fun r5 u4 H locs hv hP hD hS => ?_)
    have h1 := congrArg Prod.fst hv
    have h2 := (congrArg Prod.snd hv).symm
    dsimp only at h1 h2
    subst h1
    subst h2
    refine cAstore_n (ad := ad) (r := (f_Y5_at S ((grC S ((grC S x0 0).getD 0) 1).getD 0) x1)) (i := 3) (lv' := [(3, va_re ad (f_Y5_at S ((grC S ((grC S x0 0).getD 0) 1).getD 0) x1)), (0, .ref (ad x0)), (1, .int x1), (2, .int x2)]) hx hb dX10_pending_11 rfl hl (by decide) rfl (fun ls_ hl => ?_)
    refine cAload_n (ad := ad) (r := (f_Y5_at S ((grC S ((grC S x0 0).getD 0) 1).getD 0) x1)) hx hb dX10_pending_12 rfl (lv_at hl 0 rfl) ?_
    refine cIfnonnull (ad := ad) (r := (f_Y5_at S ((grC S ((grC S x0 0).getD 0) 1).getD 0) x1)) (tgt := 20) hx hb dX10_pending_13 (by decide) (fun c6 => ?_) (fun c6 => ?_)
    · rw [if_pos c6] at hE hp
      refine lv_iconst (v := (-1)) hx hb dX10_pending_16 (by decide) ?_
      refine lv_goto (tgt := 25) hx hb dX10_pending_17 (by decide) ?_
      exact B_Y10_pending_25 x1 x2 (f_Y5_at S ((grC S ((grC S x0 0).getD 0) 1).getD 0) x1) (-1) _ _ _ hE hp hP hD hS (lv_sub hl [1, 2, 3, 0] rfl)
    · rw [if_neg c6] at hE hp
      refine cAload_n (ad := ad) (r := (f_Y5_at S ((grC S ((grC S x0 0).getD 0) 1).getD 0) x1)) hx hb dX10_pending_20 rfl (lv_at hl 0 rfl) ?_
      refine lv_iload_n hx hb dX10_pending_21 rfl (lv_at hl 3 rfl) ?_
      obtain ⟨hy7, hp⟩ := hp
      refine cTop2 (r := (f_Y5_at S ((grC S ((grC S x0 0).getD 0) 1).getD 0) x1)) hy7.1 ?_
      obtain ⟨hy8, hp⟩ := hp
      refine cGoi (va_runV (As := [.int x2]) (rest := []) ⟨hx, hb, hml, hown, hts⟩ (c_Y4_fact l G K ad S ((f_Y5_at S ((grC S ((grC S x0 0).getD 0) 1).getD 0) x1).getD 0) x2 _) (cwV 1 hts (wGV t_ (mw (.methodLink RX10 56 yX4_fact) (List.mem_of_getElem? (i := 6) rfl)) (mw (.instanceMethod yX4_fact) (List.mem_of_getElem? (i := 7) rfl)) (mw (.selects RX4 yX4_fact yX4_fact) (List.mem_of_getElem? (i := 8) rfl)) (mw (.initialized RX4) (List.mem_of_getElem? (i := 9) rfl)) j_Y4_fact) rfl rfl rfl (by decide +kernel) ⟨Nat.le_of_ble_eq_true rfl, Nat.le_of_ble_eq_true rfl⟩) (cPV hK hTE hP hD 3 rfl (at_3 hy7.2) ⟨hy7.2, hy8⟩) rfl rfl hl.1 rfl (lv_room (Nat.le_of_ble_eq_true rfl)) dX10_pending_22 ⟨Nat.le_of_ble_eq_true rfl, Nat.le_of_ble_eq_true rfl⟩) hP hD hS hA (fun r10 u9 H locs hv hP hD hS => ?_)
      have h1 := congrArg Prod.fst hv
      have h2 := (congrArg Prod.snd hv).symm
      dsimp only at h1 h2
      subst h1
      subst h2
      exact B_Y10_pending_25 x1 x2 (f_Y5_at S ((grC S ((grC S x0 0).getD 0) 1).getD 0) x1) (f_Y4_fact S ((f_Y5_at S ((grC S ((grC S x0 0).getD 0) 1).getD 0) x1).getD 0) x2) _ _ _ hE hp hP hD hS (lv_sub hl [1, 2, 3, 0] rfl)
  exact B_M a1 a2 _ _ _ hX hp hP hD hS hl
theorem gdX10_text_0 : ckS (List.drop 0 cX10_text.data.toList) 0 [(0, .aload_n 0, 1), (1, .getfield 10, 3), (4, .iload_n 1, 1), (5, .iload_n 2, 1), (6, .invokevirtual 62, 3), (9, .ireturn, 1)] = true := by decide +kernel
theorem dX10_text_0 : decode cX10_text 0 = .ok (.aload_n 0, 1) := ckS_g gdX10_text_0 0 rfl
theorem dX10_text_1 : decode cX10_text 1 = .ok (.getfield 10, 3) := ckS_g gdX10_text_0 1 rfl
theorem dX10_text_4 : decode cX10_text 4 = .ok (.iload_n 1, 1) := ckS_g gdX10_text_0 2 rfl
theorem dX10_text_5 : decode cX10_text 5 = .ok (.iload_n 2, 1) := ckS_g gdX10_text_0 3 rfl
theorem dX10_text_6 : decode cX10_text 6 = .ok (.invokevirtual 62, 3) := ckS_g gdX10_text_0 4 rfl
theorem dX10_text_9 : decode cX10_text 9 = .ok (.ireturn, 1) := ckS_g gdX10_text_0 5 rfl
set_option maxRecDepth 100000 in
theorem zc509 : wZ (.selects RX0 yX0_wordOf yX0_wordOf) := ⟨wT4 (List.mem_of_getElem? (i := 136) (by decide +kernel)), Or.inl rfl⟩
set_option maxRecDepth 100000 in
theorem zc510 : wZ (.instanceMethod yX0_wordOf) := ⟨wT4 (List.mem_of_getElem? (i := 135) (by decide +kernel)), Or.inl rfl⟩
set_option maxRecDepth 100000 in
theorem zc511 : wZ (.methodLink RX10 62 yX0_wordOf) := ⟨wT4 (List.mem_of_getElem? (i := 134) (by decide +kernel)), Or.inl rfl⟩
set_option maxRecDepth 100000 in
theorem zc512 : wZ (.code yX10_text cX10_text 3 (some .int)) := ⟨wT4 (List.mem_of_getElem? (i := 133) rfl), Or.inl rfl⟩
def f_Y10_text (S : Cst) (x0 : Nat) (x1 : Int32) (x2 : Int32) : Int32 := (f_Y0_wordOf S ((grC S x0 0).getD 0) x1 x2)
def p_Y10_text (S : Cst) (x0 : Nat) (x1 : Int32) (x2 : Int32) : Prop := (iR S (grC S x0 0) 0) ∧ (p_Y0_wordOf S ((grC S x0 0).getD 0) x1 x2) ∧ True
def e_Y10_text : List Cond := [.fieldLink RX10 10 "MotionFloor" "now" "LMotionFloor$Assembly;", .methodLink RX10 62 yX0_wordOf, .instanceMethod yX0_wordOf, .selects RX0 yX0_wordOf yX0_wordOf, .initialized RX0]
def v_Y10_text : List Cond := .code yX10_text cX10_text 3 (some .int) :: (e_Y10_text ++ (wsX100 ++ (v_Y0_wordOf ++ [])))
theorem te_Y10_text : GoodIn lw_tbl e_Y10_text := wGc zc496 (wGc zc511 (wGc zc510 (wGc zc509 (wGc zc39 (wG0)))))
theorem t_Y10_text : GoodIn lw_tbl v_Y10_text := wGc zc512 (wGa te_Y10_text (wGa zcX10 (wGa t_Y0_wordOf (wG0))))
set_option maxHeartbeats 4000000 in
set_option maxRecDepth 100000 in
theorem c_Y10_text (l : Launch) (G : va_G) (K : Nat → ClassId) (ad : Nat → Nat) (S : Cst) (x0 : Nat) (a1 : Int32) (a2 : Int32) (sz : Nat) : Met l yX10_text v_Y10_text ({ frames := 3, cells := 0, slots := 0, locals := 64 }) (va_Pc [.ref (ad x0), .int a1, .int a2] (cSt G K ad sz S (iK S x0 7 ∧ p_Y10_text S x0 a1 a2))) (va_Qi (fun (r : Int32) (u : Cst) => (r, u) = (f_Y10_text S x0 a1 a2, S)) (cBt G K ad (va_A (wsC K ad S) sz)) (va_A (wsC K ad S) sz)) 0 0 (va_A (wsC K ad S) sz) := by
  refine Met.ofW (cc := cX10_text) (maxL := 3) (ret := (some .int)) (by decide) rfl ?_
  intro p e s m args below meth c s₁ B hml hv
  obtain ⟨rfl, ⟨hsz, hP, hK, hD0, hTE⟩, hp⟩ := hv
  obtain ⟨k_x0, hp⟩ := hp
  have hx := B.exec
  have hb := B.bytes
  have hr := B.returns
  have hts := atoms_spec (ws := v_Y10_text) B.pre
  have t_ := t_Y10_text
  have mw : ∀ w ∈ e_Y10_text, w ∈ v_Y10_text := fun w h => List.mem_cons_of_mem _ (List.mem_append_left _ h)
  have hw := fun w (h : w ∈ e_Y10_text) => hts w (mw w h)
  have iX10 : ∀ w ∈ wsX100, w ∈ v_Y10_text := fun w h => List.mem_cons_of_mem _ (List.mem_append_right _ (List.mem_append_left _ h))
  have j_Y0_wordOf : ∀ w ∈ v_Y0_wordOf, w ∈ v_Y10_text := fun w h => List.mem_cons_of_mem _ (List.mem_append_right _ (List.mem_append_right _ (List.mem_append_left _ h)))
  have hown : s.vm.findClass RX10 = some m.cls := findClass_of_methodNamed B.named
  have hlocks := B.notSynchronized
  subst hsz
  have hD := hD0.self (sz := s.heap.size)
  generalize hAe : va_A (wsC K ad S) s.heap.size = A at hD ⊢
  have hA : ∀ q : Nat, s.heap.size ≤ q → A q := fun q h => by rw [← hAe]; exact Or.inr h
  have hS : va_S A s.heap s.heap [] := va_S.rf
  have hl : lv_has (lg_sl ([.ref (ad x0), .int a1, .int a2]) ++ List.replicate (3 - (lg_sl ([.ref (ad x0), .int a1, .int a2])).length) Slot.unset).toArray 3 [(0, .ref (ad x0)), (1, .int a1), (2, .int a2)] := by
    exact lv_entry ([.ref (ad x0), .int a1, .int a2]) (n := 3) (Nat.le_of_ble_eq_true rfl)
  rw [lg_entry_eq]
  generalize (lg_sl ([.ref (ad x0), .int a1, .int a2]) ++ List.replicate (3 - (lg_sl ([.ref (ad x0), .int a1, .int a2])).length) Slot.unset).toArray = ls_ at hl ⊢
  refine wGen (fun Q hQ => ?_)
  obtain ⟨X, hX⟩ : ∃ X, f_Y10_text S x0 a1 a2 = X := ⟨_, rfl⟩
  have B_M : ∀ (x1 : Int32) (x2 : Int32) (H : Heap) (locs : List Loc) (ls_ : Array Slot), f_Y10_text S x0 x1 x2 = X → p_Y10_text S x0 x1 x2 → va_P G vwCl (wsC K ad S) H → va_D A (wsC K ad S) → va_S A s.heap H locs → lv_has ls_ 3 [(0, .ref (ad x0)), (1, .int x1), (2, .int x2)] → W p l e ({ frames := 3, cells := 0, slots := 0, locals := 64 } : Room) s m #[Value.ref (ad x0), Value.int a1, Value.int a2] below meth c H locs 0 0 Q (F0 m 0 ls_ []) := by
    intro x1 x2 H locs ls_ hE hp hP hD hS hl
    unfold f_Y10_text at hE
    unfold p_Y10_text at hp
    refine lv_aload_n hx hb dX10_text_0 rfl (lv_at hl 0 rfl) ?_
    refine va_get (D := G) (ci := 7) (v := va_re ad (grC S x0 0)) (C := RX10) (T := TX10) (N := 5) hx hb hts iX10 hown hK hP x0 (at_7 k_x0) rfl 0 (by decide) (hw (.fieldLink RX10 10 "MotionFloor" "now" "LMotionFloor$Assembly;") (List.mem_of_getElem? (i := 0) rfl)) (fun _ h9 => h9) rfl dX10_text_1 ?_
    refine lv_iload_n hx hb dX10_text_4 rfl (lv_at hl 1 rfl) ?_
    refine lv_iload_n hx hb dX10_text_5 rfl (lv_at hl 2 rfl) ?_
    obtain ⟨hy1, hp⟩ := hp
    refine cTop3 (r := (grC S x0 0)) hy1.1 ?_
    obtain ⟨hy2, hp⟩ := hp
    refine cGoi (va_runV (As := [.int x1, .int x2]) (rest := []) ⟨hx, hb, hml, hown, hts⟩ (c_Y0_wordOf l G K ad S ((grC S x0 0).getD 0) x1 x2 _) (cwV 2 hts (wGV t_ (mw (.methodLink RX10 62 yX0_wordOf) (List.mem_of_getElem? (i := 1) rfl)) (mw (.instanceMethod yX0_wordOf) (List.mem_of_getElem? (i := 2) rfl)) (mw (.selects RX0 yX0_wordOf yX0_wordOf) (List.mem_of_getElem? (i := 3) rfl)) (mw (.initialized RX0) (List.mem_of_getElem? (i := 4) rfl)) j_Y0_wordOf) rfl rfl rfl (by decide +kernel) ⟨Nat.le_of_ble_eq_true rfl, Nat.le_of_ble_eq_true rfl⟩) (cPV hK hTE hP hD 0 rfl (at_0 hy1.2) ⟨hy1.2, hy2⟩) rfl rfl hl.1 rfl (lv_room (Nat.le_of_ble_eq_true rfl)) dX10_text_6 ⟨Nat.le_of_ble_eq_true rfl, Nat.le_of_ble_eq_true rfl⟩) hP hD hS hA (fun r4 u3 H locs hv hP hD hS => ?_)
    have h1 := congrArg Prod.fst hv
    have h2 := (congrArg Prod.snd hv).symm
    dsimp only at h1 h2
    subst h1
    subst h2
    subst hQ
    exact W.iret (v := (f_Y0_wordOf S ((grC S x0 0).getD 0) x1 x2)) hx hb hr (fun t ht hW => ⟨⟨(f_Y0_wordOf S ((grC S x0 0).getD 0) x1 x2), S, rfl, (pair_i (hE.trans hX.symm)), by rw [ht]; exact hP, hD⟩, hS.F ht⟩) hS.2.2 dX10_text_9
  exact B_M a1 a2 _ _ _ hX hp hP hD hS hl
theorem gdX10_ballot_0 : ckS (List.drop 0 cX10_ballot.data.toList) 0 [(0, .aload_n 0, 1), (1, .getfield 10, 3), (4, .getfield 46, 3), (7, .invokevirtual 66, 3), (10, .astore_n 2, 1), (11, .aload_n 2, 1), (12, .ifnonnull 7, 3), (15, .iconst (-1), 1), (16, .goto 8, 3), (19, .aload_n 2, 1), (20, .iload_n 1, 1), (21, .invokevirtual 70, 3), (24, .ireturn, 1)] = true := by decide +kernel
theorem dX10_ballot_0 : decode cX10_ballot 0 = .ok (.aload_n 0, 1) := ckS_g gdX10_ballot_0 0 rfl
theorem dX10_ballot_1 : decode cX10_ballot 1 = .ok (.getfield 10, 3) := ckS_g gdX10_ballot_0 1 rfl
theorem dX10_ballot_4 : decode cX10_ballot 4 = .ok (.getfield 46, 3) := ckS_g gdX10_ballot_0 2 rfl
theorem dX10_ballot_7 : decode cX10_ballot 7 = .ok (.invokevirtual 66, 3) := ckS_g gdX10_ballot_0 3 rfl
theorem dX10_ballot_10 : decode cX10_ballot 10 = .ok (.astore_n 2, 1) := ckS_g gdX10_ballot_0 4 rfl
theorem dX10_ballot_11 : decode cX10_ballot 11 = .ok (.aload_n 2, 1) := ckS_g gdX10_ballot_0 5 rfl
theorem dX10_ballot_12 : decode cX10_ballot 12 = .ok (.ifnonnull 7, 3) := ckS_g gdX10_ballot_0 6 rfl
theorem dX10_ballot_15 : decode cX10_ballot 15 = .ok (.iconst (-1), 1) := ckS_g gdX10_ballot_0 7 rfl
theorem dX10_ballot_16 : decode cX10_ballot 16 = .ok (.goto 8, 3) := ckS_g gdX10_ballot_0 8 rfl
theorem dX10_ballot_19 : decode cX10_ballot 19 = .ok (.aload_n 2, 1) := ckS_g gdX10_ballot_0 9 rfl
theorem dX10_ballot_20 : decode cX10_ballot 20 = .ok (.iload_n 1, 1) := ckS_g gdX10_ballot_0 10 rfl
theorem dX10_ballot_21 : decode cX10_ballot 21 = .ok (.invokevirtual 70, 3) := ckS_g gdX10_ballot_0 11 rfl
theorem dX10_ballot_24 : decode cX10_ballot 24 = .ok (.ireturn, 1) := ckS_g gdX10_ballot_0 12 rfl
set_option maxRecDepth 100000 in
theorem zc513 : wZ (.methodLink RX10 70 yX4_voteOf) := ⟨wT4 (List.mem_of_getElem? (i := 149) (by decide +kernel)), Or.inl rfl⟩
set_option maxRecDepth 100000 in
theorem zc514 : wZ (.methodLink RX10 66 yX5_top) := ⟨wT4 (List.mem_of_getElem? (i := 148) (by decide +kernel)), Or.inl rfl⟩
set_option maxRecDepth 100000 in
theorem zc515 : wZ (.code yX10_ballot cX10_ballot 3 (some .int)) := ⟨wT4 (List.mem_of_getElem? (i := 147) rfl), Or.inl rfl⟩
def b_Y10_ballot_24 (S : Cst) (x0 : Nat) (x1 : Int32) (x2 : Option Nat) (y0 : Int32) : Int32 := y0
def q_Y10_ballot_24 (S : Cst) (x0 : Nat) (x1 : Int32) (x2 : Option Nat) (y0 : Int32) : Prop := True
def f_Y10_ballot (S : Cst) (x0 : Nat) (x1 : Int32) : Int32 := if (f_Y5_top S ((grC S ((grC S x0 0).getD 0) 1).getD 0)) = none then (b_Y10_ballot_24 S x0 x1 (f_Y5_top S ((grC S ((grC S x0 0).getD 0) 1).getD 0)) (-1)) else (b_Y10_ballot_24 S x0 x1 (f_Y5_top S ((grC S ((grC S x0 0).getD 0) 1).getD 0)) (f_Y4_voteOf S ((f_Y5_top S ((grC S ((grC S x0 0).getD 0) 1).getD 0)).getD 0) x1))
def p_Y10_ballot (S : Cst) (x0 : Nat) (x1 : Int32) : Prop := (iR S (grC S x0 0) 0) ∧ (iR S (grC S ((grC S x0 0).getD 0) 1) 4) ∧ (p_Y5_top S ((grC S ((grC S x0 0).getD 0) 1).getD 0)) ∧ (if (f_Y5_top S ((grC S ((grC S x0 0).getD 0) 1).getD 0)) = none then (q_Y10_ballot_24 S x0 x1 (f_Y5_top S ((grC S ((grC S x0 0).getD 0) 1).getD 0)) (-1)) else (iR S (f_Y5_top S ((grC S ((grC S x0 0).getD 0) 1).getD 0)) 3) ∧ (p_Y4_voteOf S ((f_Y5_top S ((grC S ((grC S x0 0).getD 0) 1).getD 0)).getD 0) x1) ∧ (q_Y10_ballot_24 S x0 x1 (f_Y5_top S ((grC S ((grC S x0 0).getD 0) 1).getD 0)) (f_Y4_voteOf S ((f_Y5_top S ((grC S ((grC S x0 0).getD 0) 1).getD 0)).getD 0) x1)))
def e_Y10_ballot : List Cond := [.fieldLink RX10 10 "MotionFloor" "now" "LMotionFloor$Assembly;", .fieldLink RX10 46 "MotionFloor$Assembly" "pending" "LMotionFloor$Pile;", .methodLink RX10 66 yX5_top, .instanceMethod yX5_top, .selects RX5 yX5_top yX5_top, .initialized RX5, .methodLink RX10 70 yX4_voteOf, .instanceMethod yX4_voteOf, .selects RX4 yX4_voteOf yX4_voteOf, .initialized RX4]
def v_Y10_ballot : List Cond := .code yX10_ballot cX10_ballot 3 (some .int) :: (e_Y10_ballot ++ (wsX100 ++ (wsX00 ++ (v_Y5_top ++ (v_Y4_voteOf ++ [])))))
theorem te_Y10_ballot : GoodIn lw_tbl e_Y10_ballot := wGc zc496 (wGc zc507 (wGc zc514 (wGc zc179 (wGc zc178 (wGc zc34 (wGc zc513 (wGc zc234 (wGc zc233 (wGc zc170 (wG0))))))))))
theorem t_Y10_ballot : GoodIn lw_tbl v_Y10_ballot := wGc zc515 (wGa te_Y10_ballot (wGa zcX10 (wGa zcX0 (wGa t_Y5_top (wGa t_Y4_voteOf (wG0))))))
set_option maxHeartbeats 4000000 in
set_option maxRecDepth 100000 in
theorem c_Y10_ballot (l : Launch) (G : va_G) (K : Nat → ClassId) (ad : Nat → Nat) (S : Cst) (x0 : Nat) (a1 : Int32) (sz : Nat) : Met l yX10_ballot v_Y10_ballot ({ frames := 2, cells := 0, slots := 0, locals := 41 }) (va_Pc [.ref (ad x0), .int a1] (cSt G K ad sz S (iK S x0 7 ∧ p_Y10_ballot S x0 a1))) (va_Qi (fun (r : Int32) (u : Cst) => (r, u) = (f_Y10_ballot S x0 a1, S)) (cBt G K ad (va_A (wsC K ad S) sz)) (va_A (wsC K ad S) sz)) 0 0 (va_A (wsC K ad S) sz) := by
  refine Met.ofW (cc := cX10_ballot) (maxL := 3) (ret := (some .int)) (by decide) rfl ?_
  intro p e s m args below meth c s₁ B hml hv
  obtain ⟨rfl, ⟨hsz, hP, hK, hD0, hTE⟩, hp⟩ := hv
  obtain ⟨k_x0, hp⟩ := hp
  have hx := B.exec
  have hb := B.bytes
  have hr := B.returns
  have hts := atoms_spec (ws := v_Y10_ballot) B.pre
  have t_ := t_Y10_ballot
  have mw : ∀ w ∈ e_Y10_ballot, w ∈ v_Y10_ballot := fun w h => List.mem_cons_of_mem _ (List.mem_append_left _ h)
  have hw := fun w (h : w ∈ e_Y10_ballot) => hts w (mw w h)
  have iX10 : ∀ w ∈ wsX100, w ∈ v_Y10_ballot := fun w h => List.mem_cons_of_mem _ (List.mem_append_right _ (List.mem_append_left _ h))
  have iX0 : ∀ w ∈ wsX00, w ∈ v_Y10_ballot := fun w h => List.mem_cons_of_mem _ (List.mem_append_right _ (List.mem_append_right _ (List.mem_append_left _ h)))
  have j_Y5_top : ∀ w ∈ v_Y5_top, w ∈ v_Y10_ballot := fun w h => List.mem_cons_of_mem _ (List.mem_append_right _ (List.mem_append_right _ (List.mem_append_right _ (List.mem_append_left _ h))))
  have j_Y4_voteOf : ∀ w ∈ v_Y4_voteOf, w ∈ v_Y10_ballot := fun w h => List.mem_cons_of_mem _ (List.mem_append_right _ (List.mem_append_right _ (List.mem_append_right _ (List.mem_append_right _ (List.mem_append_left _ h)))))
  have hown : s.vm.findClass RX10 = some m.cls := findClass_of_methodNamed B.named
  have hlocks := B.notSynchronized
  subst hsz
  have hD := hD0.self (sz := s.heap.size)
  generalize hAe : va_A (wsC K ad S) s.heap.size = A at hD ⊢
  have hA : ∀ q : Nat, s.heap.size ≤ q → A q := fun q h => by rw [← hAe]; exact Or.inr h
  have hS : va_S A s.heap s.heap [] := va_S.rf
  have hl : lv_has (lg_sl ([.ref (ad x0), .int a1]) ++ List.replicate (3 - (lg_sl ([.ref (ad x0), .int a1])).length) Slot.unset).toArray 3 [(0, .ref (ad x0)), (1, .int a1)] := by
    exact lv_entry ([.ref (ad x0), .int a1]) (n := 3) (Nat.le_of_ble_eq_true rfl)
  rw [lg_entry_eq]
  generalize (lg_sl ([.ref (ad x0), .int a1]) ++ List.replicate (3 - (lg_sl ([.ref (ad x0), .int a1])).length) Slot.unset).toArray = ls_ at hl ⊢
  refine wGen (fun Q hQ => ?_)
  obtain ⟨X, hX⟩ : ∃ X, f_Y10_ballot S x0 a1 = X := ⟨_, rfl⟩
  have B_Y10_ballot_24 : ∀ (x1 : Int32) (x2 : Option Nat) (y0 : Int32) (H : Heap) (locs : List Loc) (ls_ : Array Slot), b_Y10_ballot_24 S x0 x1 x2 y0 = X → q_Y10_ballot_24 S x0 x1 x2 y0 → va_P G vwCl (wsC K ad S) H → va_D A (wsC K ad S) → va_S A s.heap H locs → lv_has ls_ 3 [(0, .ref (ad x0)), (1, .int x1), (2, va_re ad x2)] → W p l e ({ frames := 2, cells := 0, slots := 0, locals := 41 } : Room) s m #[Value.ref (ad x0), Value.int a1] below meth c H locs 0 0 Q (F0 m 24 ls_ [.int y0]) := by
    intro x1 x2 y0 H locs ls_ hE hp hP hD hS hl
    unfold b_Y10_ballot_24 at hE
    unfold q_Y10_ballot_24 at hp
    subst hQ
    exact W.iret (v := y0) hx hb hr (fun t ht hW => ⟨⟨y0, S, rfl, (pair_i (hE.trans hX.symm)), by rw [ht]; exact hP, hD⟩, hS.F ht⟩) hS.2.2 dX10_ballot_24
  have B_M : ∀ (x1 : Int32) (H : Heap) (locs : List Loc) (ls_ : Array Slot), f_Y10_ballot S x0 x1 = X → p_Y10_ballot S x0 x1 → va_P G vwCl (wsC K ad S) H → va_D A (wsC K ad S) → va_S A s.heap H locs → lv_has ls_ 3 [(0, .ref (ad x0)), (1, .int x1)] → W p l e ({ frames := 2, cells := 0, slots := 0, locals := 41 } : Room) s m #[Value.ref (ad x0), Value.int a1] below meth c H locs 0 0 Q (F0 m 0 ls_ []) := by
    intro x1 H locs ls_ hE hp hP hD hS hl
    unfold f_Y10_ballot at hE
    unfold p_Y10_ballot at hp
    refine lv_aload_n hx hb dX10_ballot_0 rfl (lv_at hl 0 rfl) ?_
    refine va_get (D := G) (ci := 7) (v := va_re ad (grC S x0 0)) (C := RX10) (T := TX10) (N := 5) hx hb hts iX10 hown hK hP x0 (at_7 k_x0) rfl 0 (by decide) (hw (.fieldLink RX10 10 "MotionFloor" "now" "LMotionFloor$Assembly;") (List.mem_of_getElem? (i := 0) rfl)) (fun _ h9 => h9) rfl dX10_ballot_1 ?_
    obtain ⟨hy1, hp⟩ := hp
    refine cTop (r := (grC S x0 0)) hy1.1 ?_
    refine va_get (D := G) (ci := 0) (v := va_re ad (grC S ((grC S x0 0).getD 0) 1)) (C := RX0) (T := TX0) (N := 11) hx hb hts iX0 hown hK hP ((grC S x0 0).getD 0) (at_0 hy1.2) rfl 1 (by decide) (hw (.fieldLink RX10 46 "MotionFloor$Assembly" "pending" "LMotionFloor$Pile;") (List.mem_of_getElem? (i := 1) rfl)) (fun _ h9 => h9) rfl dX10_ballot_4 ?_
    obtain ⟨hy2, hp⟩ := hp
    refine cTop (r := (grC S ((grC S x0 0).getD 0) 1)) hy2.1 ?_
    obtain ⟨hy3, hp⟩ := hp
    refine cGoq (va_runV (As := []) (rest := []) ⟨hx, hb, hml, hown, hts⟩ (c_Y5_top l G K ad S ((grC S ((grC S x0 0).getD 0) 1).getD 0) _) (cwV 0 hts (wGV t_ (mw (.methodLink RX10 66 yX5_top) (List.mem_of_getElem? (i := 2) rfl)) (mw (.instanceMethod yX5_top) (List.mem_of_getElem? (i := 3) rfl)) (mw (.selects RX5 yX5_top yX5_top) (List.mem_of_getElem? (i := 4) rfl)) (mw (.initialized RX5) (List.mem_of_getElem? (i := 5) rfl)) j_Y5_top) rfl rfl rfl (by decide +kernel) ⟨Nat.le_of_ble_eq_true rfl, Nat.le_of_ble_eq_true rfl⟩) (cPV hK hTE hP hD 4 rfl (at_4 hy2.2) ⟨hy2.2, hy3⟩) rfl rfl hl.1 rfl (lv_room (Nat.le_of_ble_eq_true rfl)) dX10_ballot_7 ⟨Nat.le_of_ble_eq_true rfl, Nat.le_of_ble_eq_true rfl⟩) hP hD hS hA (fun r5 u4 H locs hv hP hD hS => ?_)
    have h1 := congrArg Prod.fst hv
    have h2 := (congrArg Prod.snd hv).symm
    dsimp only at h1 h2
    subst h1
    subst h2
    refine cAstore_n (ad := ad) (r := (f_Y5_top S ((grC S ((grC S x0 0).getD 0) 1).getD 0))) (i := 2) (lv' := [(2, va_re ad (f_Y5_top S ((grC S ((grC S x0 0).getD 0) 1).getD 0))), (0, .ref (ad x0)), (1, .int x1)]) hx hb dX10_ballot_10 rfl hl (by decide) rfl (fun ls_ hl => ?_)
    refine cAload_n (ad := ad) (r := (f_Y5_top S ((grC S ((grC S x0 0).getD 0) 1).getD 0))) hx hb dX10_ballot_11 rfl (lv_at hl 0 rfl) ?_
    refine cIfnonnull (ad := ad) (r := (f_Y5_top S ((grC S ((grC S x0 0).getD 0) 1).getD 0))) (tgt := 19) hx hb dX10_ballot_12 (by decide) (fun c6 => ?_) (fun c6 => ?_)
    · rw [if_pos c6] at hE hp
      refine lv_iconst (v := (-1)) hx hb dX10_ballot_15 (by decide) ?_
      refine lv_goto (tgt := 24) hx hb dX10_ballot_16 (by decide) ?_
      exact B_Y10_ballot_24 x1 (f_Y5_top S ((grC S ((grC S x0 0).getD 0) 1).getD 0)) (-1) _ _ _ hE hp hP hD hS (lv_sub hl [1, 2, 0] rfl)
    · rw [if_neg c6] at hE hp
      refine cAload_n (ad := ad) (r := (f_Y5_top S ((grC S ((grC S x0 0).getD 0) 1).getD 0))) hx hb dX10_ballot_19 rfl (lv_at hl 0 rfl) ?_
      refine lv_iload_n hx hb dX10_ballot_20 rfl (lv_at hl 2 rfl) ?_
      obtain ⟨hy7, hp⟩ := hp
      refine cTop2 (r := (f_Y5_top S ((grC S ((grC S x0 0).getD 0) 1).getD 0))) hy7.1 ?_
      obtain ⟨hy8, hp⟩ := hp
      refine cGoi (va_runV (As := [.int x1]) (rest := []) ⟨hx, hb, hml, hown, hts⟩ (c_Y4_voteOf l G K ad S ((f_Y5_top S ((grC S ((grC S x0 0).getD 0) 1).getD 0)).getD 0) x1 _) (cwV 1 hts (wGV t_ (mw (.methodLink RX10 70 yX4_voteOf) (List.mem_of_getElem? (i := 6) rfl)) (mw (.instanceMethod yX4_voteOf) (List.mem_of_getElem? (i := 7) rfl)) (mw (.selects RX4 yX4_voteOf yX4_voteOf) (List.mem_of_getElem? (i := 8) rfl)) (mw (.initialized RX4) (List.mem_of_getElem? (i := 9) rfl)) j_Y4_voteOf) rfl rfl rfl (by decide +kernel) ⟨Nat.le_of_ble_eq_true rfl, Nat.le_of_ble_eq_true rfl⟩) (cPV hK hTE hP hD 3 rfl (at_3 hy7.2) ⟨hy7.2, hy8⟩) rfl rfl hl.1 rfl (lv_room (Nat.le_of_ble_eq_true rfl)) dX10_ballot_21 ⟨Nat.le_of_ble_eq_true rfl, Nat.le_of_ble_eq_true rfl⟩) hP hD hS hA (fun r10 u9 H locs hv hP hD hS => ?_)
      have h1 := congrArg Prod.fst hv
      have h2 := (congrArg Prod.snd hv).symm
      dsimp only at h1 h2
      subst h1
      subst h2
      exact B_Y10_ballot_24 x1 (f_Y5_top S ((grC S ((grC S x0 0).getD 0) 1).getD 0)) (f_Y4_voteOf S ((f_Y5_top S ((grC S ((grC S x0 0).getD 0) 1).getD 0)).getD 0) x1) _ _ _ hE hp hP hD hS (lv_sub hl [1, 2, 0] rfl)
  exact B_M a1 _ _ _ hX hp hP hD hS hl
theorem gdX10_desk_0 : ckS (List.drop 0 cX10_desk.data.toList) 0 [(0, .aload_n 0, 1), (1, .getfield 10, 3), (4, .iload_n 1, 1), (5, .invokevirtual 73, 3), (8, .astore_n 3, 1), (9, .aload_n 3, 1), (10, .ifnonnull 7, 3), (13, .iconst (-1), 1), (14, .goto 8, 3), (17, .aload_n 3, 1), (18, .iload_n 2, 1), (19, .invokevirtual 77, 3), (22, .ireturn, 1)] = true := by decide +kernel
theorem dX10_desk_0 : decode cX10_desk 0 = .ok (.aload_n 0, 1) := ckS_g gdX10_desk_0 0 rfl
theorem dX10_desk_1 : decode cX10_desk 1 = .ok (.getfield 10, 3) := ckS_g gdX10_desk_0 1 rfl
theorem dX10_desk_4 : decode cX10_desk 4 = .ok (.iload_n 1, 1) := ckS_g gdX10_desk_0 2 rfl
theorem dX10_desk_5 : decode cX10_desk 5 = .ok (.invokevirtual 73, 3) := ckS_g gdX10_desk_0 3 rfl
theorem dX10_desk_8 : decode cX10_desk 8 = .ok (.astore_n 3, 1) := ckS_g gdX10_desk_0 4 rfl
theorem dX10_desk_9 : decode cX10_desk 9 = .ok (.aload_n 3, 1) := ckS_g gdX10_desk_0 5 rfl
theorem dX10_desk_10 : decode cX10_desk 10 = .ok (.ifnonnull 7, 3) := ckS_g gdX10_desk_0 6 rfl
theorem dX10_desk_13 : decode cX10_desk 13 = .ok (.iconst (-1), 1) := ckS_g gdX10_desk_0 7 rfl
theorem dX10_desk_14 : decode cX10_desk 14 = .ok (.goto 8, 3) := ckS_g gdX10_desk_0 8 rfl
theorem dX10_desk_17 : decode cX10_desk 17 = .ok (.aload_n 3, 1) := ckS_g gdX10_desk_0 9 rfl
theorem dX10_desk_18 : decode cX10_desk 18 = .ok (.iload_n 2, 1) := ckS_g gdX10_desk_0 10 rfl
theorem dX10_desk_19 : decode cX10_desk 19 = .ok (.invokevirtual 77, 3) := ckS_g gdX10_desk_0 11 rfl
theorem dX10_desk_22 : decode cX10_desk 22 = .ok (.ireturn, 1) := ckS_g gdX10_desk_0 12 rfl
set_option maxRecDepth 100000 in
theorem zc516 : wZ (.selects RX6 yX6_fact yX6_fact) := ⟨wT4 (List.mem_of_getElem? (i := 157) (by decide +kernel)), Or.inl rfl⟩
set_option maxRecDepth 100000 in
theorem zc517 : wZ (.instanceMethod yX6_fact) := ⟨wT4 (List.mem_of_getElem? (i := 156) (by decide +kernel)), Or.inl rfl⟩
set_option maxRecDepth 100000 in
theorem zc518 : wZ (.methodLink RX10 77 yX6_fact) := ⟨wT4 (List.mem_of_getElem? (i := 155) (by decide +kernel)), Or.inl rfl⟩
set_option maxRecDepth 100000 in
theorem zc519 : wZ (.methodLink RX10 73 yX0_placeAt) := ⟨wT4 (List.mem_of_getElem? (i := 154) (by decide +kernel)), Or.inl rfl⟩
set_option maxRecDepth 100000 in
theorem zc520 : wZ (.code yX10_desk cX10_desk 4 (some .int)) := ⟨wT4 (List.mem_of_getElem? (i := 153) rfl), Or.inl rfl⟩
def b_Y10_desk_22 (S : Cst) (x0 : Nat) (x1 : Int32) (x2 : Int32) (x3 : Option Nat) (y0 : Int32) : Int32 := y0
def q_Y10_desk_22 (S : Cst) (x0 : Nat) (x1 : Int32) (x2 : Int32) (x3 : Option Nat) (y0 : Int32) : Prop := True
def f_Y10_desk (S : Cst) (x0 : Nat) (x1 : Int32) (x2 : Int32) : Int32 := if (f_Y0_placeAt S ((grC S x0 0).getD 0) x1) = none then (b_Y10_desk_22 S x0 x1 x2 (f_Y0_placeAt S ((grC S x0 0).getD 0) x1) (-1)) else (b_Y10_desk_22 S x0 x1 x2 (f_Y0_placeAt S ((grC S x0 0).getD 0) x1) (f_Y6_fact S ((f_Y0_placeAt S ((grC S x0 0).getD 0) x1).getD 0) x2))
def p_Y10_desk (S : Cst) (x0 : Nat) (x1 : Int32) (x2 : Int32) : Prop := (iR S (grC S x0 0) 0) ∧ (p_Y0_placeAt S ((grC S x0 0).getD 0) x1) ∧ (if (f_Y0_placeAt S ((grC S x0 0).getD 0) x1) = none then (q_Y10_desk_22 S x0 x1 x2 (f_Y0_placeAt S ((grC S x0 0).getD 0) x1) (-1)) else (iR S (f_Y0_placeAt S ((grC S x0 0).getD 0) x1) 5) ∧ (p_Y6_fact S ((f_Y0_placeAt S ((grC S x0 0).getD 0) x1).getD 0) x2) ∧ (q_Y10_desk_22 S x0 x1 x2 (f_Y0_placeAt S ((grC S x0 0).getD 0) x1) (f_Y6_fact S ((f_Y0_placeAt S ((grC S x0 0).getD 0) x1).getD 0) x2)))
def e_Y10_desk : List Cond := [.fieldLink RX10 10 "MotionFloor" "now" "LMotionFloor$Assembly;", .methodLink RX10 73 yX0_placeAt, .instanceMethod yX0_placeAt, .selects RX0 yX0_placeAt yX0_placeAt, .initialized RX0, .methodLink RX10 77 yX6_fact, .instanceMethod yX6_fact, .selects RX6 yX6_fact yX6_fact, .initialized RX6]
def v_Y10_desk : List Cond := .code yX10_desk cX10_desk 4 (some .int) :: (e_Y10_desk ++ (wsX100 ++ (v_Y0_placeAt ++ (v_Y6_fact ++ []))))
theorem te_Y10_desk : GoodIn lw_tbl e_Y10_desk := wGc zc496 (wGc zc519 (wGc zc183 (wGc zc182 (wGc zc39 (wGc zc518 (wGc zc517 (wGc zc516 (wGc zc112 (wG0)))))))))
theorem t_Y10_desk : GoodIn lw_tbl v_Y10_desk := wGc zc520 (wGa te_Y10_desk (wGa zcX10 (wGa t_Y0_placeAt (wGa t_Y6_fact (wG0)))))
set_option maxHeartbeats 4000000 in
set_option maxRecDepth 100000 in
theorem c_Y10_desk (l : Launch) (G : va_G) (K : Nat → ClassId) (ad : Nat → Nat) (S : Cst) (x0 : Nat) (a1 : Int32) (a2 : Int32) (sz : Nat) : Met l yX10_desk v_Y10_desk ({ frames := 3, cells := 0, slots := 0, locals := 65 }) (va_Pc [.ref (ad x0), .int a1, .int a2] (cSt G K ad sz S (iK S x0 7 ∧ p_Y10_desk S x0 a1 a2))) (va_Qi (fun (r : Int32) (u : Cst) => (r, u) = (f_Y10_desk S x0 a1 a2, S)) (cBt G K ad (va_A (wsC K ad S) sz)) (va_A (wsC K ad S) sz)) 0 0 (va_A (wsC K ad S) sz) := by
  refine Met.ofW (cc := cX10_desk) (maxL := 4) (ret := (some .int)) (by decide) rfl ?_
  intro p e s m args below meth c s₁ B hml hv
  obtain ⟨rfl, ⟨hsz, hP, hK, hD0, hTE⟩, hp⟩ := hv
  obtain ⟨k_x0, hp⟩ := hp
  have hx := B.exec
  have hb := B.bytes
  have hr := B.returns
  have hts := atoms_spec (ws := v_Y10_desk) B.pre
  have t_ := t_Y10_desk
  have mw : ∀ w ∈ e_Y10_desk, w ∈ v_Y10_desk := fun w h => List.mem_cons_of_mem _ (List.mem_append_left _ h)
  have hw := fun w (h : w ∈ e_Y10_desk) => hts w (mw w h)
  have iX10 : ∀ w ∈ wsX100, w ∈ v_Y10_desk := fun w h => List.mem_cons_of_mem _ (List.mem_append_right _ (List.mem_append_left _ h))
  have j_Y0_placeAt : ∀ w ∈ v_Y0_placeAt, w ∈ v_Y10_desk := fun w h => List.mem_cons_of_mem _ (List.mem_append_right _ (List.mem_append_right _ (List.mem_append_left _ h)))
  have j_Y6_fact : ∀ w ∈ v_Y6_fact, w ∈ v_Y10_desk := fun w h => List.mem_cons_of_mem _ (List.mem_append_right _ (List.mem_append_right _ (List.mem_append_right _ (List.mem_append_left _ h))))
  have hown : s.vm.findClass RX10 = some m.cls := findClass_of_methodNamed B.named
  have hlocks := B.notSynchronized
  subst hsz
  have hD := hD0.self (sz := s.heap.size)
  generalize hAe : va_A (wsC K ad S) s.heap.size = A at hD ⊢
  have hA : ∀ q : Nat, s.heap.size ≤ q → A q := fun q h => by rw [← hAe]; exact Or.inr h
  have hS : va_S A s.heap s.heap [] := va_S.rf
  have hl : lv_has (lg_sl ([.ref (ad x0), .int a1, .int a2]) ++ List.replicate (4 - (lg_sl ([.ref (ad x0), .int a1, .int a2])).length) Slot.unset).toArray 4 [(0, .ref (ad x0)), (1, .int a1), (2, .int a2)] := by
    exact lv_entry ([.ref (ad x0), .int a1, .int a2]) (n := 4) (Nat.le_of_ble_eq_true rfl)
  rw [lg_entry_eq]
  generalize (lg_sl ([.ref (ad x0), .int a1, .int a2]) ++ List.replicate (4 - (lg_sl ([.ref (ad x0), .int a1, .int a2])).length) Slot.unset).toArray = ls_ at hl ⊢
  refine wGen (fun Q hQ => ?_)
  obtain ⟨X, hX⟩ : ∃ X, f_Y10_desk S x0 a1 a2 = X := ⟨_, rfl⟩
  have B_Y10_desk_22 : ∀ (x1 : Int32) (x2 : Int32) (x3 : Option Nat) (y0 : Int32) (H : Heap) (locs : List Loc) (ls_ : Array Slot), b_Y10_desk_22 S x0 x1 x2 x3 y0 = X → q_Y10_desk_22 S x0 x1 x2 x3 y0 → va_P G vwCl (wsC K ad S) H → va_D A (wsC K ad S) → va_S A s.heap H locs → lv_has ls_ 4 [(0, .ref (ad x0)), (1, .int x1), (2, .int x2), (3, va_re ad x3)] → W p l e ({ frames := 3, cells := 0, slots := 0, locals := 65 } : Room) s m #[Value.ref (ad x0), Value.int a1, Value.int a2] below meth c H locs 0 0 Q (F0 m 22 ls_ [.int y0]) := by
    intro x1 x2 x3 y0 H locs ls_ hE hp hP hD hS hl
    unfold b_Y10_desk_22 at hE
    unfold q_Y10_desk_22 at hp
    subst hQ
    exact W.iret (v := y0) hx hb hr (fun t ht hW => ⟨⟨y0, S, rfl, (pair_i (hE.trans hX.symm)), by rw [ht]; exact hP, hD⟩, hS.F ht⟩) hS.2.2 dX10_desk_22
  have B_M : ∀ (x1 : Int32) (x2 : Int32) (H : Heap) (locs : List Loc) (ls_ : Array Slot), f_Y10_desk S x0 x1 x2 = X → p_Y10_desk S x0 x1 x2 → va_P G vwCl (wsC K ad S) H → va_D A (wsC K ad S) → va_S A s.heap H locs → lv_has ls_ 4 [(0, .ref (ad x0)), (1, .int x1), (2, .int x2)] → W p l e ({ frames := 3, cells := 0, slots := 0, locals := 65 } : Room) s m #[Value.ref (ad x0), Value.int a1, Value.int a2] below meth c H locs 0 0 Q (F0 m 0 ls_ []) := by
    intro x1 x2 H locs ls_ hE hp hP hD hS hl
    unfold f_Y10_desk at hE
    unfold p_Y10_desk at hp
    refine lv_aload_n hx hb dX10_desk_0 rfl (lv_at hl 0 rfl) ?_
    refine va_get (D := G) (ci := 7) (v := va_re ad (grC S x0 0)) (C := RX10) (T := TX10) (N := 5) hx hb hts iX10 hown hK hP x0 (at_7 k_x0) rfl 0 (by decide) (hw (.fieldLink RX10 10 "MotionFloor" "now" "LMotionFloor$Assembly;") (List.mem_of_getElem? (i := 0) rfl)) (fun _ h9 => h9) rfl dX10_desk_1 ?_
    refine lv_iload_n hx hb dX10_desk_4 rfl (lv_at hl 1 rfl) ?_
    obtain ⟨hy1, hp⟩ := hp
    refine cTop2 (r := (grC S x0 0)) hy1.1 ?_
    obtain ⟨hy2, hp⟩ := hp
    refine cGoq (va_runV (As := [.int x1]) (rest := []) ⟨hx, hb, hml, hown, hts⟩ (c_Y0_placeAt l G K ad S ((grC S x0 0).getD 0) x1 _) (cwV 1 hts (wGV t_ (mw (.methodLink RX10 73 yX0_placeAt) (List.mem_of_getElem? (i := 1) rfl)) (mw (.instanceMethod yX0_placeAt) (List.mem_of_getElem? (i := 2) rfl)) (mw (.selects RX0 yX0_placeAt yX0_placeAt) (List.mem_of_getElem? (i := 3) rfl)) (mw (.initialized RX0) (List.mem_of_getElem? (i := 4) rfl)) j_Y0_placeAt) rfl rfl rfl (by decide +kernel) ⟨Nat.le_of_ble_eq_true rfl, Nat.le_of_ble_eq_true rfl⟩) (cPV hK hTE hP hD 0 rfl (at_0 hy1.2) ⟨hy1.2, hy2⟩) rfl rfl hl.1 rfl (lv_room (Nat.le_of_ble_eq_true rfl)) dX10_desk_5 ⟨Nat.le_of_ble_eq_true rfl, Nat.le_of_ble_eq_true rfl⟩) hP hD hS hA (fun r4 u3 H locs hv hP hD hS => ?_)
    have h1 := congrArg Prod.fst hv
    have h2 := (congrArg Prod.snd hv).symm
    dsimp only at h1 h2
    subst h1
    subst h2
    refine cAstore_n (ad := ad) (r := (f_Y0_placeAt S ((grC S x0 0).getD 0) x1)) (i := 3) (lv' := [(3, va_re ad (f_Y0_placeAt S ((grC S x0 0).getD 0) x1)), (0, .ref (ad x0)), (1, .int x1), (2, .int x2)]) hx hb dX10_desk_8 rfl hl (by decide) rfl (fun ls_ hl => ?_)
    refine cAload_n (ad := ad) (r := (f_Y0_placeAt S ((grC S x0 0).getD 0) x1)) hx hb dX10_desk_9 rfl (lv_at hl 0 rfl) ?_
    refine cIfnonnull (ad := ad) (r := (f_Y0_placeAt S ((grC S x0 0).getD 0) x1)) (tgt := 17) hx hb dX10_desk_10 (by decide) (fun c5 => ?_) (fun c5 => ?_)
    · rw [if_pos c5] at hE hp
      refine lv_iconst (v := (-1)) hx hb dX10_desk_13 (by decide) ?_
      refine lv_goto (tgt := 22) hx hb dX10_desk_14 (by decide) ?_
      exact B_Y10_desk_22 x1 x2 (f_Y0_placeAt S ((grC S x0 0).getD 0) x1) (-1) _ _ _ hE hp hP hD hS (lv_sub hl [1, 2, 3, 0] rfl)
    · rw [if_neg c5] at hE hp
      refine cAload_n (ad := ad) (r := (f_Y0_placeAt S ((grC S x0 0).getD 0) x1)) hx hb dX10_desk_17 rfl (lv_at hl 0 rfl) ?_
      refine lv_iload_n hx hb dX10_desk_18 rfl (lv_at hl 3 rfl) ?_
      obtain ⟨hy6, hp⟩ := hp
      refine cTop2 (r := (f_Y0_placeAt S ((grC S x0 0).getD 0) x1)) hy6.1 ?_
      obtain ⟨hy7, hp⟩ := hp
      refine cGoi (va_runV (As := [.int x2]) (rest := []) ⟨hx, hb, hml, hown, hts⟩ (c_Y6_fact l G K ad S ((f_Y0_placeAt S ((grC S x0 0).getD 0) x1).getD 0) x2 _) (cwV 1 hts (wGV t_ (mw (.methodLink RX10 77 yX6_fact) (List.mem_of_getElem? (i := 5) rfl)) (mw (.instanceMethod yX6_fact) (List.mem_of_getElem? (i := 6) rfl)) (mw (.selects RX6 yX6_fact yX6_fact) (List.mem_of_getElem? (i := 7) rfl)) (mw (.initialized RX6) (List.mem_of_getElem? (i := 8) rfl)) j_Y6_fact) rfl rfl rfl (by decide +kernel) ⟨Nat.le_of_ble_eq_true rfl, Nat.le_of_ble_eq_true rfl⟩) (cPV hK hTE hP hD 5 rfl (at_5 hy6.2) ⟨hy6.2, hy7⟩) rfl rfl hl.1 rfl (lv_room (Nat.le_of_ble_eq_true rfl)) dX10_desk_19 ⟨Nat.le_of_ble_eq_true rfl, Nat.le_of_ble_eq_true rfl⟩) hP hD hS hA (fun r9 u8 H locs hv hP hD hS => ?_)
      have h1 := congrArg Prod.fst hv
      have h2 := (congrArg Prod.snd hv).symm
      dsimp only at h1 h2
      subst h1
      subst h2
      exact B_Y10_desk_22 x1 x2 (f_Y0_placeAt S ((grC S x0 0).getD 0) x1) (f_Y6_fact S ((f_Y0_placeAt S ((grC S x0 0).getD 0) x1).getD 0) x2) _ _ _ hE hp hP hD hS (lv_sub hl [1, 2, 3, 0] rfl)
  exact B_M a1 a2 _ _ _ hX hp hP hD hS hl
theorem gdX10_lying_0 : ckS (List.drop 0 cX10_lying.data.toList) 0 [(0, .aload_n 0, 1), (1, .getfield 10, 3), (4, .iload_n 1, 1), (5, .invokevirtual 73, 3), (8, .astore_n 3, 1), (9, .aload_n 3, 1), (10, .ifnonnull 7, 3), (13, .iconst (-1), 1), (14, .goto 8, 3), (17, .aload_n 3, 1), (18, .iload_n 2, 1), (19, .invokevirtual 80, 3), (22, .ireturn, 1)] = true := by decide +kernel
theorem dX10_lying_0 : decode cX10_lying 0 = .ok (.aload_n 0, 1) := ckS_g gdX10_lying_0 0 rfl
theorem dX10_lying_1 : decode cX10_lying 1 = .ok (.getfield 10, 3) := ckS_g gdX10_lying_0 1 rfl
theorem dX10_lying_4 : decode cX10_lying 4 = .ok (.iload_n 1, 1) := ckS_g gdX10_lying_0 2 rfl
theorem dX10_lying_5 : decode cX10_lying 5 = .ok (.invokevirtual 73, 3) := ckS_g gdX10_lying_0 3 rfl
theorem dX10_lying_8 : decode cX10_lying 8 = .ok (.astore_n 3, 1) := ckS_g gdX10_lying_0 4 rfl
theorem dX10_lying_9 : decode cX10_lying 9 = .ok (.aload_n 3, 1) := ckS_g gdX10_lying_0 5 rfl
theorem dX10_lying_10 : decode cX10_lying 10 = .ok (.ifnonnull 7, 3) := ckS_g gdX10_lying_0 6 rfl
theorem dX10_lying_13 : decode cX10_lying 13 = .ok (.iconst (-1), 1) := ckS_g gdX10_lying_0 7 rfl
theorem dX10_lying_14 : decode cX10_lying 14 = .ok (.goto 8, 3) := ckS_g gdX10_lying_0 8 rfl
theorem dX10_lying_17 : decode cX10_lying 17 = .ok (.aload_n 3, 1) := ckS_g gdX10_lying_0 9 rfl
theorem dX10_lying_18 : decode cX10_lying 18 = .ok (.iload_n 2, 1) := ckS_g gdX10_lying_0 10 rfl
theorem dX10_lying_19 : decode cX10_lying 19 = .ok (.invokevirtual 80, 3) := ckS_g gdX10_lying_0 11 rfl
theorem dX10_lying_22 : decode cX10_lying 22 = .ok (.ireturn, 1) := ckS_g gdX10_lying_0 12 rfl
set_option maxRecDepth 100000 in
theorem zc521 : wZ (.selects RX6 yX6_wordAt yX6_wordAt) := ⟨wT4 (List.mem_of_getElem? (i := 167) (by decide +kernel)), Or.inl rfl⟩
set_option maxRecDepth 100000 in
theorem zc522 : wZ (.instanceMethod yX6_wordAt) := ⟨wT4 (List.mem_of_getElem? (i := 166) (by decide +kernel)), Or.inl rfl⟩
set_option maxRecDepth 100000 in
theorem zc523 : wZ (.methodLink RX10 80 yX6_wordAt) := ⟨wT4 (List.mem_of_getElem? (i := 165) (by decide +kernel)), Or.inl rfl⟩
set_option maxRecDepth 100000 in
theorem zc524 : wZ (.code yX10_lying cX10_lying 4 (some .int)) := ⟨wT4 (List.mem_of_getElem? (i := 164) rfl), Or.inl rfl⟩
def b_Y10_lying_22 (S : Cst) (x0 : Nat) (x1 : Int32) (x2 : Int32) (x3 : Option Nat) (y0 : Int32) : Int32 := y0
def q_Y10_lying_22 (S : Cst) (x0 : Nat) (x1 : Int32) (x2 : Int32) (x3 : Option Nat) (y0 : Int32) : Prop := True
def f_Y10_lying (S : Cst) (x0 : Nat) (x1 : Int32) (x2 : Int32) : Int32 := if (f_Y0_placeAt S ((grC S x0 0).getD 0) x1) = none then (b_Y10_lying_22 S x0 x1 x2 (f_Y0_placeAt S ((grC S x0 0).getD 0) x1) (-1)) else (b_Y10_lying_22 S x0 x1 x2 (f_Y0_placeAt S ((grC S x0 0).getD 0) x1) (f_Y6_wordAt S ((f_Y0_placeAt S ((grC S x0 0).getD 0) x1).getD 0) x2))
def p_Y10_lying (S : Cst) (x0 : Nat) (x1 : Int32) (x2 : Int32) : Prop := (iR S (grC S x0 0) 0) ∧ (p_Y0_placeAt S ((grC S x0 0).getD 0) x1) ∧ (if (f_Y0_placeAt S ((grC S x0 0).getD 0) x1) = none then (q_Y10_lying_22 S x0 x1 x2 (f_Y0_placeAt S ((grC S x0 0).getD 0) x1) (-1)) else (iR S (f_Y0_placeAt S ((grC S x0 0).getD 0) x1) 5) ∧ (p_Y6_wordAt S ((f_Y0_placeAt S ((grC S x0 0).getD 0) x1).getD 0) x2) ∧ (q_Y10_lying_22 S x0 x1 x2 (f_Y0_placeAt S ((grC S x0 0).getD 0) x1) (f_Y6_wordAt S ((f_Y0_placeAt S ((grC S x0 0).getD 0) x1).getD 0) x2)))
def e_Y10_lying : List Cond := [.fieldLink RX10 10 "MotionFloor" "now" "LMotionFloor$Assembly;", .methodLink RX10 73 yX0_placeAt, .instanceMethod yX0_placeAt, .selects RX0 yX0_placeAt yX0_placeAt, .initialized RX0, .methodLink RX10 80 yX6_wordAt, .instanceMethod yX6_wordAt, .selects RX6 yX6_wordAt yX6_wordAt, .initialized RX6]
def v_Y10_lying : List Cond := .code yX10_lying cX10_lying 4 (some .int) :: (e_Y10_lying ++ (wsX100 ++ (v_Y0_placeAt ++ (v_Y6_wordAt ++ []))))
theorem te_Y10_lying : GoodIn lw_tbl e_Y10_lying := wGc zc496 (wGc zc519 (wGc zc183 (wGc zc182 (wGc zc39 (wGc zc523 (wGc zc522 (wGc zc521 (wGc zc112 (wG0)))))))))
theorem t_Y10_lying : GoodIn lw_tbl v_Y10_lying := wGc zc524 (wGa te_Y10_lying (wGa zcX10 (wGa t_Y0_placeAt (wGa t_Y6_wordAt (wG0)))))
set_option maxHeartbeats 4000000 in
set_option maxRecDepth 100000 in
theorem c_Y10_lying (l : Launch) (G : va_G) (K : Nat → ClassId) (ad : Nat → Nat) (S : Cst) (x0 : Nat) (a1 : Int32) (a2 : Int32) (sz : Nat) : Met l yX10_lying v_Y10_lying ({ frames := 2, cells := 0, slots := 0, locals := 43 }) (va_Pc [.ref (ad x0), .int a1, .int a2] (cSt G K ad sz S (iK S x0 7 ∧ p_Y10_lying S x0 a1 a2))) (va_Qi (fun (r : Int32) (u : Cst) => (r, u) = (f_Y10_lying S x0 a1 a2, S)) (cBt G K ad (va_A (wsC K ad S) sz)) (va_A (wsC K ad S) sz)) 0 0 (va_A (wsC K ad S) sz) := by
  refine Met.ofW (cc := cX10_lying) (maxL := 4) (ret := (some .int)) (by decide) rfl ?_
  intro p e s m args below meth c s₁ B hml hv
  obtain ⟨rfl, ⟨hsz, hP, hK, hD0, hTE⟩, hp⟩ := hv
  obtain ⟨k_x0, hp⟩ := hp
  have hx := B.exec
  have hb := B.bytes
  have hr := B.returns
  have hts := atoms_spec (ws := v_Y10_lying) B.pre
  have t_ := t_Y10_lying
  have mw : ∀ w ∈ e_Y10_lying, w ∈ v_Y10_lying := fun w h => List.mem_cons_of_mem _ (List.mem_append_left _ h)
  have hw := fun w (h : w ∈ e_Y10_lying) => hts w (mw w h)
  have iX10 : ∀ w ∈ wsX100, w ∈ v_Y10_lying := fun w h => List.mem_cons_of_mem _ (List.mem_append_right _ (List.mem_append_left _ h))
  have j_Y0_placeAt : ∀ w ∈ v_Y0_placeAt, w ∈ v_Y10_lying := fun w h => List.mem_cons_of_mem _ (List.mem_append_right _ (List.mem_append_right _ (List.mem_append_left _ h)))
  have j_Y6_wordAt : ∀ w ∈ v_Y6_wordAt, w ∈ v_Y10_lying := fun w h => List.mem_cons_of_mem _ (List.mem_append_right _ (List.mem_append_right _ (List.mem_append_right _ (List.mem_append_left _ h))))
  have hown : s.vm.findClass RX10 = some m.cls := findClass_of_methodNamed B.named
  have hlocks := B.notSynchronized
  subst hsz
  have hD := hD0.self (sz := s.heap.size)
  generalize hAe : va_A (wsC K ad S) s.heap.size = A at hD ⊢
  have hA : ∀ q : Nat, s.heap.size ≤ q → A q := fun q h => by rw [← hAe]; exact Or.inr h
  have hS : va_S A s.heap s.heap [] := va_S.rf
  have hl : lv_has (lg_sl ([.ref (ad x0), .int a1, .int a2]) ++ List.replicate (4 - (lg_sl ([.ref (ad x0), .int a1, .int a2])).length) Slot.unset).toArray 4 [(0, .ref (ad x0)), (1, .int a1), (2, .int a2)] := by
    exact lv_entry ([.ref (ad x0), .int a1, .int a2]) (n := 4) (Nat.le_of_ble_eq_true rfl)
  rw [lg_entry_eq]
  generalize (lg_sl ([.ref (ad x0), .int a1, .int a2]) ++ List.replicate (4 - (lg_sl ([.ref (ad x0), .int a1, .int a2])).length) Slot.unset).toArray = ls_ at hl ⊢
  refine wGen (fun Q hQ => ?_)
  obtain ⟨X, hX⟩ : ∃ X, f_Y10_lying S x0 a1 a2 = X := ⟨_, rfl⟩
  have B_Y10_lying_22 : ∀ (x1 : Int32) (x2 : Int32) (x3 : Option Nat) (y0 : Int32) (H : Heap) (locs : List Loc) (ls_ : Array Slot), b_Y10_lying_22 S x0 x1 x2 x3 y0 = X → q_Y10_lying_22 S x0 x1 x2 x3 y0 → va_P G vwCl (wsC K ad S) H → va_D A (wsC K ad S) → va_S A s.heap H locs → lv_has ls_ 4 [(0, .ref (ad x0)), (1, .int x1), (2, .int x2), (3, va_re ad x3)] → W p l e ({ frames := 2, cells := 0, slots := 0, locals := 43 } : Room) s m #[Value.ref (ad x0), Value.int a1, Value.int a2] below meth c H locs 0 0 Q (F0 m 22 ls_ [.int y0]) := by
    intro x1 x2 x3 y0 H locs ls_ hE hp hP hD hS hl
    unfold b_Y10_lying_22 at hE
    unfold q_Y10_lying_22 at hp
    subst hQ
    exact W.iret (v := y0) hx hb hr (fun t ht hW => ⟨⟨y0, S, rfl, (pair_i (hE.trans hX.symm)), by rw [ht]; exact hP, hD⟩, hS.F ht⟩) hS.2.2 dX10_lying_22
  have B_M : ∀ (x1 : Int32) (x2 : Int32) (H : Heap) (locs : List Loc) (ls_ : Array Slot), f_Y10_lying S x0 x1 x2 = X → p_Y10_lying S x0 x1 x2 → va_P G vwCl (wsC K ad S) H → va_D A (wsC K ad S) → va_S A s.heap H locs → lv_has ls_ 4 [(0, .ref (ad x0)), (1, .int x1), (2, .int x2)] → W p l e ({ frames := 2, cells := 0, slots := 0, locals := 43 } : Room) s m #[Value.ref (ad x0), Value.int a1, Value.int a2] below meth c H locs 0 0 Q (F0 m 0 ls_ []) := by
    intro x1 x2 H locs ls_ hE hp hP hD hS hl
    unfold f_Y10_lying at hE
    unfold p_Y10_lying at hp
    refine lv_aload_n hx hb dX10_lying_0 rfl (lv_at hl 0 rfl) ?_
    refine va_get (D := G) (ci := 7) (v := va_re ad (grC S x0 0)) (C := RX10) (T := TX10) (N := 5) hx hb hts iX10 hown hK hP x0 (at_7 k_x0) rfl 0 (by decide) (hw (.fieldLink RX10 10 "MotionFloor" "now" "LMotionFloor$Assembly;") (List.mem_of_getElem? (i := 0) rfl)) (fun _ h9 => h9) rfl dX10_lying_1 ?_
    refine lv_iload_n hx hb dX10_lying_4 rfl (lv_at hl 1 rfl) ?_
    obtain ⟨hy1, hp⟩ := hp
    refine cTop2 (r := (grC S x0 0)) hy1.1 ?_
    obtain ⟨hy2, hp⟩ := hp
    refine cGoq (va_runV (As := [.int x1]) (rest := []) ⟨hx, hb, hml, hown, hts⟩ (c_Y0_placeAt l G K ad S ((grC S x0 0).getD 0) x1 _) (cwV 1 hts (wGV t_ (mw (.methodLink RX10 73 yX0_placeAt) (List.mem_of_getElem? (i := 1) rfl)) (mw (.instanceMethod yX0_placeAt) (List.mem_of_getElem? (i := 2) rfl)) (mw (.selects RX0 yX0_placeAt yX0_placeAt) (List.mem_of_getElem? (i := 3) rfl)) (mw (.initialized RX0) (List.mem_of_getElem? (i := 4) rfl)) j_Y0_placeAt) rfl rfl rfl (by decide +kernel) ⟨Nat.le_of_ble_eq_true rfl, Nat.le_of_ble_eq_true rfl⟩) (cPV hK hTE hP hD 0 rfl (at_0 hy1.2) ⟨hy1.2, hy2⟩) rfl rfl hl.1 rfl (lv_room (Nat.le_of_ble_eq_true rfl)) dX10_lying_5 ⟨Nat.le_of_ble_eq_true rfl, Nat.le_of_ble_eq_true rfl⟩) hP hD hS hA (fun r4 u3 H locs hv hP hD hS => ?_)
    have h1 := congrArg Prod.fst hv
    have h2 := (congrArg Prod.snd hv).symm
    dsimp only at h1 h2
    subst h1
    subst h2
    refine cAstore_n (ad := ad) (r := (f_Y0_placeAt S ((grC S x0 0).getD 0) x1)) (i := 3) (lv' := [(3, va_re ad (f_Y0_placeAt S ((grC S x0 0).getD 0) x1)), (0, .ref (ad x0)), (1, .int x1), (2, .int x2)]) hx hb dX10_lying_8 rfl hl (by decide) rfl (fun ls_ hl => ?_)
    refine cAload_n (ad := ad) (r := (f_Y0_placeAt S ((grC S x0 0).getD 0) x1)) hx hb dX10_lying_9 rfl (lv_at hl 0 rfl) ?_
    refine cIfnonnull (ad := ad) (r := (f_Y0_placeAt S ((grC S x0 0).getD 0) x1)) (tgt := 17) hx hb dX10_lying_10 (by decide) (fun c5 => ?_) (fun c5 => ?_)
    · rw [if_pos c5] at hE hp
      refine lv_iconst (v := (-1)) hx hb dX10_lying_13 (by decide) ?_
      refine lv_goto (tgt := 22) hx hb dX10_lying_14 (by decide) ?_
      exact B_Y10_lying_22 x1 x2 (f_Y0_placeAt S ((grC S x0 0).getD 0) x1) (-1) _ _ _ hE hp hP hD hS (lv_sub hl [1, 2, 3, 0] rfl)
    · rw [if_neg c5] at hE hp
      refine cAload_n (ad := ad) (r := (f_Y0_placeAt S ((grC S x0 0).getD 0) x1)) hx hb dX10_lying_17 rfl (lv_at hl 0 rfl) ?_
      refine lv_iload_n hx hb dX10_lying_18 rfl (lv_at hl 3 rfl) ?_
      obtain ⟨hy6, hp⟩ := hp
      refine cTop2 (r := (f_Y0_placeAt S ((grC S x0 0).getD 0) x1)) hy6.1 ?_
      obtain ⟨hy7, hp⟩ := hp
      refine cGoi (va_runV (As := [.int x2]) (rest := []) ⟨hx, hb, hml, hown, hts⟩ (c_Y6_wordAt l G K ad S ((f_Y0_placeAt S ((grC S x0 0).getD 0) x1).getD 0) x2 _) (cwV 1 hts (wGV t_ (mw (.methodLink RX10 80 yX6_wordAt) (List.mem_of_getElem? (i := 5) rfl)) (mw (.instanceMethod yX6_wordAt) (List.mem_of_getElem? (i := 6) rfl)) (mw (.selects RX6 yX6_wordAt yX6_wordAt) (List.mem_of_getElem? (i := 7) rfl)) (mw (.initialized RX6) (List.mem_of_getElem? (i := 8) rfl)) j_Y6_wordAt) rfl rfl rfl (by decide +kernel) ⟨Nat.le_of_ble_eq_true rfl, Nat.le_of_ble_eq_true rfl⟩) (cPV hK hTE hP hD 5 rfl (at_5 hy6.2) ⟨hy6.2, hy7⟩) rfl rfl hl.1 rfl (lv_room (Nat.le_of_ble_eq_true rfl)) dX10_lying_19 ⟨Nat.le_of_ble_eq_true rfl, Nat.le_of_ble_eq_true rfl⟩) hP hD hS hA (fun r9 u8 H locs hv hP hD hS => ?_)
      have h1 := congrArg Prod.fst hv
      have h2 := (congrArg Prod.snd hv).symm
      dsimp only at h1 h2
      subst h1
      subst h2
      exact B_Y10_lying_22 x1 x2 (f_Y0_placeAt S ((grC S x0 0).getD 0) x1) (f_Y6_wordAt S ((f_Y0_placeAt S ((grC S x0 0).getD 0) x1).getD 0) x2) _ _ _ hE hp hP hD hS (lv_sub hl [1, 2, 3, 0] rfl)
  exact B_M a1 a2 _ _ _ hX hp hP hD hS hl
theorem gdX10_result_0 : ckS (List.drop 0 cX10_result.data.toList) 0 [(0, .aload_n 0, 1), (1, .getfield 10, 3), (4, .getfield 83, 3), (7, .iload_n 1, 1), (8, .iload_n 2, 1), (9, .invokevirtual 86, 3), (12, .ireturn, 1)] = true := by decide +kernel
theorem dX10_result_0 : decode cX10_result 0 = .ok (.aload_n 0, 1) := ckS_g gdX10_result_0 0 rfl
theorem dX10_result_1 : decode cX10_result 1 = .ok (.getfield 10, 3) := ckS_g gdX10_result_0 1 rfl
theorem dX10_result_4 : decode cX10_result 4 = .ok (.getfield 83, 3) := ckS_g gdX10_result_0 2 rfl
theorem dX10_result_7 : decode cX10_result 7 = .ok (.iload_n 1, 1) := ckS_g gdX10_result_0 3 rfl
theorem dX10_result_8 : decode cX10_result 8 = .ok (.iload_n 2, 1) := ckS_g gdX10_result_0 4 rfl
theorem dX10_result_9 : decode cX10_result 9 = .ok (.invokevirtual 86, 3) := ckS_g gdX10_result_0 5 rfl
theorem dX10_result_12 : decode cX10_result 12 = .ok (.ireturn, 1) := ckS_g gdX10_result_0 6 rfl
set_option maxRecDepth 100000 in
theorem zc525 : wZ (.selects RX3 yX3_at yX3_at) := ⟨wT4 (List.mem_of_getElem? (i := 176) (by decide +kernel)), Or.inl rfl⟩
set_option maxRecDepth 100000 in
theorem zc526 : wZ (.instanceMethod yX3_at) := ⟨wT4 (List.mem_of_getElem? (i := 175) (by decide +kernel)), Or.inl rfl⟩
set_option maxRecDepth 100000 in
theorem zc527 : wZ (.methodLink RX10 86 yX3_at) := ⟨wT4 (List.mem_of_getElem? (i := 174) (by decide +kernel)), Or.inl rfl⟩
set_option maxRecDepth 100000 in
theorem zc528 : wZ (.fieldLink RX10 83 "MotionFloor$Assembly" "results" "LMotionFloor$Ledger;") := ⟨wT1 (List.mem_of_getElem? (i := 200) (by decide +kernel)), Or.inl rfl⟩
set_option maxRecDepth 100000 in
theorem zc529 : wZ (.code yX10_result cX10_result 3 (some .int)) := ⟨wT4 (List.mem_of_getElem? (i := 173) rfl), Or.inl rfl⟩
def f_Y10_result (S : Cst) (x0 : Nat) (x1 : Int32) (x2 : Int32) : Int32 := (f_Y3_at S ((grC S ((grC S x0 0).getD 0) 5).getD 0) x1 x2)
def p_Y10_result (S : Cst) (x0 : Nat) (x1 : Int32) (x2 : Int32) : Prop := (iR S (grC S x0 0) 0) ∧ (iR S (grC S ((grC S x0 0).getD 0) 5) 2) ∧ (p_Y3_at S ((grC S ((grC S x0 0).getD 0) 5).getD 0) x1 x2) ∧ True
def e_Y10_result : List Cond := [.fieldLink RX10 10 "MotionFloor" "now" "LMotionFloor$Assembly;", .fieldLink RX10 83 "MotionFloor$Assembly" "results" "LMotionFloor$Ledger;", .methodLink RX10 86 yX3_at, .instanceMethod yX3_at, .selects RX3 yX3_at yX3_at, .initialized RX3]
def v_Y10_result : List Cond := .code yX10_result cX10_result 3 (some .int) :: (e_Y10_result ++ (wsX100 ++ (wsX00 ++ (v_Y3_at ++ []))))
theorem te_Y10_result : GoodIn lw_tbl e_Y10_result := wGc zc496 (wGc zc528 (wGc zc527 (wGc zc526 (wGc zc525 (wGc zc480 (wG0))))))
theorem t_Y10_result : GoodIn lw_tbl v_Y10_result := wGc zc529 (wGa te_Y10_result (wGa zcX10 (wGa zcX0 (wGa t_Y3_at (wG0)))))
set_option maxHeartbeats 4000000 in
set_option maxRecDepth 100000 in
theorem c_Y10_result (l : Launch) (G : va_G) (K : Nat → ClassId) (ad : Nat → Nat) (S : Cst) (x0 : Nat) (a1 : Int32) (a2 : Int32) (sz : Nat) : Met l yX10_result v_Y10_result ({ frames := 1, cells := 0, slots := 0, locals := 23 }) (va_Pc [.ref (ad x0), .int a1, .int a2] (cSt G K ad sz S (iK S x0 7 ∧ p_Y10_result S x0 a1 a2))) (va_Qi (fun (r : Int32) (u : Cst) => (r, u) = (f_Y10_result S x0 a1 a2, S)) (cBt G K ad (va_A (wsC K ad S) sz)) (va_A (wsC K ad S) sz)) 0 0 (va_A (wsC K ad S) sz) := by
  refine Met.ofW (cc := cX10_result) (maxL := 3) (ret := (some .int)) (by decide) rfl ?_
  intro p e s m args below meth c s₁ B hml hv
  obtain ⟨rfl, ⟨hsz, hP, hK, hD0, hTE⟩, hp⟩ := hv
  obtain ⟨k_x0, hp⟩ := hp
  have hx := B.exec
  have hb := B.bytes
  have hr := B.returns
  have hts := atoms_spec (ws := v_Y10_result) B.pre
  have t_ := t_Y10_result
  have mw : ∀ w ∈ e_Y10_result, w ∈ v_Y10_result := fun w h => List.mem_cons_of_mem _ (List.mem_append_left _ h)
  have hw := fun w (h : w ∈ e_Y10_result) => hts w (mw w h)
  have iX10 : ∀ w ∈ wsX100, w ∈ v_Y10_result := fun w h => List.mem_cons_of_mem _ (List.mem_append_right _ (List.mem_append_left _ h))
  have iX0 : ∀ w ∈ wsX00, w ∈ v_Y10_result := fun w h => List.mem_cons_of_mem _ (List.mem_append_right _ (List.mem_append_right _ (List.mem_append_left _ h)))
  have j_Y3_at : ∀ w ∈ v_Y3_at, w ∈ v_Y10_result := fun w h => List.mem_cons_of_mem _ (List.mem_append_right _ (List.mem_append_right _ (List.mem_append_right _ (List.mem_append_left _ h))))
  have hown : s.vm.findClass RX10 = some m.cls := findClass_of_methodNamed B.named
  have hlocks := B.notSynchronized
  subst hsz
  have hD := hD0.self (sz := s.heap.size)
  generalize hAe : va_A (wsC K ad S) s.heap.size = A at hD ⊢
  have hA : ∀ q : Nat, s.heap.size ≤ q → A q := fun q h => by rw [← hAe]; exact Or.inr h
  have hS : va_S A s.heap s.heap [] := va_S.rf
  have hl : lv_has (lg_sl ([.ref (ad x0), .int a1, .int a2]) ++ List.replicate (3 - (lg_sl ([.ref (ad x0), .int a1, .int a2])).length) Slot.unset).toArray 3 [(0, .ref (ad x0)), (1, .int a1), (2, .int a2)] := by
    exact lv_entry ([.ref (ad x0), .int a1, .int a2]) (n := 3) (Nat.le_of_ble_eq_true rfl)
  rw [lg_entry_eq]
  generalize (lg_sl ([.ref (ad x0), .int a1, .int a2]) ++ List.replicate (3 - (lg_sl ([.ref (ad x0), .int a1, .int a2])).length) Slot.unset).toArray = ls_ at hl ⊢
  refine wGen (fun Q hQ => ?_)
  obtain ⟨X, hX⟩ : ∃ X, f_Y10_result S x0 a1 a2 = X := ⟨_, rfl⟩
  have B_M : ∀ (x1 : Int32) (x2 : Int32) (H : Heap) (locs : List Loc) (ls_ : Array Slot), f_Y10_result S x0 x1 x2 = X → p_Y10_result S x0 x1 x2 → va_P G vwCl (wsC K ad S) H → va_D A (wsC K ad S) → va_S A s.heap H locs → lv_has ls_ 3 [(0, .ref (ad x0)), (1, .int x1), (2, .int x2)] → W p l e ({ frames := 1, cells := 0, slots := 0, locals := 23 } : Room) s m #[Value.ref (ad x0), Value.int a1, Value.int a2] below meth c H locs 0 0 Q (F0 m 0 ls_ []) := by
    intro x1 x2 H locs ls_ hE hp hP hD hS hl
    unfold f_Y10_result at hE
    unfold p_Y10_result at hp
    refine lv_aload_n hx hb dX10_result_0 rfl (lv_at hl 0 rfl) ?_
    refine va_get (D := G) (ci := 7) (v := va_re ad (grC S x0 0)) (C := RX10) (T := TX10) (N := 5) hx hb hts iX10 hown hK hP x0 (at_7 k_x0) rfl 0 (by decide) (hw (.fieldLink RX10 10 "MotionFloor" "now" "LMotionFloor$Assembly;") (List.mem_of_getElem? (i := 0) rfl)) (fun _ h9 => h9) rfl dX10_result_1 ?_
    obtain ⟨hy1, hp⟩ := hp
    refine cTop (r := (grC S x0 0)) hy1.1 ?_
    refine va_get (D := G) (ci := 0) (v := va_re ad (grC S ((grC S x0 0).getD 0) 5)) (C := RX0) (T := TX0) (N := 11) hx hb hts iX0 hown hK hP ((grC S x0 0).getD 0) (at_0 hy1.2) rfl 5 (by decide) (hw (.fieldLink RX10 83 "MotionFloor$Assembly" "results" "LMotionFloor$Ledger;") (List.mem_of_getElem? (i := 1) rfl)) (fun _ h9 => h9) rfl dX10_result_4 ?_
    refine lv_iload_n hx hb dX10_result_7 rfl (lv_at hl 1 rfl) ?_
    refine lv_iload_n hx hb dX10_result_8 rfl (lv_at hl 2 rfl) ?_
    obtain ⟨hy2, hp⟩ := hp
    refine cTop3 (r := (grC S ((grC S x0 0).getD 0) 5)) hy2.1 ?_
    obtain ⟨hy3, hp⟩ := hp
    refine cGoi (va_runV (As := [.int x1, .int x2]) (rest := []) ⟨hx, hb, hml, hown, hts⟩ (c_Y3_at l G K ad S ((grC S ((grC S x0 0).getD 0) 5).getD 0) x1 x2 _) (cwV 2 hts (wGV t_ (mw (.methodLink RX10 86 yX3_at) (List.mem_of_getElem? (i := 2) rfl)) (mw (.instanceMethod yX3_at) (List.mem_of_getElem? (i := 3) rfl)) (mw (.selects RX3 yX3_at yX3_at) (List.mem_of_getElem? (i := 4) rfl)) (mw (.initialized RX3) (List.mem_of_getElem? (i := 5) rfl)) j_Y3_at) rfl rfl rfl (by decide +kernel) ⟨Nat.le_of_ble_eq_true rfl, Nat.le_of_ble_eq_true rfl⟩) (cPV hK hTE hP hD 2 rfl (at_2 hy2.2) ⟨hy2.2, hy3⟩) rfl rfl hl.1 rfl (lv_room (Nat.le_of_ble_eq_true rfl)) dX10_result_9 ⟨Nat.le_of_ble_eq_true rfl, Nat.le_of_ble_eq_true rfl⟩) hP hD hS hA (fun r5 u4 H locs hv hP hD hS => ?_)
    have h1 := congrArg Prod.fst hv
    have h2 := (congrArg Prod.snd hv).symm
    dsimp only at h1 h2
    subst h1
    subst h2
    subst hQ
    exact W.iret (v := (f_Y3_at S ((grC S ((grC S x0 0).getD 0) 5).getD 0) x1 x2)) hx hb hr (fun t ht hW => ⟨⟨(f_Y3_at S ((grC S ((grC S x0 0).getD 0) 5).getD 0) x1 x2), S, rfl, (pair_i (hE.trans hX.symm)), by rw [ht]; exact hP, hD⟩, hS.F ht⟩) hS.2.2 dX10_result_12
  exact B_M a1 a2 _ _ _ hX hp hP hD hS hl
theorem dX10_count_1 : decode cX10_count 1 = .ok (.tableswitch 218 0 12 #[67, 78, 89, 100, 111, 122, 133, 144, 155, 166, 177, 202, 210], 67) := by decide +kernel
theorem gdX10_count_0 : ckS (List.drop 0 cX10_count.data.toList) 0 [(0, .iload_n 1, 1), (68, .aload_n 0, 1), (69, .getfield 10, 3), (72, .getfield 88, 3), (75, .getfield 92, 3), (78, .ireturn, 1), (79, .aload_n 0, 1), (80, .getfield 10, 3), (83, .getfield 88, 3), (86, .getfield 97, 3), (89, .ireturn, 1), (90, .aload_n 0, 1), (91, .getfield 10, 3), (94, .getfield 88, 3), (97, .getfield 100, 3), (100, .ireturn, 1), (101, .aload_n 0, 1), (102, .getfield 10, 3), (105, .getfield 88, 3), (108, .getfield 103, 3), (111, .ireturn, 1), (112, .aload_n 0, 1), (113, .getfield 10, 3), (116, .getfield 88, 3), (119, .getfield 106, 3), (122, .ireturn, 1), (123, .aload_n 0, 1), (124, .getfield 10, 3), (127, .getfield 88, 3), (130, .getfield 109, 3), (133, .ireturn, 1), (134, .aload_n 0, 1), (135, .getfield 10, 3), (138, .getfield 46, 3), (141, .getfield 112, 3), (144, .ireturn, 1), (145, .aload_n 0, 1), (146, .getfield 10, 3), (149, .getfield 115, 3), (152, .invokevirtual 119, 3)] = true := by decide +kernel
theorem dX10_count_0 : decode cX10_count 0 = .ok (.iload_n 1, 1) := ckS_g gdX10_count_0 0 rfl
theorem dX10_count_68 : decode cX10_count 68 = .ok (.aload_n 0, 1) := ckS_g gdX10_count_0 1 rfl
theorem dX10_count_69 : decode cX10_count 69 = .ok (.getfield 10, 3) := ckS_g gdX10_count_0 2 rfl
theorem dX10_count_72 : decode cX10_count 72 = .ok (.getfield 88, 3) := ckS_g gdX10_count_0 3 rfl
theorem dX10_count_75 : decode cX10_count 75 = .ok (.getfield 92, 3) := ckS_g gdX10_count_0 4 rfl
theorem dX10_count_78 : decode cX10_count 78 = .ok (.ireturn, 1) := ckS_g gdX10_count_0 5 rfl
theorem dX10_count_79 : decode cX10_count 79 = .ok (.aload_n 0, 1) := ckS_g gdX10_count_0 6 rfl
theorem dX10_count_80 : decode cX10_count 80 = .ok (.getfield 10, 3) := ckS_g gdX10_count_0 7 rfl
theorem dX10_count_83 : decode cX10_count 83 = .ok (.getfield 88, 3) := ckS_g gdX10_count_0 8 rfl
theorem dX10_count_86 : decode cX10_count 86 = .ok (.getfield 97, 3) := ckS_g gdX10_count_0 9 rfl
theorem dX10_count_89 : decode cX10_count 89 = .ok (.ireturn, 1) := ckS_g gdX10_count_0 10 rfl
theorem dX10_count_90 : decode cX10_count 90 = .ok (.aload_n 0, 1) := ckS_g gdX10_count_0 11 rfl
theorem dX10_count_91 : decode cX10_count 91 = .ok (.getfield 10, 3) := ckS_g gdX10_count_0 12 rfl
theorem dX10_count_94 : decode cX10_count 94 = .ok (.getfield 88, 3) := ckS_g gdX10_count_0 13 rfl
theorem dX10_count_97 : decode cX10_count 97 = .ok (.getfield 100, 3) := ckS_g gdX10_count_0 14 rfl
theorem dX10_count_100 : decode cX10_count 100 = .ok (.ireturn, 1) := ckS_g gdX10_count_0 15 rfl
theorem dX10_count_101 : decode cX10_count 101 = .ok (.aload_n 0, 1) := ckS_g gdX10_count_0 16 rfl
theorem dX10_count_102 : decode cX10_count 102 = .ok (.getfield 10, 3) := ckS_g gdX10_count_0 17 rfl
theorem dX10_count_105 : decode cX10_count 105 = .ok (.getfield 88, 3) := ckS_g gdX10_count_0 18 rfl
theorem dX10_count_108 : decode cX10_count 108 = .ok (.getfield 103, 3) := ckS_g gdX10_count_0 19 rfl
theorem dX10_count_111 : decode cX10_count 111 = .ok (.ireturn, 1) := ckS_g gdX10_count_0 20 rfl
theorem dX10_count_112 : decode cX10_count 112 = .ok (.aload_n 0, 1) := ckS_g gdX10_count_0 21 rfl
theorem dX10_count_113 : decode cX10_count 113 = .ok (.getfield 10, 3) := ckS_g gdX10_count_0 22 rfl
theorem dX10_count_116 : decode cX10_count 116 = .ok (.getfield 88, 3) := ckS_g gdX10_count_0 23 rfl
theorem dX10_count_119 : decode cX10_count 119 = .ok (.getfield 106, 3) := ckS_g gdX10_count_0 24 rfl
theorem dX10_count_122 : decode cX10_count 122 = .ok (.ireturn, 1) := ckS_g gdX10_count_0 25 rfl
theorem dX10_count_123 : decode cX10_count 123 = .ok (.aload_n 0, 1) := ckS_g gdX10_count_0 26 rfl
theorem dX10_count_124 : decode cX10_count 124 = .ok (.getfield 10, 3) := ckS_g gdX10_count_0 27 rfl
theorem dX10_count_127 : decode cX10_count 127 = .ok (.getfield 88, 3) := ckS_g gdX10_count_0 28 rfl
theorem dX10_count_130 : decode cX10_count 130 = .ok (.getfield 109, 3) := ckS_g gdX10_count_0 29 rfl
theorem dX10_count_133 : decode cX10_count 133 = .ok (.ireturn, 1) := ckS_g gdX10_count_0 30 rfl
theorem dX10_count_134 : decode cX10_count 134 = .ok (.aload_n 0, 1) := ckS_g gdX10_count_0 31 rfl
theorem dX10_count_135 : decode cX10_count 135 = .ok (.getfield 10, 3) := ckS_g gdX10_count_0 32 rfl
theorem dX10_count_138 : decode cX10_count 138 = .ok (.getfield 46, 3) := ckS_g gdX10_count_0 33 rfl
theorem dX10_count_141 : decode cX10_count 141 = .ok (.getfield 112, 3) := ckS_g gdX10_count_0 34 rfl
theorem dX10_count_144 : decode cX10_count 144 = .ok (.ireturn, 1) := ckS_g gdX10_count_0 35 rfl
theorem dX10_count_145 : decode cX10_count 145 = .ok (.aload_n 0, 1) := ckS_g gdX10_count_0 36 rfl
theorem dX10_count_146 : decode cX10_count 146 = .ok (.getfield 10, 3) := ckS_g gdX10_count_0 37 rfl
theorem dX10_count_149 : decode cX10_count 149 = .ok (.getfield 115, 3) := ckS_g gdX10_count_0 38 rfl
theorem dX10_count_152 : decode cX10_count 152 = .ok (.invokevirtual 119, 3) := ckS_g gdX10_count_0 39 rfl
theorem gdX10_count_155 : ckS (List.drop 155 cX10_count.data.toList) 155 [(155, .ireturn, 1), (156, .aload_n 0, 1), (157, .getfield 10, 3), (160, .getfield 123, 3), (163, .getfield 126, 3), (166, .ireturn, 1), (167, .aload_n 0, 1), (168, .getfield 10, 3), (171, .getfield 83, 3), (174, .getfield 126, 3), (177, .ireturn, 1), (178, .aload_n 0, 1), (179, .getfield 10, 3), (182, .getfield 127, 3), (185, .ifCond .ne 7, 3), (188, .iconst (-1), 1), (189, .goto 13, 3), (192, .aload_n 0, 1), (193, .getfield 10, 3), (196, .getfield 130, 3), (199, .getfield 134, 3), (202, .ireturn, 1), (203, .aload_n 0, 1), (204, .getfield 10, 3), (207, .getfield 127, 3), (210, .ireturn, 1), (211, .aload_n 0, 1), (212, .getfield 24, 3), (215, .getfield 126, 3), (218, .ireturn, 1), (219, .iconst (-1), 1), (220, .ireturn, 1)] = true := by decide +kernel
theorem dX10_count_155 : decode cX10_count 155 = .ok (.ireturn, 1) := ckS_g gdX10_count_155 0 rfl
theorem dX10_count_156 : decode cX10_count 156 = .ok (.aload_n 0, 1) := ckS_g gdX10_count_155 1 rfl
theorem dX10_count_157 : decode cX10_count 157 = .ok (.getfield 10, 3) := ckS_g gdX10_count_155 2 rfl
theorem dX10_count_160 : decode cX10_count 160 = .ok (.getfield 123, 3) := ckS_g gdX10_count_155 3 rfl
theorem dX10_count_163 : decode cX10_count 163 = .ok (.getfield 126, 3) := ckS_g gdX10_count_155 4 rfl
theorem dX10_count_166 : decode cX10_count 166 = .ok (.ireturn, 1) := ckS_g gdX10_count_155 5 rfl
theorem dX10_count_167 : decode cX10_count 167 = .ok (.aload_n 0, 1) := ckS_g gdX10_count_155 6 rfl
theorem dX10_count_168 : decode cX10_count 168 = .ok (.getfield 10, 3) := ckS_g gdX10_count_155 7 rfl
theorem dX10_count_171 : decode cX10_count 171 = .ok (.getfield 83, 3) := ckS_g gdX10_count_155 8 rfl
theorem dX10_count_174 : decode cX10_count 174 = .ok (.getfield 126, 3) := ckS_g gdX10_count_155 9 rfl
theorem dX10_count_177 : decode cX10_count 177 = .ok (.ireturn, 1) := ckS_g gdX10_count_155 10 rfl
theorem dX10_count_178 : decode cX10_count 178 = .ok (.aload_n 0, 1) := ckS_g gdX10_count_155 11 rfl
theorem dX10_count_179 : decode cX10_count 179 = .ok (.getfield 10, 3) := ckS_g gdX10_count_155 12 rfl
theorem dX10_count_182 : decode cX10_count 182 = .ok (.getfield 127, 3) := ckS_g gdX10_count_155 13 rfl
theorem dX10_count_185 : decode cX10_count 185 = .ok (.ifCond .ne 7, 3) := ckS_g gdX10_count_155 14 rfl
theorem dX10_count_188 : decode cX10_count 188 = .ok (.iconst (-1), 1) := ckS_g gdX10_count_155 15 rfl
theorem dX10_count_189 : decode cX10_count 189 = .ok (.goto 13, 3) := ckS_g gdX10_count_155 16 rfl
theorem dX10_count_192 : decode cX10_count 192 = .ok (.aload_n 0, 1) := ckS_g gdX10_count_155 17 rfl
theorem dX10_count_193 : decode cX10_count 193 = .ok (.getfield 10, 3) := ckS_g gdX10_count_155 18 rfl
theorem dX10_count_196 : decode cX10_count 196 = .ok (.getfield 130, 3) := ckS_g gdX10_count_155 19 rfl
theorem dX10_count_199 : decode cX10_count 199 = .ok (.getfield 134, 3) := ckS_g gdX10_count_155 20 rfl
theorem dX10_count_202 : decode cX10_count 202 = .ok (.ireturn, 1) := ckS_g gdX10_count_155 21 rfl
theorem dX10_count_203 : decode cX10_count 203 = .ok (.aload_n 0, 1) := ckS_g gdX10_count_155 22 rfl
theorem dX10_count_204 : decode cX10_count 204 = .ok (.getfield 10, 3) := ckS_g gdX10_count_155 23 rfl
theorem dX10_count_207 : decode cX10_count 207 = .ok (.getfield 127, 3) := ckS_g gdX10_count_155 24 rfl
theorem dX10_count_210 : decode cX10_count 210 = .ok (.ireturn, 1) := ckS_g gdX10_count_155 25 rfl
theorem dX10_count_211 : decode cX10_count 211 = .ok (.aload_n 0, 1) := ckS_g gdX10_count_155 26 rfl
theorem dX10_count_212 : decode cX10_count 212 = .ok (.getfield 24, 3) := ckS_g gdX10_count_155 27 rfl
theorem dX10_count_215 : decode cX10_count 215 = .ok (.getfield 126, 3) := ckS_g gdX10_count_155 28 rfl
theorem dX10_count_218 : decode cX10_count 218 = .ok (.ireturn, 1) := ckS_g gdX10_count_155 29 rfl
theorem dX10_count_219 : decode cX10_count 219 = .ok (.iconst (-1), 1) := ckS_g gdX10_count_155 30 rfl
theorem dX10_count_220 : decode cX10_count 220 = .ok (.ireturn, 1) := ckS_g gdX10_count_155 31 rfl
set_option maxRecDepth 100000 in
theorem zc530 : wZ (.fieldLink RX10 24 "MotionFloor" "row" "LMotionFloor$Ledger;") := ⟨wT2 (List.mem_of_getElem? (i := 1) (by decide +kernel)), Or.inl rfl⟩
set_option maxRecDepth 100000 in
theorem zc531 : wZ (.fieldLink RX10 134 "MotionFloor$Text" "size" "I") := ⟨wT1 (List.mem_of_getElem? (i := 160) (by decide +kernel)), Or.inl rfl⟩
set_option maxRecDepth 100000 in
theorem zc532 : wZ (.fieldLink RX10 130 "MotionFloor$Assembly" "adopted" "LMotionFloor$Text;") := ⟨wT1 (List.mem_of_getElem? (i := 203) (by decide +kernel)), Or.inl rfl⟩
set_option maxRecDepth 100000 in
theorem zc533 : wZ (.fieldLink RX10 127 "MotionFloor$Assembly" "adoptions" "I") := ⟨wT1 (List.mem_of_getElem? (i := 206) (by decide +kernel)), Or.inl rfl⟩
set_option maxRecDepth 100000 in
theorem zc534 : wZ (.fieldLink RX10 126 "MotionFloor$Ledger" "size" "I") := ⟨wT1 (List.mem_of_getElem? (i := 136) (by decide +kernel)), Or.inl rfl⟩
set_option maxRecDepth 100000 in
theorem zc535 : wZ (.fieldLink RX10 123 "MotionFloor$Assembly" "minutes" "LMotionFloor$Ledger;") := ⟨wT1 (List.mem_of_getElem? (i := 197) (by decide +kernel)), Or.inl rfl⟩
set_option maxRecDepth 100000 in
theorem zc536 : wZ (.methodLink RX10 119 yX6_kind) := ⟨wT4 (List.mem_of_getElem? (i := 182) (by decide +kernel)), Or.inl rfl⟩
set_option maxRecDepth 100000 in
theorem zc537 : wZ (.fieldLink RX10 115 "MotionFloor$Assembly" "draft" "LMotionFloor$Place;") := ⟨wT1 (List.mem_of_getElem? (i := 191) (by decide +kernel)), Or.inl rfl⟩
set_option maxRecDepth 100000 in
theorem zc538 : wZ (.fieldLink RX10 112 "MotionFloor$Pile" "size" "I") := ⟨wT1 (List.mem_of_getElem? (i := 93) (by decide +kernel)), Or.inl rfl⟩
set_option maxRecDepth 100000 in
theorem zc539 : wZ (.fieldLink RX10 109 "MotionFloor$House" "speaker" "I") := ⟨wT1 (List.mem_of_getElem? (i := 57) (by decide +kernel)), Or.inl rfl⟩
set_option maxRecDepth 100000 in
theorem zc540 : wZ (.fieldLink RX10 106 "MotionFloor$House" "limit" "I") := ⟨wT1 (List.mem_of_getElem? (i := 52) (by decide +kernel)), Or.inl rfl⟩
set_option maxRecDepth 100000 in
theorem zc541 : wZ (.fieldLink RX10 103 "MotionFloor$House" "quorum" "I") := ⟨wT1 (List.mem_of_getElem? (i := 48) (by decide +kernel)), Or.inl rfl⟩
set_option maxRecDepth 100000 in
theorem zc542 : wZ (.fieldLink RX10 100 "MotionFloor$House" "chair" "I") := ⟨wT1 (List.mem_of_getElem? (i := 45) (by decide +kernel)), Or.inl rfl⟩
set_option maxRecDepth 100000 in
theorem zc543 : wZ (.fieldLink RX10 97 "MotionFloor$House" "present" "I") := ⟨wT1 (List.mem_of_getElem? (i := 41) (by decide +kernel)), Or.inl rfl⟩
set_option maxRecDepth 100000 in
theorem zc544 : wZ (.fieldLink RX10 92 "MotionFloor$House" "seats" "I") := ⟨wT1 (List.mem_of_getElem? (i := 38) (by decide +kernel)), Or.inl rfl⟩
set_option maxRecDepth 100000 in
theorem zc545 : wZ (.fieldLink RX10 88 "MotionFloor$Assembly" "house" "LMotionFloor$House;") := ⟨wT1 (List.mem_of_getElem? (i := 181) (by decide +kernel)), Or.inl rfl⟩
set_option maxRecDepth 100000 in
theorem zc546 : wZ (.code yX10_count cX10_count 2 (some .int)) := ⟨wT4 (List.mem_of_getElem? (i := 181) rfl), Or.inl rfl⟩
def b_Y10_count_202 (S : Cst) (x0 : Nat) (x1 : Int32) (y0 : Int32) : Int32 := y0
def q_Y10_count_202 (S : Cst) (x0 : Nat) (x1 : Int32) (y0 : Int32) : Prop := True
def f_Y10_count (S : Cst) (x0 : Nat) (x1 : Int32) : Int32 := if x1 = 0 then (giC S ((grC S ((grC S x0 0).getD 0) 0).getD 0) 0) else if x1 = 1 then (giC S ((grC S ((grC S x0 0).getD 0) 0).getD 0) 2) else if x1 = 2 then (giC S ((grC S ((grC S x0 0).getD 0) 0).getD 0) 3) else if x1 = 3 then (giC S ((grC S ((grC S x0 0).getD 0) 0).getD 0) 4) else if x1 = 4 then (giC S ((grC S ((grC S x0 0).getD 0) 0).getD 0) 5) else if x1 = 5 then (giC S ((grC S ((grC S x0 0).getD 0) 0).getD 0) 6) else if x1 = 6 then (giC S ((grC S ((grC S x0 0).getD 0) 1).getD 0) 1) else if x1 = 7 then (f_Y6_kind S ((grC S ((grC S x0 0).getD 0) 2).getD 0)) else if x1 = 8 then (giC S ((grC S ((grC S x0 0).getD 0) 4).getD 0) 3) else if x1 = 9 then (giC S ((grC S ((grC S x0 0).getD 0) 5).getD 0) 3) else if x1 = 10 then if (giC S ((grC S x0 0).getD 0) 7) = 0 then (b_Y10_count_202 S x0 x1 (-1)) else (b_Y10_count_202 S x0 x1 (giC S ((grC S ((grC S x0 0).getD 0) 6).getD 0) 1)) else if x1 = 11 then (giC S ((grC S x0 0).getD 0) 7) else if x1 = 12 then (giC S ((grC S x0 4).getD 0) 3) else ((-1) : Int32)
def p_Y10_count (S : Cst) (x0 : Nat) (x1 : Int32) : Prop := (if x1 = 0 then (iR S (grC S x0 0) 0) ∧ (iR S (grC S ((grC S x0 0).getD 0) 0) 1) ∧ True else (if x1 = 1 then (iR S (grC S x0 0) 0) ∧ (iR S (grC S ((grC S x0 0).getD 0) 0) 1) ∧ True else (if x1 = 2 then (iR S (grC S x0 0) 0) ∧ (iR S (grC S ((grC S x0 0).getD 0) 0) 1) ∧ True else (if x1 = 3 then (iR S (grC S x0 0) 0) ∧ (iR S (grC S ((grC S x0 0).getD 0) 0) 1) ∧ True else (if x1 = 4 then (iR S (grC S x0 0) 0) ∧ (iR S (grC S ((grC S x0 0).getD 0) 0) 1) ∧ True else (if x1 = 5 then (iR S (grC S x0 0) 0) ∧ (iR S (grC S ((grC S x0 0).getD 0) 0) 1) ∧ True else (if x1 = 6 then (iR S (grC S x0 0) 0) ∧ (iR S (grC S ((grC S x0 0).getD 0) 1) 4) ∧ True else (if x1 = 7 then (iR S (grC S x0 0) 0) ∧ (iR S (grC S ((grC S x0 0).getD 0) 2) 5) ∧ (p_Y6_kind S ((grC S ((grC S x0 0).getD 0) 2).getD 0)) ∧ True else (if x1 = 8 then (iR S (grC S x0 0) 0) ∧ (iR S (grC S ((grC S x0 0).getD 0) 4) 2) ∧ True else (if x1 = 9 then (iR S (grC S x0 0) 0) ∧ (iR S (grC S ((grC S x0 0).getD 0) 5) 2) ∧ True else (if x1 = 10 then (iR S (grC S x0 0) 0) ∧ (if (giC S ((grC S x0 0).getD 0) 7) = 0 then (q_Y10_count_202 S x0 x1 (-1)) else (iR S (grC S x0 0) 0) ∧ (iR S (grC S ((grC S x0 0).getD 0) 6) 6) ∧ (q_Y10_count_202 S x0 x1 (giC S ((grC S ((grC S x0 0).getD 0) 6).getD 0) 1))) else (if x1 = 11 then (iR S (grC S x0 0) 0) ∧ True else (if x1 = 12 then (iR S (grC S x0 4) 2) ∧ True else True)))))))))))))
def e_Y10_count : List Cond := [.fieldLink RX10 10 "MotionFloor" "now" "LMotionFloor$Assembly;", .fieldLink RX10 88 "MotionFloor$Assembly" "house" "LMotionFloor$House;", .fieldLink RX10 92 "MotionFloor$House" "seats" "I", .fieldLink RX10 97 "MotionFloor$House" "present" "I", .fieldLink RX10 100 "MotionFloor$House" "chair" "I", .fieldLink RX10 103 "MotionFloor$House" "quorum" "I", .fieldLink RX10 106 "MotionFloor$House" "limit" "I", .fieldLink RX10 109 "MotionFloor$House" "speaker" "I", .fieldLink RX10 46 "MotionFloor$Assembly" "pending" "LMotionFloor$Pile;", .fieldLink RX10 112 "MotionFloor$Pile" "size" "I", .fieldLink RX10 115 "MotionFloor$Assembly" "draft" "LMotionFloor$Place;", .methodLink RX10 119 yX6_kind, .instanceMethod yX6_kind, .selects RX6 yX6_kind yX6_kind, .initialized RX6, .fieldLink RX10 123 "MotionFloor$Assembly" "minutes" "LMotionFloor$Ledger;", .fieldLink RX10 126 "MotionFloor$Ledger" "size" "I", .fieldLink RX10 83 "MotionFloor$Assembly" "results" "LMotionFloor$Ledger;", .fieldLink RX10 127 "MotionFloor$Assembly" "adoptions" "I", .fieldLink RX10 130 "MotionFloor$Assembly" "adopted" "LMotionFloor$Text;", .fieldLink RX10 134 "MotionFloor$Text" "size" "I", .fieldLink RX10 24 "MotionFloor" "row" "LMotionFloor$Ledger;"]
def v_Y10_count : List Cond := .code yX10_count cX10_count 2 (some .int) :: (e_Y10_count ++ (wsX100 ++ (wsX00 ++ (wsX20 ++ (wsX50 ++ (wsX30 ++ (wsX90 ++ (v_Y6_kind ++ []))))))))
theorem te_Y10_count : GoodIn lw_tbl e_Y10_count := wGc zc496 (wGc zc545 (wGc zc544 (wGc zc543 (wGc zc542 (wGc zc541 (wGc zc540 (wGc zc539 (wGc zc507 (wGc zc538 (wGc zc537 (wGc zc536 (wGc zc189 (wGc zc188 (wGc zc112 (wGc zc535 (wGc zc534 (wGc zc528 (wGc zc533 (wGc zc532 (wGc zc531 (wGc zc530 (wG0))))))))))))))))))))))
theorem t_Y10_count : GoodIn lw_tbl v_Y10_count := wGc zc546 (wGa te_Y10_count (wGa zcX10 (wGa zcX0 (wGa zcX2 (wGa zcX5 (wGa zcX3 (wGa zcX9 (wGa t_Y6_kind (wG0)))))))))
set_option maxHeartbeats 4000000 in
set_option maxRecDepth 100000 in
theorem c_Y10_count (l : Launch) (G : va_G) (K : Nat → ClassId) (ad : Nat → Nat) (S : Cst) (x0 : Nat) (a1 : Int32) (sz : Nat) : Met l yX10_count v_Y10_count ({ frames := 2, cells := 0, slots := 0, locals := 42 }) (va_Pc [.ref (ad x0), .int a1] (cSt G K ad sz S (iK S x0 7 ∧ p_Y10_count S x0 a1))) (va_Qi (fun (r : Int32) (u : Cst) => (r, u) = (f_Y10_count S x0 a1, S)) (cBt G K ad (va_A (wsC K ad S) sz)) (va_A (wsC K ad S) sz)) 0 0 (va_A (wsC K ad S) sz) := by
  refine Met.ofW (cc := cX10_count) (maxL := 2) (ret := (some .int)) (by decide) rfl ?_
  intro p e s m args below meth c s₁ B hml hv
  obtain ⟨rfl, ⟨hsz, hP, hK, hD0, hTE⟩, hp⟩ := hv
  obtain ⟨k_x0, hp⟩ := hp
  have hx := B.exec
  have hb := B.bytes
  have hr := B.returns
  have hts := atoms_spec (ws := v_Y10_count) B.pre
  have t_ := t_Y10_count
  have mw : ∀ w ∈ e_Y10_count, w ∈ v_Y10_count := fun w h => List.mem_cons_of_mem _ (List.mem_append_left _ h)
  have hw := fun w (h : w ∈ e_Y10_count) => hts w (mw w h)
  have iX10 : ∀ w ∈ wsX100, w ∈ v_Y10_count := fun w h => List.mem_cons_of_mem _ (List.mem_append_right _ (List.mem_append_left _ h))
  have iX0 : ∀ w ∈ wsX00, w ∈ v_Y10_count := fun w h => List.mem_cons_of_mem _ (List.mem_append_right _ (List.mem_append_right _ (List.mem_append_left _ h)))
  have iX2 : ∀ w ∈ wsX20, w ∈ v_Y10_count := fun w h => List.mem_cons_of_mem _ (List.mem_append_right _ (List.mem_append_right _ (List.mem_append_right _ (List.mem_append_left _ h))))
  have iX5 : ∀ w ∈ wsX50, w ∈ v_Y10_count := fun w h => List.mem_cons_of_mem _ (List.mem_append_right _ (List.mem_append_right _ (List.mem_append_right _ (List.mem_append_right _ (List.mem_append_left _ h)))))
  have iX3 : ∀ w ∈ wsX30, w ∈ v_Y10_count := fun w h => List.mem_cons_of_mem _ (List.mem_append_right _ (List.mem_append_right _ (List.mem_append_right _ (List.mem_append_right _ (List.mem_append_right _ (List.mem_append_left _ h))))))
  have iX9 : ∀ w ∈ wsX90, w ∈ v_Y10_count := fun w h => List.mem_cons_of_mem _ (List.mem_append_right _ (List.mem_append_right _ (List.mem_append_right _ (List.mem_append_right _ (List.mem_append_right _ (List.mem_append_right _ (List.mem_append_left _ h)))))))
  have j_Y6_kind : ∀ w ∈ v_Y6_kind, w ∈ v_Y10_count := fun w h => List.mem_cons_of_mem _ (List.mem_append_right _ (List.mem_append_right _ (List.mem_append_right _ (List.mem_append_right _ (List.mem_append_right _ (List.mem_append_right _ (List.mem_append_right _ (List.mem_append_left _ h))))))))
  have hown : s.vm.findClass RX10 = some m.cls := findClass_of_methodNamed B.named
  have hlocks := B.notSynchronized
  subst hsz
  have hD := hD0.self (sz := s.heap.size)
  generalize hAe : va_A (wsC K ad S) s.heap.size = A at hD ⊢
  have hA : ∀ q : Nat, s.heap.size ≤ q → A q := fun q h => by rw [← hAe]; exact Or.inr h
  have hS : va_S A s.heap s.heap [] := va_S.rf
  have hl : lv_has (lg_sl ([.ref (ad x0), .int a1]) ++ List.replicate (2 - (lg_sl ([.ref (ad x0), .int a1])).length) Slot.unset).toArray 2 [(0, .ref (ad x0)), (1, .int a1)] := by
    exact lv_entry ([.ref (ad x0), .int a1]) (n := 2) (Nat.le_of_ble_eq_true rfl)
  rw [lg_entry_eq]
  generalize (lg_sl ([.ref (ad x0), .int a1]) ++ List.replicate (2 - (lg_sl ([.ref (ad x0), .int a1])).length) Slot.unset).toArray = ls_ at hl ⊢
  refine wGen (fun Q hQ => ?_)
  obtain ⟨X, hX⟩ : ∃ X, f_Y10_count S x0 a1 = X := ⟨_, rfl⟩
  have B_Y10_count_202 : ∀ (x1 : Int32) (y0 : Int32) (H : Heap) (locs : List Loc) (ls_ : Array Slot), b_Y10_count_202 S x0 x1 y0 = X → q_Y10_count_202 S x0 x1 y0 → va_P G vwCl (wsC K ad S) H → va_D A (wsC K ad S) → va_S A s.heap H locs → lv_has ls_ 2 [(0, .ref (ad x0)), (1, .int x1)] → W p l e ({ frames := 2, cells := 0, slots := 0, locals := 42 } : Room) s m #[Value.ref (ad x0), Value.int a1] below meth c H locs 0 0 Q (F0 m 202 ls_ [.int y0]) := by
    intro x1 y0 H locs ls_ hE hp hP hD hS hl
    unfold b_Y10_count_202 at hE
    unfold q_Y10_count_202 at hp
    subst hQ
    exact W.iret (v := y0) hx hb hr (fun t ht hW => ⟨⟨y0, S, rfl, (pair_i (hE.trans hX.symm)), by rw [ht]; exact hP, hD⟩, hS.F ht⟩) hS.2.2 dX10_count_202
  have B_M : ∀ (x1 : Int32) (H : Heap) (locs : List Loc) (ls_ : Array Slot), f_Y10_count S x0 x1 = X → p_Y10_count S x0 x1 → va_P G vwCl (wsC K ad S) H → va_D A (wsC K ad S) → va_S A s.heap H locs → lv_has ls_ 2 [(0, .ref (ad x0)), (1, .int x1)] → W p l e ({ frames := 2, cells := 0, slots := 0, locals := 42 } : Room) s m #[Value.ref (ad x0), Value.int a1] below meth c H locs 0 0 Q (F0 m 0 ls_ []) := by
    intro x1 H locs ls_ hE hp hP hD hS hl
    unfold f_Y10_count at hE
    unfold p_Y10_count at hp
    refine lv_iload_n hx hb dX10_count_0 rfl (lv_at hl 1 rfl) ?_
    by_cases s0 : x1 = 0
    · rw [if_pos s0] at hE hp
      refine lv_tableIn (off := 67) (tgt := 68) hx hb dX10_count_1 (by rw [s0]; decide) (by rw [s0]; decide) (by rw [s0]; decide) (by decide) ?_
      refine lv_aload_n hx hb dX10_count_68 rfl (lv_at hl 0 rfl) ?_
      refine va_get (D := G) (ci := 7) (v := va_re ad (grC S x0 0)) (C := RX10) (T := TX10) (N := 5) hx hb hts iX10 hown hK hP x0 (at_7 k_x0) rfl 0 (by decide) (hw (.fieldLink RX10 10 "MotionFloor" "now" "LMotionFloor$Assembly;") (List.mem_of_getElem? (i := 0) rfl)) (fun _ h9 => h9) rfl dX10_count_69 ?_
      obtain ⟨hy1, hp⟩ := hp
      refine cTop (r := (grC S x0 0)) hy1.1 ?_
      refine va_get (D := G) (ci := 0) (v := va_re ad (grC S ((grC S x0 0).getD 0) 0)) (C := RX0) (T := TX0) (N := 11) hx hb hts iX0 hown hK hP ((grC S x0 0).getD 0) (at_0 hy1.2) rfl 0 (by decide) (hw (.fieldLink RX10 88 "MotionFloor$Assembly" "house" "LMotionFloor$House;") (List.mem_of_getElem? (i := 1) rfl)) (fun _ h9 => h9) rfl dX10_count_72 ?_
      obtain ⟨hy2, hp⟩ := hp
      refine cTop (r := (grC S ((grC S x0 0).getD 0) 0)) hy2.1 ?_
      refine va_get (D := G) (ci := 1) (v := .int (giC S ((grC S ((grC S x0 0).getD 0) 0).getD 0) 0)) (C := RX2) (T := TX2) (N := 8) hx hb hts iX2 hown hK hP ((grC S ((grC S x0 0).getD 0) 0).getD 0) (at_1 hy2.2) rfl 0 (by decide) (hw (.fieldLink RX10 92 "MotionFloor$House" "seats" "I") (List.mem_of_getElem? (i := 2) rfl)) (fun _ h9 => h9) rfl dX10_count_75 ?_
      subst hQ
      exact W.iret (v := (giC S ((grC S ((grC S x0 0).getD 0) 0).getD 0) 0)) hx hb hr (fun t ht hW => ⟨⟨(giC S ((grC S ((grC S x0 0).getD 0) 0).getD 0) 0), S, rfl, (pair_i (hE.trans hX.symm)), by rw [ht]; exact hP, hD⟩, hS.F ht⟩) hS.2.2 dX10_count_78
    rw [if_neg s0] at hE hp
    have s0 := wNe (b := 0) rfl (by decide) s0
    by_cases s1 : x1 = 1
    · rw [if_pos s1] at hE hp
      refine lv_tableIn (off := 78) (tgt := 79) hx hb dX10_count_1 (by rw [s1]; decide) (by rw [s1]; decide) (by rw [s1]; decide) (by decide) ?_
      refine lv_aload_n hx hb dX10_count_79 rfl (lv_at hl 0 rfl) ?_
      refine va_get (D := G) (ci := 7) (v := va_re ad (grC S x0 0)) (C := RX10) (T := TX10) (N := 5) hx hb hts iX10 hown hK hP x0 (at_7 k_x0) rfl 0 (by decide) (hw (.fieldLink RX10 10 "MotionFloor" "now" "LMotionFloor$Assembly;") (List.mem_of_getElem? (i := 0) rfl)) (fun _ h9 => h9) rfl dX10_count_80 ?_
      obtain ⟨hy3, hp⟩ := hp
      refine cTop (r := (grC S x0 0)) hy3.1 ?_
      refine va_get (D := G) (ci := 0) (v := va_re ad (grC S ((grC S x0 0).getD 0) 0)) (C := RX0) (T := TX0) (N := 11) hx hb hts iX0 hown hK hP ((grC S x0 0).getD 0) (at_0 hy3.2) rfl 0 (by decide) (hw (.fieldLink RX10 88 "MotionFloor$Assembly" "house" "LMotionFloor$House;") (List.mem_of_getElem? (i := 1) rfl)) (fun _ h9 => h9) rfl dX10_count_83 ?_
      obtain ⟨hy4, hp⟩ := hp
      refine cTop (r := (grC S ((grC S x0 0).getD 0) 0)) hy4.1 ?_
      refine va_get (D := G) (ci := 1) (v := .int (giC S ((grC S ((grC S x0 0).getD 0) 0).getD 0) 2)) (C := RX2) (T := TX2) (N := 8) hx hb hts iX2 hown hK hP ((grC S ((grC S x0 0).getD 0) 0).getD 0) (at_1 hy4.2) rfl 2 (by decide) (hw (.fieldLink RX10 97 "MotionFloor$House" "present" "I") (List.mem_of_getElem? (i := 3) rfl)) (fun _ h9 => h9) rfl dX10_count_86 ?_
      subst hQ
      exact W.iret (v := (giC S ((grC S ((grC S x0 0).getD 0) 0).getD 0) 2)) hx hb hr (fun t ht hW => ⟨⟨(giC S ((grC S ((grC S x0 0).getD 0) 0).getD 0) 2), S, rfl, (pair_i (hE.trans hX.symm)), by rw [ht]; exact hP, hD⟩, hS.F ht⟩) hS.2.2 dX10_count_89
    rw [if_neg s1] at hE hp
    have s1 := wNe (b := 1) rfl (by decide) s1
    by_cases s2 : x1 = 2
    · rw [if_pos s2] at hE hp
      refine lv_tableIn (off := 89) (tgt := 90) hx hb dX10_count_1 (by rw [s2]; decide) (by rw [s2]; decide) (by rw [s2]; decide) (by decide) ?_
      refine lv_aload_n hx hb dX10_count_90 rfl (lv_at hl 0 rfl) ?_
      refine va_get (D := G) (ci := 7) (v := va_re ad (grC S x0 0)) (C := RX10) (T := TX10) (N := 5) hx hb hts iX10 hown hK hP x0 (at_7 k_x0) rfl 0 (by decide) (hw (.fieldLink RX10 10 "MotionFloor" "now" "LMotionFloor$Assembly;") (List.mem_of_getElem? (i := 0) rfl)) (fun _ h9 => h9) rfl dX10_count_91 ?_
      obtain ⟨hy5, hp⟩ := hp
      refine cTop (r := (grC S x0 0)) hy5.1 ?_
      refine va_get (D := G) (ci := 0) (v := va_re ad (grC S ((grC S x0 0).getD 0) 0)) (C := RX0) (T := TX0) (N := 11) hx hb hts iX0 hown hK hP ((grC S x0 0).getD 0) (at_0 hy5.2) rfl 0 (by decide) (hw (.fieldLink RX10 88 "MotionFloor$Assembly" "house" "LMotionFloor$House;") (List.mem_of_getElem? (i := 1) rfl)) (fun _ h9 => h9) rfl dX10_count_94 ?_
      obtain ⟨hy6, hp⟩ := hp
      refine cTop (r := (grC S ((grC S x0 0).getD 0) 0)) hy6.1 ?_
      refine va_get (D := G) (ci := 1) (v := .int (giC S ((grC S ((grC S x0 0).getD 0) 0).getD 0) 3)) (C := RX2) (T := TX2) (N := 8) hx hb hts iX2 hown hK hP ((grC S ((grC S x0 0).getD 0) 0).getD 0) (at_1 hy6.2) rfl 3 (by decide) (hw (.fieldLink RX10 100 "MotionFloor$House" "chair" "I") (List.mem_of_getElem? (i := 4) rfl)) (fun _ h9 => h9) rfl dX10_count_97 ?_
      subst hQ
      exact W.iret (v := (giC S ((grC S ((grC S x0 0).getD 0) 0).getD 0) 3)) hx hb hr (fun t ht hW => ⟨⟨(giC S ((grC S ((grC S x0 0).getD 0) 0).getD 0) 3), S, rfl, (pair_i (hE.trans hX.symm)), by rw [ht]; exact hP, hD⟩, hS.F ht⟩) hS.2.2 dX10_count_100
    rw [if_neg s2] at hE hp
    have s2 := wNe (b := 2) rfl (by decide) s2
    by_cases s3 : x1 = 3
    · rw [if_pos s3] at hE hp
      refine lv_tableIn (off := 100) (tgt := 101) hx hb dX10_count_1 (by rw [s3]; decide) (by rw [s3]; decide) (by rw [s3]; decide) (by decide) ?_
      refine lv_aload_n hx hb dX10_count_101 rfl (lv_at hl 0 rfl) ?_
      refine va_get (D := G) (ci := 7) (v := va_re ad (grC S x0 0)) (C := RX10) (T := TX10) (N := 5) hx hb hts iX10 hown hK hP x0 (at_7 k_x0) rfl 0 (by decide) (hw (.fieldLink RX10 10 "MotionFloor" "now" "LMotionFloor$Assembly;") (List.mem_of_getElem? (i := 0) rfl)) (fun _ h9 => h9) rfl dX10_count_102 ?_
      obtain ⟨hy7, hp⟩ := hp
      refine cTop (r := (grC S x0 0)) hy7.1 ?_
      refine va_get (D := G) (ci := 0) (v := va_re ad (grC S ((grC S x0 0).getD 0) 0)) (C := RX0) (T := TX0) (N := 11) hx hb hts iX0 hown hK hP ((grC S x0 0).getD 0) (at_0 hy7.2) rfl 0 (by decide) (hw (.fieldLink RX10 88 "MotionFloor$Assembly" "house" "LMotionFloor$House;") (List.mem_of_getElem? (i := 1) rfl)) (fun _ h9 => h9) rfl dX10_count_105 ?_
      obtain ⟨hy8, hp⟩ := hp
      refine cTop (r := (grC S ((grC S x0 0).getD 0) 0)) hy8.1 ?_
      refine va_get (D := G) (ci := 1) (v := .int (giC S ((grC S ((grC S x0 0).getD 0) 0).getD 0) 4)) (C := RX2) (T := TX2) (N := 8) hx hb hts iX2 hown hK hP ((grC S ((grC S x0 0).getD 0) 0).getD 0) (at_1 hy8.2) rfl 4 (by decide) (hw (.fieldLink RX10 103 "MotionFloor$House" "quorum" "I") (List.mem_of_getElem? (i := 5) rfl)) (fun _ h9 => h9) rfl dX10_count_108 ?_
      subst hQ
      exact W.iret (v := (giC S ((grC S ((grC S x0 0).getD 0) 0).getD 0) 4)) hx hb hr (fun t ht hW => ⟨⟨(giC S ((grC S ((grC S x0 0).getD 0) 0).getD 0) 4), S, rfl, (pair_i (hE.trans hX.symm)), by rw [ht]; exact hP, hD⟩, hS.F ht⟩) hS.2.2 dX10_count_111
    rw [if_neg s3] at hE hp
    have s3 := wNe (b := 3) rfl (by decide) s3
    by_cases s4 : x1 = 4
    · rw [if_pos s4] at hE hp
      refine lv_tableIn (off := 111) (tgt := 112) hx hb dX10_count_1 (by rw [s4]; decide) (by rw [s4]; decide) (by rw [s4]; decide) (by decide) ?_
      refine lv_aload_n hx hb dX10_count_112 rfl (lv_at hl 0 rfl) ?_
      refine va_get (D := G) (ci := 7) (v := va_re ad (grC S x0 0)) (C := RX10) (T := TX10) (N := 5) hx hb hts iX10 hown hK hP x0 (at_7 k_x0) rfl 0 (by decide) (hw (.fieldLink RX10 10 "MotionFloor" "now" "LMotionFloor$Assembly;") (List.mem_of_getElem? (i := 0) rfl)) (fun _ h9 => h9) rfl dX10_count_113 ?_
      obtain ⟨hy9, hp⟩ := hp
      refine cTop (r := (grC S x0 0)) hy9.1 ?_
      refine va_get (D := G) (ci := 0) (v := va_re ad (grC S ((grC S x0 0).getD 0) 0)) (C := RX0) (T := TX0) (N := 11) hx hb hts iX0 hown hK hP ((grC S x0 0).getD 0) (at_0 hy9.2) rfl 0 (by decide) (hw (.fieldLink RX10 88 "MotionFloor$Assembly" "house" "LMotionFloor$House;") (List.mem_of_getElem? (i := 1) rfl)) (fun _ h9 => h9) rfl dX10_count_116 ?_
      obtain ⟨hy10, hp⟩ := hp
      refine cTop (r := (grC S ((grC S x0 0).getD 0) 0)) hy10.1 ?_
      refine va_get (D := G) (ci := 1) (v := .int (giC S ((grC S ((grC S x0 0).getD 0) 0).getD 0) 5)) (C := RX2) (T := TX2) (N := 8) hx hb hts iX2 hown hK hP ((grC S ((grC S x0 0).getD 0) 0).getD 0) (at_1 hy10.2) rfl 5 (by decide) (hw (.fieldLink RX10 106 "MotionFloor$House" "limit" "I") (List.mem_of_getElem? (i := 6) rfl)) (fun _ h9 => h9) rfl dX10_count_119 ?_
      subst hQ
      exact W.iret (v := (giC S ((grC S ((grC S x0 0).getD 0) 0).getD 0) 5)) hx hb hr (fun t ht hW => ⟨⟨(giC S ((grC S ((grC S x0 0).getD 0) 0).getD 0) 5), S, rfl, (pair_i (hE.trans hX.symm)), by rw [ht]; exact hP, hD⟩, hS.F ht⟩) hS.2.2 dX10_count_122
    rw [if_neg s4] at hE hp
    have s4 := wNe (b := 4) rfl (by decide) s4
    by_cases s5 : x1 = 5
    · rw [if_pos s5] at hE hp
      refine lv_tableIn (off := 122) (tgt := 123) hx hb dX10_count_1 (by rw [s5]; decide) (by rw [s5]; decide) (by rw [s5]; decide) (by decide) ?_
      refine lv_aload_n hx hb dX10_count_123 rfl (lv_at hl 0 rfl) ?_
      refine va_get (D := G) (ci := 7) (v := va_re ad (grC S x0 0)) (C := RX10) (T := TX10) (N := 5) hx hb hts iX10 hown hK hP x0 (at_7 k_x0) rfl 0 (by decide) (hw (.fieldLink RX10 10 "MotionFloor" "now" "LMotionFloor$Assembly;") (List.mem_of_getElem? (i := 0) rfl)) (fun _ h9 => h9) rfl dX10_count_124 ?_
      obtain ⟨hy11, hp⟩ := hp
      refine cTop (r := (grC S x0 0)) hy11.1 ?_
      refine va_get (D := G) (ci := 0) (v := va_re ad (grC S ((grC S x0 0).getD 0) 0)) (C := RX0) (T := TX0) (N := 11) hx hb hts iX0 hown hK hP ((grC S x0 0).getD 0) (at_0 hy11.2) rfl 0 (by decide) (hw (.fieldLink RX10 88 "MotionFloor$Assembly" "house" "LMotionFloor$House;") (List.mem_of_getElem? (i := 1) rfl)) (fun _ h9 => h9) rfl dX10_count_127 ?_
      obtain ⟨hy12, hp⟩ := hp
      refine cTop (r := (grC S ((grC S x0 0).getD 0) 0)) hy12.1 ?_
      refine va_get (D := G) (ci := 1) (v := .int (giC S ((grC S ((grC S x0 0).getD 0) 0).getD 0) 6)) (C := RX2) (T := TX2) (N := 8) hx hb hts iX2 hown hK hP ((grC S ((grC S x0 0).getD 0) 0).getD 0) (at_1 hy12.2) rfl 6 (by decide) (hw (.fieldLink RX10 109 "MotionFloor$House" "speaker" "I") (List.mem_of_getElem? (i := 7) rfl)) (fun _ h9 => h9) rfl dX10_count_130 ?_
      subst hQ
      exact W.iret (v := (giC S ((grC S ((grC S x0 0).getD 0) 0).getD 0) 6)) hx hb hr (fun t ht hW => ⟨⟨(giC S ((grC S ((grC S x0 0).getD 0) 0).getD 0) 6), S, rfl, (pair_i (hE.trans hX.symm)), by rw [ht]; exact hP, hD⟩, hS.F ht⟩) hS.2.2 dX10_count_133
    rw [if_neg s5] at hE hp
    have s5 := wNe (b := 5) rfl (by decide) s5
    by_cases s6 : x1 = 6
    · rw [if_pos s6] at hE hp
      refine lv_tableIn (off := 133) (tgt := 134) hx hb dX10_count_1 (by rw [s6]; decide) (by rw [s6]; decide) (by rw [s6]; decide) (by decide) ?_
      refine lv_aload_n hx hb dX10_count_134 rfl (lv_at hl 0 rfl) ?_
      refine va_get (D := G) (ci := 7) (v := va_re ad (grC S x0 0)) (C := RX10) (T := TX10) (N := 5) hx hb hts iX10 hown hK hP x0 (at_7 k_x0) rfl 0 (by decide) (hw (.fieldLink RX10 10 "MotionFloor" "now" "LMotionFloor$Assembly;") (List.mem_of_getElem? (i := 0) rfl)) (fun _ h9 => h9) rfl dX10_count_135 ?_
      obtain ⟨hy13, hp⟩ := hp
      refine cTop (r := (grC S x0 0)) hy13.1 ?_
      refine va_get (D := G) (ci := 0) (v := va_re ad (grC S ((grC S x0 0).getD 0) 1)) (C := RX0) (T := TX0) (N := 11) hx hb hts iX0 hown hK hP ((grC S x0 0).getD 0) (at_0 hy13.2) rfl 1 (by decide) (hw (.fieldLink RX10 46 "MotionFloor$Assembly" "pending" "LMotionFloor$Pile;") (List.mem_of_getElem? (i := 8) rfl)) (fun _ h9 => h9) rfl dX10_count_138 ?_
      obtain ⟨hy14, hp⟩ := hp
      refine cTop (r := (grC S ((grC S x0 0).getD 0) 1)) hy14.1 ?_
      refine va_get (D := G) (ci := 4) (v := .int (giC S ((grC S ((grC S x0 0).getD 0) 1).getD 0) 1)) (C := RX5) (T := TX5) (N := 2) hx hb hts iX5 hown hK hP ((grC S ((grC S x0 0).getD 0) 1).getD 0) (at_4 hy14.2) rfl 1 (by decide) (hw (.fieldLink RX10 112 "MotionFloor$Pile" "size" "I") (List.mem_of_getElem? (i := 9) rfl)) (fun _ h9 => h9) rfl dX10_count_141 ?_
      subst hQ
      exact W.iret (v := (giC S ((grC S ((grC S x0 0).getD 0) 1).getD 0) 1)) hx hb hr (fun t ht hW => ⟨⟨(giC S ((grC S ((grC S x0 0).getD 0) 1).getD 0) 1), S, rfl, (pair_i (hE.trans hX.symm)), by rw [ht]; exact hP, hD⟩, hS.F ht⟩) hS.2.2 dX10_count_144
    rw [if_neg s6] at hE hp
    have s6 := wNe (b := 6) rfl (by decide) s6
    by_cases s7 : x1 = 7
    · rw [if_pos s7] at hE hp
      refine lv_tableIn (off := 144) (tgt := 145) hx hb dX10_count_1 (by rw [s7]; decide) (by rw [s7]; decide) (by rw [s7]; decide) (by decide) ?_
      refine lv_aload_n hx hb dX10_count_145 rfl (lv_at hl 0 rfl) ?_
      refine va_get (D := G) (ci := 7) (v := va_re ad (grC S x0 0)) (C := RX10) (T := TX10) (N := 5) hx hb hts iX10 hown hK hP x0 (at_7 k_x0) rfl 0 (by decide) (hw (.fieldLink RX10 10 "MotionFloor" "now" "LMotionFloor$Assembly;") (List.mem_of_getElem? (i := 0) rfl)) (fun _ h9 => h9) rfl dX10_count_146 ?_
      obtain ⟨hy15, hp⟩ := hp
      refine cTop (r := (grC S x0 0)) hy15.1 ?_
      refine va_get (D := G) (ci := 0) (v := va_re ad (grC S ((grC S x0 0).getD 0) 2)) (C := RX0) (T := TX0) (N := 11) hx hb hts iX0 hown hK hP ((grC S x0 0).getD 0) (at_0 hy15.2) rfl 2 (by decide) (hw (.fieldLink RX10 115 "MotionFloor$Assembly" "draft" "LMotionFloor$Place;") (List.mem_of_getElem? (i := 10) rfl)) (fun _ h9 => h9) rfl dX10_count_149 ?_
      obtain ⟨hy16, hp⟩ := hp
      refine cTop (r := (grC S ((grC S x0 0).getD 0) 2)) hy16.1 ?_
      obtain ⟨hy17, hp⟩ := hp
      refine cGoi (va_runV (As := []) (rest := []) ⟨hx, hb, hml, hown, hts⟩ (c_Y6_kind l G K ad S ((grC S ((grC S x0 0).getD 0) 2).getD 0) _) (cwV 0 hts (wGV t_ (mw (.methodLink RX10 119 yX6_kind) (List.mem_of_getElem? (i := 11) rfl)) (mw (.instanceMethod yX6_kind) (List.mem_of_getElem? (i := 12) rfl)) (mw (.selects RX6 yX6_kind yX6_kind) (List.mem_of_getElem? (i := 13) rfl)) (mw (.initialized RX6) (List.mem_of_getElem? (i := 14) rfl)) j_Y6_kind) rfl rfl rfl (by decide +kernel) ⟨Nat.le_of_ble_eq_true rfl, Nat.le_of_ble_eq_true rfl⟩) (cPV hK hTE hP hD 5 rfl (at_5 hy16.2) ⟨hy16.2, hy17⟩) rfl rfl hl.1 rfl (lv_room (Nat.le_of_ble_eq_true rfl)) dX10_count_152 ⟨Nat.le_of_ble_eq_true rfl, Nat.le_of_ble_eq_true rfl⟩) hP hD hS hA (fun r19 u18 H locs hv hP hD hS => ?_)
      have h1 := congrArg Prod.fst hv
      have h2 := (congrArg Prod.snd hv).symm
      dsimp only at h1 h2
      subst h1
      subst h2
      subst hQ
      exact W.iret (v := (f_Y6_kind S ((grC S ((grC S x0 0).getD 0) 2).getD 0))) hx hb hr (fun t ht hW => ⟨⟨(f_Y6_kind S ((grC S ((grC S x0 0).getD 0) 2).getD 0)), S, rfl, (pair_i (hE.trans hX.symm)), by rw [ht]; exact hP, hD⟩, hS.F ht⟩) hS.2.2 dX10_count_155
    rw [if_neg s7] at hE hp
    have s7 := wNe (b := 7) rfl (by decide) s7
    by_cases s8 : x1 = 8
    · rw [if_pos s8] at hE hp
      refine lv_tableIn (off := 155) (tgt := 156) hx hb dX10_count_1 (by rw [s8]; decide) (by rw [s8]; decide) (by rw [s8]; decide) (by decide) ?_
      refine lv_aload_n hx hb dX10_count_156 rfl (lv_at hl 0 rfl) ?_
      refine va_get (D := G) (ci := 7) (v := va_re ad (grC S x0 0)) (C := RX10) (T := TX10) (N := 5) hx hb hts iX10 hown hK hP x0 (at_7 k_x0) rfl 0 (by decide) (hw (.fieldLink RX10 10 "MotionFloor" "now" "LMotionFloor$Assembly;") (List.mem_of_getElem? (i := 0) rfl)) (fun _ h9 => h9) rfl dX10_count_157 ?_
      obtain ⟨hy20, hp⟩ := hp
      refine cTop (r := (grC S x0 0)) hy20.1 ?_
      refine va_get (D := G) (ci := 0) (v := va_re ad (grC S ((grC S x0 0).getD 0) 4)) (C := RX0) (T := TX0) (N := 11) hx hb hts iX0 hown hK hP ((grC S x0 0).getD 0) (at_0 hy20.2) rfl 4 (by decide) (hw (.fieldLink RX10 123 "MotionFloor$Assembly" "minutes" "LMotionFloor$Ledger;") (List.mem_of_getElem? (i := 15) rfl)) (fun _ h9 => h9) rfl dX10_count_160 ?_
      obtain ⟨hy21, hp⟩ := hp
      refine cTop (r := (grC S ((grC S x0 0).getD 0) 4)) hy21.1 ?_
      refine va_get (D := G) (ci := 2) (v := .int (giC S ((grC S ((grC S x0 0).getD 0) 4).getD 0) 3)) (C := RX3) (T := TX3) (N := 4) hx hb hts iX3 hown hK hP ((grC S ((grC S x0 0).getD 0) 4).getD 0) (at_2 hy21.2) rfl 3 (by decide) (hw (.fieldLink RX10 126 "MotionFloor$Ledger" "size" "I") (List.mem_of_getElem? (i := 16) rfl)) (fun _ h9 => h9) rfl dX10_count_163 ?_
      subst hQ
      exact W.iret (v := (giC S ((grC S ((grC S x0 0).getD 0) 4).getD 0) 3)) hx hb hr (fun t ht hW => ⟨⟨(giC S ((grC S ((grC S x0 0).getD 0) 4).getD 0) 3), S, rfl, (pair_i (hE.trans hX.symm)), by rw [ht]; exact hP, hD⟩, hS.F ht⟩) hS.2.2 dX10_count_166
    rw [if_neg s8] at hE hp
    have s8 := wNe (b := 8) rfl (by decide) s8
    by_cases s9 : x1 = 9
    · rw [if_pos s9] at hE hp
      refine lv_tableIn (off := 166) (tgt := 167) hx hb dX10_count_1 (by rw [s9]; decide) (by rw [s9]; decide) (by rw [s9]; decide) (by decide) ?_
      refine lv_aload_n hx hb dX10_count_167 rfl (lv_at hl 0 rfl) ?_
      refine va_get (D := G) (ci := 7) (v := va_re ad (grC S x0 0)) (C := RX10) (T := TX10) (N := 5) hx hb hts iX10 hown hK hP x0 (at_7 k_x0) rfl 0 (by decide) (hw (.fieldLink RX10 10 "MotionFloor" "now" "LMotionFloor$Assembly;") (List.mem_of_getElem? (i := 0) rfl)) (fun _ h9 => h9) rfl dX10_count_168 ?_
      obtain ⟨hy22, hp⟩ := hp
      refine cTop (r := (grC S x0 0)) hy22.1 ?_
      refine va_get (D := G) (ci := 0) (v := va_re ad (grC S ((grC S x0 0).getD 0) 5)) (C := RX0) (T := TX0) (N := 11) hx hb hts iX0 hown hK hP ((grC S x0 0).getD 0) (at_0 hy22.2) rfl 5 (by decide) (hw (.fieldLink RX10 83 "MotionFloor$Assembly" "results" "LMotionFloor$Ledger;") (List.mem_of_getElem? (i := 17) rfl)) (fun _ h9 => h9) rfl dX10_count_171 ?_
      obtain ⟨hy23, hp⟩ := hp
      refine cTop (r := (grC S ((grC S x0 0).getD 0) 5)) hy23.1 ?_
      refine va_get (D := G) (ci := 2) (v := .int (giC S ((grC S ((grC S x0 0).getD 0) 5).getD 0) 3)) (C := RX3) (T := TX3) (N := 4) hx hb hts iX3 hown hK hP ((grC S ((grC S x0 0).getD 0) 5).getD 0) (at_2 hy23.2) rfl 3 (by decide) (hw (.fieldLink RX10 126 "MotionFloor$Ledger" "size" "I") (List.mem_of_getElem? (i := 16) rfl)) (fun _ h9 => h9) rfl dX10_count_174 ?_
      subst hQ
      exact W.iret (v := (giC S ((grC S ((grC S x0 0).getD 0) 5).getD 0) 3)) hx hb hr (fun t ht hW => ⟨⟨(giC S ((grC S ((grC S x0 0).getD 0) 5).getD 0) 3), S, rfl, (pair_i (hE.trans hX.symm)), by rw [ht]; exact hP, hD⟩, hS.F ht⟩) hS.2.2 dX10_count_177
    rw [if_neg s9] at hE hp
    have s9 := wNe (b := 9) rfl (by decide) s9
    by_cases s10 : x1 = 10
    · rw [if_pos s10] at hE hp
      refine lv_tableIn (off := 177) (tgt := 178) hx hb dX10_count_1 (by rw [s10]; decide) (by rw [s10]; decide) (by rw [s10]; decide) (by decide) ?_
      refine lv_aload_n hx hb dX10_count_178 rfl (lv_at hl 0 rfl) ?_
      refine va_get (D := G) (ci := 7) (v := va_re ad (grC S x0 0)) (C := RX10) (T := TX10) (N := 5) hx hb hts iX10 hown hK hP x0 (at_7 k_x0) rfl 0 (by decide) (hw (.fieldLink RX10 10 "MotionFloor" "now" "LMotionFloor$Assembly;") (List.mem_of_getElem? (i := 0) rfl)) (fun _ h9 => h9) rfl dX10_count_179 ?_
      obtain ⟨hy24, hp⟩ := hp
      refine cTop (r := (grC S x0 0)) hy24.1 ?_
      refine va_get (D := G) (ci := 0) (v := .int (giC S ((grC S x0 0).getD 0) 7)) (C := RX0) (T := TX0) (N := 11) hx hb hts iX0 hown hK hP ((grC S x0 0).getD 0) (at_0 hy24.2) rfl 7 (by decide) (hw (.fieldLink RX10 127 "MotionFloor$Assembly" "adoptions" "I") (List.mem_of_getElem? (i := 18) rfl)) (fun _ h9 => h9) rfl dX10_count_182 ?_
      refine lv_if_ne (tgt := 192) hx hb dX10_count_185 (by decide) (fun c25 => ?_) (fun c25 => ?_)
      · rw [if_neg c25] at hE hp
        refine lv_aload_n hx hb dX10_count_192 rfl (lv_at hl 0 rfl) ?_
        refine va_get (D := G) (ci := 7) (v := va_re ad (grC S x0 0)) (C := RX10) (T := TX10) (N := 5) hx hb hts iX10 hown hK hP x0 (at_7 k_x0) rfl 0 (by decide) (hw (.fieldLink RX10 10 "MotionFloor" "now" "LMotionFloor$Assembly;") (List.mem_of_getElem? (i := 0) rfl)) (fun _ h9 => h9) rfl dX10_count_193 ?_
        obtain ⟨hy26, hp⟩ := hp
        refine cTop (r := (grC S x0 0)) hy26.1 ?_
        refine va_get (D := G) (ci := 0) (v := va_re ad (grC S ((grC S x0 0).getD 0) 6)) (C := RX0) (T := TX0) (N := 11) hx hb hts iX0 hown hK hP ((grC S x0 0).getD 0) (at_0 hy26.2) rfl 6 (by decide) (hw (.fieldLink RX10 130 "MotionFloor$Assembly" "adopted" "LMotionFloor$Text;") (List.mem_of_getElem? (i := 19) rfl)) (fun _ h9 => h9) rfl dX10_count_196 ?_
        obtain ⟨hy27, hp⟩ := hp
        refine cTop (r := (grC S ((grC S x0 0).getD 0) 6)) hy27.1 ?_
        refine va_get (D := G) (ci := 6) (v := .int (giC S ((grC S ((grC S x0 0).getD 0) 6).getD 0) 1)) (C := RX9) (T := TX9) (N := 2) hx hb hts iX9 hown hK hP ((grC S ((grC S x0 0).getD 0) 6).getD 0) (at_6 hy27.2) rfl 1 (by decide) (hw (.fieldLink RX10 134 "MotionFloor$Text" "size" "I") (List.mem_of_getElem? (i := 20) rfl)) (fun _ h9 => h9) rfl dX10_count_199 ?_
        exact B_Y10_count_202 x1 (giC S ((grC S ((grC S x0 0).getD 0) 6).getD 0) 1) _ _ _ hE hp hP hD hS (lv_sub hl [0, 1] rfl)
      · rw [if_pos c25] at hE hp
        refine lv_iconst (v := (-1)) hx hb dX10_count_188 (by decide) ?_
        refine lv_goto (tgt := 202) hx hb dX10_count_189 (by decide) ?_
        exact B_Y10_count_202 x1 (-1) _ _ _ hE hp hP hD hS (lv_sub hl [0, 1] rfl)
    rw [if_neg s10] at hE hp
    have s10 := wNe (b := 10) rfl (by decide) s10
    by_cases s11 : x1 = 11
    · rw [if_pos s11] at hE hp
      refine lv_tableIn (off := 202) (tgt := 203) hx hb dX10_count_1 (by rw [s11]; decide) (by rw [s11]; decide) (by rw [s11]; decide) (by decide) ?_
      refine lv_aload_n hx hb dX10_count_203 rfl (lv_at hl 0 rfl) ?_
      refine va_get (D := G) (ci := 7) (v := va_re ad (grC S x0 0)) (C := RX10) (T := TX10) (N := 5) hx hb hts iX10 hown hK hP x0 (at_7 k_x0) rfl 0 (by decide) (hw (.fieldLink RX10 10 "MotionFloor" "now" "LMotionFloor$Assembly;") (List.mem_of_getElem? (i := 0) rfl)) (fun _ h9 => h9) rfl dX10_count_204 ?_
      obtain ⟨hy28, hp⟩ := hp
      refine cTop (r := (grC S x0 0)) hy28.1 ?_
      refine va_get (D := G) (ci := 0) (v := .int (giC S ((grC S x0 0).getD 0) 7)) (C := RX0) (T := TX0) (N := 11) hx hb hts iX0 hown hK hP ((grC S x0 0).getD 0) (at_0 hy28.2) rfl 7 (by decide) (hw (.fieldLink RX10 127 "MotionFloor$Assembly" "adoptions" "I") (List.mem_of_getElem? (i := 18) rfl)) (fun _ h9 => h9) rfl dX10_count_207 ?_
      subst hQ
      exact W.iret (v := (giC S ((grC S x0 0).getD 0) 7)) hx hb hr (fun t ht hW => ⟨⟨(giC S ((grC S x0 0).getD 0) 7), S, rfl, (pair_i (hE.trans hX.symm)), by rw [ht]; exact hP, hD⟩, hS.F ht⟩) hS.2.2 dX10_count_210
    rw [if_neg s11] at hE hp
    have s11 := wNe (b := 11) rfl (by decide) s11
    by_cases s12 : x1 = 12
    · rw [if_pos s12] at hE hp
      refine lv_tableIn (off := 210) (tgt := 211) hx hb dX10_count_1 (by rw [s12]; decide) (by rw [s12]; decide) (by rw [s12]; decide) (by decide) ?_
      refine lv_aload_n hx hb dX10_count_211 rfl (lv_at hl 0 rfl) ?_
      refine va_get (D := G) (ci := 7) (v := va_re ad (grC S x0 4)) (C := RX10) (T := TX10) (N := 5) hx hb hts iX10 hown hK hP x0 (at_7 k_x0) rfl 4 (by decide) (hw (.fieldLink RX10 24 "MotionFloor" "row" "LMotionFloor$Ledger;") (List.mem_of_getElem? (i := 21) rfl)) (fun _ h9 => h9) rfl dX10_count_212 ?_
      obtain ⟨hy29, hp⟩ := hp
      refine cTop (r := (grC S x0 4)) hy29.1 ?_
      refine va_get (D := G) (ci := 2) (v := .int (giC S ((grC S x0 4).getD 0) 3)) (C := RX3) (T := TX3) (N := 4) hx hb hts iX3 hown hK hP ((grC S x0 4).getD 0) (at_2 hy29.2) rfl 3 (by decide) (hw (.fieldLink RX10 126 "MotionFloor$Ledger" "size" "I") (List.mem_of_getElem? (i := 16) rfl)) (fun _ h9 => h9) rfl dX10_count_215 ?_
      subst hQ
      exact W.iret (v := (giC S ((grC S x0 4).getD 0) 3)) hx hb hr (fun t ht hW => ⟨⟨(giC S ((grC S x0 4).getD 0) 3), S, rfl, (pair_i (hE.trans hX.symm)), by rw [ht]; exact hP, hD⟩, hS.F ht⟩) hS.2.2 dX10_count_218
    rw [if_neg s12] at hE hp
    have s12 := wNe (b := 12) rfl (by decide) s12
    refine lv_tableOut (tgt := 219) hx hb dX10_count_1 (by omega) (by decide) ?_
    refine lv_iconst (v := (-1)) hx hb dX10_count_219 (by decide) ?_
    subst hQ
    exact W.iret (v := ((-1) : Int32)) hx hb hr (fun t ht hW => ⟨⟨((-1) : Int32), S, rfl, (pair_i (hE.trans hX.symm)), by rw [ht]; exact hP, hD⟩, hS.F ht⟩) hS.2.2 dX10_count_220
  exact B_M a1 _ _ _ hX hp hP hD hS hl
theorem gdX10_seat_0 : ckS (List.drop 0 cX10_seat.data.toList) 0 [(0, .aload_n 0, 1), (1, .getfield 10, 3), (4, .getfield 88, 3), (7, .iload_n 1, 1), (8, .invokevirtual 137, 3), (11, .ifCond .ne 5, 3), (14, .iconst (-1), 1), (15, .ireturn, 1), (16, .aload_n 0, 1), (17, .getfield 10, 3), (20, .getfield 88, 3), (23, .iload_n 1, 1), (24, .invokevirtual 141, 3), (27, .ifCond .eq 7, 3), (30, .iconst 1, 1), (31, .goto 4, 3), (34, .iconst 0, 1), (35, .ireturn, 1)] = true := by decide +kernel
theorem dX10_seat_0 : decode cX10_seat 0 = .ok (.aload_n 0, 1) := ckS_g gdX10_seat_0 0 rfl
theorem dX10_seat_1 : decode cX10_seat 1 = .ok (.getfield 10, 3) := ckS_g gdX10_seat_0 1 rfl
theorem dX10_seat_4 : decode cX10_seat 4 = .ok (.getfield 88, 3) := ckS_g gdX10_seat_0 2 rfl
theorem dX10_seat_7 : decode cX10_seat 7 = .ok (.iload_n 1, 1) := ckS_g gdX10_seat_0 3 rfl
theorem dX10_seat_8 : decode cX10_seat 8 = .ok (.invokevirtual 137, 3) := ckS_g gdX10_seat_0 4 rfl
theorem dX10_seat_11 : decode cX10_seat 11 = .ok (.ifCond .ne 5, 3) := ckS_g gdX10_seat_0 5 rfl
theorem dX10_seat_14 : decode cX10_seat 14 = .ok (.iconst (-1), 1) := ckS_g gdX10_seat_0 6 rfl
theorem dX10_seat_15 : decode cX10_seat 15 = .ok (.ireturn, 1) := ckS_g gdX10_seat_0 7 rfl
theorem dX10_seat_16 : decode cX10_seat 16 = .ok (.aload_n 0, 1) := ckS_g gdX10_seat_0 8 rfl
theorem dX10_seat_17 : decode cX10_seat 17 = .ok (.getfield 10, 3) := ckS_g gdX10_seat_0 9 rfl
theorem dX10_seat_20 : decode cX10_seat 20 = .ok (.getfield 88, 3) := ckS_g gdX10_seat_0 10 rfl
theorem dX10_seat_23 : decode cX10_seat 23 = .ok (.iload_n 1, 1) := ckS_g gdX10_seat_0 11 rfl
theorem dX10_seat_24 : decode cX10_seat 24 = .ok (.invokevirtual 141, 3) := ckS_g gdX10_seat_0 12 rfl
theorem dX10_seat_27 : decode cX10_seat 27 = .ok (.ifCond .eq 7, 3) := ckS_g gdX10_seat_0 13 rfl
theorem dX10_seat_30 : decode cX10_seat 30 = .ok (.iconst 1, 1) := ckS_g gdX10_seat_0 14 rfl
theorem dX10_seat_31 : decode cX10_seat 31 = .ok (.goto 4, 3) := ckS_g gdX10_seat_0 15 rfl
theorem dX10_seat_34 : decode cX10_seat 34 = .ok (.iconst 0, 1) := ckS_g gdX10_seat_0 16 rfl
theorem dX10_seat_35 : decode cX10_seat 35 = .ok (.ireturn, 1) := ckS_g gdX10_seat_0 17 rfl
set_option maxRecDepth 100000 in
theorem zc547 : wZ (.methodLink RX10 141 yX2_isThere) := ⟨wT4 (List.mem_of_getElem? (i := 188) (by decide +kernel)), Or.inl rfl⟩
set_option maxRecDepth 100000 in
theorem zc548 : wZ (.methodLink RX10 137 yX2_has) := ⟨wT4 (List.mem_of_getElem? (i := 187) (by decide +kernel)), Or.inl rfl⟩
set_option maxRecDepth 100000 in
theorem zc549 : wZ (.code yX10_seat cX10_seat 2 (some .int)) := ⟨wT4 (List.mem_of_getElem? (i := 186) rfl), Or.inl rfl⟩
def b_Y10_seat_35 (S : Cst) (x0 : Nat) (x1 : Int32) (y0 : Int32) : Int32 := y0
def q_Y10_seat_35 (S : Cst) (x0 : Nat) (x1 : Int32) (y0 : Int32) : Prop := True
def f_Y10_seat (S : Cst) (x0 : Nat) (x1 : Int32) : Int32 := if (f_Y2_has S ((grC S ((grC S x0 0).getD 0) 0).getD 0) x1) = 0 then ((-1) : Int32) else if (f_Y2_isThere S ((grC S ((grC S x0 0).getD 0) 0).getD 0) x1) = 0 then (b_Y10_seat_35 S x0 x1 0) else (b_Y10_seat_35 S x0 x1 1)
def p_Y10_seat (S : Cst) (x0 : Nat) (x1 : Int32) : Prop := (iR S (grC S x0 0) 0) ∧ (iR S (grC S ((grC S x0 0).getD 0) 0) 1) ∧ (p_Y2_has S ((grC S ((grC S x0 0).getD 0) 0).getD 0) x1) ∧ (if (f_Y2_has S ((grC S ((grC S x0 0).getD 0) 0).getD 0) x1) = 0 then True else (iR S (grC S x0 0) 0) ∧ (iR S (grC S ((grC S x0 0).getD 0) 0) 1) ∧ (p_Y2_isThere S ((grC S ((grC S x0 0).getD 0) 0).getD 0) x1) ∧ (if (f_Y2_isThere S ((grC S ((grC S x0 0).getD 0) 0).getD 0) x1) = 0 then (q_Y10_seat_35 S x0 x1 0) else (q_Y10_seat_35 S x0 x1 1)))
def e_Y10_seat : List Cond := [.fieldLink RX10 10 "MotionFloor" "now" "LMotionFloor$Assembly;", .fieldLink RX10 88 "MotionFloor$Assembly" "house" "LMotionFloor$House;", .methodLink RX10 137 yX2_has, .instanceMethod yX2_has, .selects RX2 yX2_has yX2_has, .initialized RX2, .methodLink RX10 141 yX2_isThere, .instanceMethod yX2_isThere, .selects RX2 yX2_isThere yX2_isThere]
def v_Y10_seat : List Cond := .code yX10_seat cX10_seat 2 (some .int) :: (e_Y10_seat ++ (wsX100 ++ (wsX00 ++ (v_Y2_has ++ (v_Y2_isThere ++ [])))))
theorem te_Y10_seat : GoodIn lw_tbl e_Y10_seat := wGc zc496 (wGc zc545 (wGc zc548 (wGc zc215 (wGc zc214 (wGc zc77 (wGc zc547 (wGc zc226 (wGc zc225 (wG0)))))))))
theorem t_Y10_seat : GoodIn lw_tbl v_Y10_seat := wGc zc549 (wGa te_Y10_seat (wGa zcX10 (wGa zcX0 (wGa t_Y2_has (wGa t_Y2_isThere (wG0))))))
set_option maxHeartbeats 4000000 in
set_option maxRecDepth 100000 in
theorem c_Y10_seat (l : Launch) (G : va_G) (K : Nat → ClassId) (ad : Nat → Nat) (S : Cst) (x0 : Nat) (a1 : Int32) (sz : Nat) : Met l yX10_seat v_Y10_seat ({ frames := 1, cells := 0, slots := 0, locals := 21 }) (va_Pc [.ref (ad x0), .int a1] (cSt G K ad sz S (iK S x0 7 ∧ p_Y10_seat S x0 a1))) (va_Qi (fun (r : Int32) (u : Cst) => (r, u) = (f_Y10_seat S x0 a1, S)) (cBt G K ad (va_A (wsC K ad S) sz)) (va_A (wsC K ad S) sz)) 0 0 (va_A (wsC K ad S) sz) := by
  refine Met.ofW (cc := cX10_seat) (maxL := 2) (ret := (some .int)) (by decide) rfl ?_
  intro p e s m args below meth c s₁ B hml hv
  obtain ⟨rfl, ⟨hsz, hP, hK, hD0, hTE⟩, hp⟩ := hv
  obtain ⟨k_x0, hp⟩ := hp
  have hx := B.exec
  have hb := B.bytes
  have hr := B.returns
  have hts := atoms_spec (ws := v_Y10_seat) B.pre
  have t_ := t_Y10_seat
  have mw : ∀ w ∈ e_Y10_seat, w ∈ v_Y10_seat := fun w h => List.mem_cons_of_mem _ (List.mem_append_left _ h)
  have hw := fun w (h : w ∈ e_Y10_seat) => hts w (mw w h)
  have iX10 : ∀ w ∈ wsX100, w ∈ v_Y10_seat := fun w h => List.mem_cons_of_mem _ (List.mem_append_right _ (List.mem_append_left _ h))
  have iX0 : ∀ w ∈ wsX00, w ∈ v_Y10_seat := fun w h => List.mem_cons_of_mem _ (List.mem_append_right _ (List.mem_append_right _ (List.mem_append_left _ h)))
  have j_Y2_has : ∀ w ∈ v_Y2_has, w ∈ v_Y10_seat := fun w h => List.mem_cons_of_mem _ (List.mem_append_right _ (List.mem_append_right _ (List.mem_append_right _ (List.mem_append_left _ h))))
  have j_Y2_isThere : ∀ w ∈ v_Y2_isThere, w ∈ v_Y10_seat := fun w h => List.mem_cons_of_mem _ (List.mem_append_right _ (List.mem_append_right _ (List.mem_append_right _ (List.mem_append_right _ (List.mem_append_left _ h)))))
  have hown : s.vm.findClass RX10 = some m.cls := findClass_of_methodNamed B.named
  have hlocks := B.notSynchronized
  subst hsz
  have hD := hD0.self (sz := s.heap.size)
  generalize hAe : va_A (wsC K ad S) s.heap.size = A at hD ⊢
  have hA : ∀ q : Nat, s.heap.size ≤ q → A q := fun q h => by rw [← hAe]; exact Or.inr h
  have hS : va_S A s.heap s.heap [] := va_S.rf
  have hl : lv_has (lg_sl ([.ref (ad x0), .int a1]) ++ List.replicate (2 - (lg_sl ([.ref (ad x0), .int a1])).length) Slot.unset).toArray 2 [(0, .ref (ad x0)), (1, .int a1)] := by
    exact lv_entry ([.ref (ad x0), .int a1]) (n := 2) (Nat.le_of_ble_eq_true rfl)
  rw [lg_entry_eq]
  generalize (lg_sl ([.ref (ad x0), .int a1]) ++ List.replicate (2 - (lg_sl ([.ref (ad x0), .int a1])).length) Slot.unset).toArray = ls_ at hl ⊢
  refine wGen (fun Q hQ => ?_)
  obtain ⟨X, hX⟩ : ∃ X, f_Y10_seat S x0 a1 = X := ⟨_, rfl⟩
  have B_Y10_seat_35 : ∀ (x1 : Int32) (y0 : Int32) (H : Heap) (locs : List Loc) (ls_ : Array Slot), b_Y10_seat_35 S x0 x1 y0 = X → q_Y10_seat_35 S x0 x1 y0 → va_P G vwCl (wsC K ad S) H → va_D A (wsC K ad S) → va_S A s.heap H locs → lv_has ls_ 2 [(0, .ref (ad x0)), (1, .int x1)] → W p l e ({ frames := 1, cells := 0, slots := 0, locals := 21 } : Room) s m #[Value.ref (ad x0), Value.int a1] below meth c H locs 0 0 Q (F0 m 35 ls_ [.int y0]) := by
    intro x1 y0 H locs ls_ hE hp hP hD hS hl
    unfold b_Y10_seat_35 at hE
    unfold q_Y10_seat_35 at hp
    subst hQ
    exact W.iret (v := y0) hx hb hr (fun t ht hW => ⟨⟨y0, S, rfl, (pair_i (hE.trans hX.symm)), by rw [ht]; exact hP, hD⟩, hS.F ht⟩) hS.2.2 dX10_seat_35
  have B_M : ∀ (x1 : Int32) (H : Heap) (locs : List Loc) (ls_ : Array Slot), f_Y10_seat S x0 x1 = X → p_Y10_seat S x0 x1 → va_P G vwCl (wsC K ad S) H → va_D A (wsC K ad S) → va_S A s.heap H locs → lv_has ls_ 2 [(0, .ref (ad x0)), (1, .int x1)] → W p l e ({ frames := 1, cells := 0, slots := 0, locals := 21 } : Room) s m #[Value.ref (ad x0), Value.int a1] below meth c H locs 0 0 Q (F0 m 0 ls_ []) := by
    intro x1 H locs ls_ hE hp hP hD hS hl
    unfold f_Y10_seat at hE
    unfold p_Y10_seat at hp
    refine lv_aload_n hx hb dX10_seat_0 rfl (lv_at hl 0 rfl) ?_
    refine va_get (D := G) (ci := 7) (v := va_re ad (grC S x0 0)) (C := RX10) (T := TX10) (N := 5) hx hb hts iX10 hown hK hP x0 (at_7 k_x0) rfl 0 (by decide) (hw (.fieldLink RX10 10 "MotionFloor" "now" "LMotionFloor$Assembly;") (List.mem_of_getElem? (i := 0) rfl)) (fun _ h9 => h9) rfl dX10_seat_1 ?_
    obtain ⟨hy1, hp⟩ := hp
    refine cTop (r := (grC S x0 0)) hy1.1 ?_
    refine va_get (D := G) (ci := 0) (v := va_re ad (grC S ((grC S x0 0).getD 0) 0)) (C := RX0) (T := TX0) (N := 11) hx hb hts iX0 hown hK hP ((grC S x0 0).getD 0) (at_0 hy1.2) rfl 0 (by decide) (hw (.fieldLink RX10 88 "MotionFloor$Assembly" "house" "LMotionFloor$House;") (List.mem_of_getElem? (i := 1) rfl)) (fun _ h9 => h9) rfl dX10_seat_4 ?_
    refine lv_iload_n hx hb dX10_seat_7 rfl (lv_at hl 1 rfl) ?_
    obtain ⟨hy2, hp⟩ := hp
    refine cTop2 (r := (grC S ((grC S x0 0).getD 0) 0)) hy2.1 ?_
    obtain ⟨hy3, hp⟩ := hp
    refine cGoi (va_runV (As := [.int x1]) (rest := []) ⟨hx, hb, hml, hown, hts⟩ (c_Y2_has l G K ad S ((grC S ((grC S x0 0).getD 0) 0).getD 0) x1 _) (cwV 1 hts (wGV t_ (mw (.methodLink RX10 137 yX2_has) (List.mem_of_getElem? (i := 2) rfl)) (mw (.instanceMethod yX2_has) (List.mem_of_getElem? (i := 3) rfl)) (mw (.selects RX2 yX2_has yX2_has) (List.mem_of_getElem? (i := 4) rfl)) (mw (.initialized RX2) (List.mem_of_getElem? (i := 5) rfl)) j_Y2_has) rfl rfl rfl (by decide +kernel) ⟨Nat.le_of_ble_eq_true rfl, Nat.le_of_ble_eq_true rfl⟩) (cPV hK hTE hP hD 1 rfl (at_1 hy2.2) ⟨hy2.2, hy3⟩) rfl rfl hl.1 rfl (lv_room (Nat.le_of_ble_eq_true rfl)) dX10_seat_8 ⟨Nat.le_of_ble_eq_true rfl, Nat.le_of_ble_eq_true rfl⟩) hP hD hS hA (fun r5 u4 H locs hv hP hD hS => ?_)
    have h1 := congrArg Prod.fst hv
    have h2 := (congrArg Prod.snd hv).symm
    dsimp only at h1 h2
    subst h1
    subst h2
    refine lv_if_ne (tgt := 16) hx hb dX10_seat_11 (by decide) (fun c6 => ?_) (fun c6 => ?_)
    · rw [if_neg c6] at hE hp
      refine lv_aload_n hx hb dX10_seat_16 rfl (lv_at hl 0 rfl) ?_
      refine va_get (D := G) (ci := 7) (v := va_re ad (grC S x0 0)) (C := RX10) (T := TX10) (N := 5) hx hb hts iX10 hown hK hP x0 (at_7 k_x0) rfl 0 (by decide) (hw (.fieldLink RX10 10 "MotionFloor" "now" "LMotionFloor$Assembly;") (List.mem_of_getElem? (i := 0) rfl)) (fun _ h9 => h9) rfl dX10_seat_17 ?_
      obtain ⟨hy7, hp⟩ := hp
      refine cTop (r := (grC S x0 0)) hy7.1 ?_
      refine va_get (D := G) (ci := 0) (v := va_re ad (grC S ((grC S x0 0).getD 0) 0)) (C := RX0) (T := TX0) (N := 11) hx hb hts iX0 hown hK hP ((grC S x0 0).getD 0) (at_0 hy7.2) rfl 0 (by decide) (hw (.fieldLink RX10 88 "MotionFloor$Assembly" "house" "LMotionFloor$House;") (List.mem_of_getElem? (i := 1) rfl)) (fun _ h9 => h9) rfl dX10_seat_20 ?_
      refine lv_iload_n hx hb dX10_seat_23 rfl (lv_at hl 1 rfl) ?_
      obtain ⟨hy8, hp⟩ := hp
      refine cTop2 (r := (grC S ((grC S x0 0).getD 0) 0)) hy8.1 ?_
      obtain ⟨hy9, hp⟩ := hp
      refine cGoi (va_runV (As := [.int x1]) (rest := []) ⟨hx, hb, hml, hown, hts⟩ (c_Y2_isThere l G K ad S ((grC S ((grC S x0 0).getD 0) 0).getD 0) x1 _) (cwV 1 hts (wGV t_ (mw (.methodLink RX10 141 yX2_isThere) (List.mem_of_getElem? (i := 6) rfl)) (mw (.instanceMethod yX2_isThere) (List.mem_of_getElem? (i := 7) rfl)) (mw (.selects RX2 yX2_isThere yX2_isThere) (List.mem_of_getElem? (i := 8) rfl)) (mw (.initialized RX2) (List.mem_of_getElem? (i := 5) rfl)) j_Y2_isThere) rfl rfl rfl (by decide +kernel) ⟨Nat.le_of_ble_eq_true rfl, Nat.le_of_ble_eq_true rfl⟩) (cPV hK hTE hP hD 1 rfl (at_1 hy8.2) ⟨hy8.2, hy9⟩) rfl rfl hl.1 rfl (lv_room (Nat.le_of_ble_eq_true rfl)) dX10_seat_24 ⟨Nat.le_of_ble_eq_true rfl, Nat.le_of_ble_eq_true rfl⟩) hP hD hS hA (fun r11 u10 H locs hv hP hD hS => ?_)
      have h1 := congrArg Prod.fst hv
      have h2 := (congrArg Prod.snd hv).symm
      dsimp only at h1 h2
      subst h1
      subst h2
      refine lv_if_eq (tgt := 34) hx hb dX10_seat_27 (by decide) (fun c12 => ?_) (fun c12 => ?_)
      · rw [if_pos c12] at hE hp
        refine lv_iconst (v := 0) hx hb dX10_seat_34 (by decide) ?_
        exact B_Y10_seat_35 x1 0 _ _ _ hE hp hP hD hS (lv_sub hl [0, 1] rfl)
      · rw [if_neg c12] at hE hp
        refine lv_iconst (v := 1) hx hb dX10_seat_30 (by decide) ?_
        refine lv_goto (tgt := 35) hx hb dX10_seat_31 (by decide) ?_
        exact B_Y10_seat_35 x1 1 _ _ _ hE hp hP hD hS (lv_sub hl [0, 1] rfl)
    · rw [if_pos c6] at hE hp
      refine lv_iconst (v := (-1)) hx hb dX10_seat_14 (by decide) ?_
      subst hQ
      exact W.iret (v := ((-1) : Int32)) hx hb hr (fun t ht hW => ⟨⟨((-1) : Int32), S, rfl, (pair_i (hE.trans hX.symm)), by rw [ht]; exact hP, hD⟩, hS.F ht⟩) hS.2.2 dX10_seat_15
  exact B_M a1 _ _ _ hX hp hP hD hS hl
