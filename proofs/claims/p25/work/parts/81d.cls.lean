theorem gdX1_takeUp_10 : ckS (List.drop 10 cX1_takeUp.data.toList) 10 [(10, .aload_n 0, 1), (11, .getfield 121, 3), (14, .aload_n 2, 1), (15, .invokevirtual 177, 3), (29, .aload_n 0, 1), (30, .getfield 121, 3), (33, .iconst 2, 1), (34, .putfield 180, 3), (44, .ireturn, 1)] = true := by decide +kernel
theorem dX1_takeUp_10 : decode cX1_takeUp 10 = .ok (.aload_n 0, 1) := ckS_g gdX1_takeUp_10 0 rfl
theorem dX1_takeUp_11 : decode cX1_takeUp 11 = .ok (.getfield 121, 3) := ckS_g gdX1_takeUp_10 1 rfl
theorem dX1_takeUp_14 : decode cX1_takeUp 14 = .ok (.aload_n 2, 1) := ckS_g gdX1_takeUp_10 2 rfl
theorem dX1_takeUp_15 : decode cX1_takeUp 15 = .ok (.invokevirtual 177, 3) := ckS_g gdX1_takeUp_10 3 rfl
theorem dX1_takeUp_29 : decode cX1_takeUp 29 = .ok (.aload_n 0, 1) := ckS_g gdX1_takeUp_10 4 rfl
theorem dX1_takeUp_30 : decode cX1_takeUp 30 = .ok (.getfield 121, 3) := ckS_g gdX1_takeUp_10 5 rfl
theorem dX1_takeUp_33 : decode cX1_takeUp 33 = .ok (.iconst 2, 1) := ckS_g gdX1_takeUp_10 6 rfl
theorem dX1_takeUp_34 : decode cX1_takeUp 34 = .ok (.putfield 180, 3) := ckS_g gdX1_takeUp_10 7 rfl
theorem dX1_takeUp_44 : decode cX1_takeUp 44 = .ok (.ireturn, 1) := ckS_g gdX1_takeUp_10 8 rfl
set_option maxRecDepth 100000 in
theorem zc188 : wZ (.selects RX6 yX6_kind yX6_kind) := ⟨wT3 (List.mem_of_getElem? (i := 145) (by decide +kernel)), Or.inl rfl⟩
set_option maxRecDepth 100000 in
theorem zc189 : wZ (.instanceMethod yX6_kind) := ⟨wT3 (List.mem_of_getElem? (i := 144) (by decide +kernel)), Or.inl rfl⟩
set_option maxRecDepth 100000 in
theorem zc190 : wZ (.methodLink RX1 183 yX6_kind) := ⟨wT3 (List.mem_of_getElem? (i := 143) (by decide +kernel)), Or.inl rfl⟩
set_option maxRecDepth 100000 in
theorem zc191 : wZ (.fieldLink RX1 180 "MotionFloor$Place" "sort" "I") := ⟨wT1 (List.mem_of_getElem? (i := 110) (by decide +kernel)), Or.inl rfl⟩
set_option maxRecDepth 100000 in
theorem zc192 : wZ (.code yX1_takeUp cX1_takeUp 3 (some .int)) := ⟨wT3 (List.mem_of_getElem? (i := 142) rfl), Or.inl rfl⟩
def b_Y1_takeUp_37 (S : Cst) (x0 : Nat) (x1 : Int32) (x2 : Option Nat) : Int32 × Cst := ((f_Y6_kind S ((grC S x0 2).getD 0)), S)
def q_Y1_takeUp_37 (S : Cst) (x0 : Nat) (x1 : Int32) (x2 : Option Nat) : Prop := (iR S (grC S x0 2) 5) ∧ (p_Y6_kind S ((grC S x0 2).getD 0)) ∧ True
def b_Y1_takeUp_18 (S : Cst) (x0 : Nat) (x1 : Int32) (x2 : Option Nat) : Int32 × Cst := if (giC S ((grC S x0 2).getD 0) 0) = 1 then (b_Y1_takeUp_37 (siC S ((grC S x0 2).getD 0) 0 (2 : Int32)) x0 x1 x2) else (b_Y1_takeUp_37 S x0 x1 x2)
def q_Y1_takeUp_18 (S : Cst) (x0 : Nat) (x1 : Int32) (x2 : Option Nat) : Prop := (iR S (grC S x0 2) 5) ∧ (if (giC S ((grC S x0 2).getD 0) 0) = 1 then (iR S (grC S x0 2) 5) ∧ (q_Y1_takeUp_37 (siC S ((grC S x0 2).getD 0) 0 (2 : Int32)) x0 x1 x2) else (q_Y1_takeUp_37 S x0 x1 x2))
def f_Y1_takeUp (S : Cst) (x0 : Nat) (x1 : Int32) : Int32 × Cst := if (f_Y0_placeAt S x0 x1) = none then (b_Y1_takeUp_18 S x0 x1 (f_Y0_placeAt S x0 x1)) else (b_Y1_takeUp_18 ((f_Y6_takeFrom S ((grC S x0 2).getD 0) ((f_Y0_placeAt S x0 x1).getD 0)).2) x0 x1 (f_Y0_placeAt S x0 x1))
def p_Y1_takeUp (S : Cst) (x0 : Nat) (x1 : Int32) : Prop := (p_Y0_placeAt S x0 x1) ∧ (if (f_Y0_placeAt S x0 x1) = none then (q_Y1_takeUp_18 S x0 x1 (f_Y0_placeAt S x0 x1)) else (iR S (grC S x0 2) 5) ∧ (iR S (f_Y0_placeAt S x0 x1) 5) ∧ (p_Y6_takeFrom S ((grC S x0 2).getD 0) ((f_Y0_placeAt S x0 x1).getD 0)) ∧ (q_Y1_takeUp_18 ((f_Y6_takeFrom S ((grC S x0 2).getD 0) ((f_Y0_placeAt S x0 x1).getD 0)).2) x0 x1 (f_Y0_placeAt S x0 x1)))
def e_Y1_takeUp : List Cond := [.methodLink RX1 159 yX0_placeAt, .instanceMethod yX0_placeAt, .selects RX0 yX0_placeAt yX0_placeAt, .initialized RX0, .fieldLink RX1 121 "MotionFloor$Assembly" "draft" "LMotionFloor$Place;", .fieldLink RX1 180 "MotionFloor$Place" "sort" "I", .methodLink RX1 183 yX6_kind, .instanceMethod yX6_kind, .selects RX6 yX6_kind yX6_kind, .initialized RX6, .methodLink RX1 177 yX6_takeFrom, .instanceMethod yX6_takeFrom, .selects RX6 yX6_takeFrom yX6_takeFrom]
def v_Y1_takeUp : List Cond := .code yX1_takeUp cX1_takeUp 3 (some .int) :: (e_Y1_takeUp ++ (wsX00 ++ (wsX60 ++ (v_Y0_placeAt ++ (v_Y6_kind ++ (v_Y6_takeFrom ++ []))))))
theorem te_Y1_takeUp : GoodIn lw_tbl e_Y1_takeUp := wGc zc184 (wGc zc183 (wGc zc182 (wGc zc39 (wGc zc146 (wGc zc191 (wGc zc190 (wGc zc189 (wGc zc188 (wGc zc112 (wGc zc177 (wGc zc176 (wGc zc175 (wG0)))))))))))))
theorem t_Y1_takeUp : GoodIn lw_tbl v_Y1_takeUp := wGc zc192 (wGa te_Y1_takeUp (wGa zcX0 (wGa zcX6 (wGa t_Y0_placeAt (wGa t_Y6_kind (wGa t_Y6_takeFrom (wG0)))))))
set_option maxHeartbeats 4000000 in
set_option maxRecDepth 100000 in
theorem c_Y1_takeUp (l : Launch) (G : va_G) (K : Nat → ClassId) (ad : Nat → Nat) (S0 : Cst) (x0 : Nat) (a1 : Int32) (sz : Nat) : Met l yX1_takeUp v_Y1_takeUp ({ frames := 3, cells := 0, slots := 0, locals := 64 }) (va_Pc [.ref (ad x0), .int a1] (cSt G K ad sz S0 (iK S0 x0 0 ∧ p_Y1_takeUp S0 x0 a1))) (va_Qi (fun (r : Int32) (u : Cst) => (r, u) = f_Y1_takeUp S0 x0 a1 ∧ eK S0 u) (cBt G K ad (va_A (wsC K ad S0) sz)) (va_A (wsC K ad S0) sz)) 0 0 (va_A (wsC K ad S0) sz) := by
  refine Met.ofW (cc := cX1_takeUp) (maxL := 3) (ret := (some .int)) (by decide) rfl ?_
  intro p e s m args below meth c s₁ B hml hv
  obtain ⟨rfl, ⟨hsz, hP, hK, hD0, hTE⟩, hp⟩ := hv
  obtain ⟨k_x0, hp⟩ := hp
  have hx := B.exec
  have hb := B.bytes
  have hr := B.returns
  have hts := atoms_spec (ws := v_Y1_takeUp) B.pre
  have t_ := t_Y1_takeUp
  have mw : ∀ w ∈ e_Y1_takeUp, w ∈ v_Y1_takeUp := fun w h => List.mem_cons_of_mem _ (List.mem_append_left _ h)
  have hw := fun w (h : w ∈ e_Y1_takeUp) => hts w (mw w h)
  have iX0 : ∀ w ∈ wsX00, w ∈ v_Y1_takeUp := fun w h => List.mem_cons_of_mem _ (List.mem_append_right _ (List.mem_append_left _ h))
  have iX6 : ∀ w ∈ wsX60, w ∈ v_Y1_takeUp := fun w h => List.mem_cons_of_mem _ (List.mem_append_right _ (List.mem_append_right _ (List.mem_append_left _ h)))
  have j_Y0_placeAt : ∀ w ∈ v_Y0_placeAt, w ∈ v_Y1_takeUp := fun w h => List.mem_cons_of_mem _ (List.mem_append_right _ (List.mem_append_right _ (List.mem_append_right _ (List.mem_append_left _ h))))
  have j_Y6_kind : ∀ w ∈ v_Y6_kind, w ∈ v_Y1_takeUp := fun w h => List.mem_cons_of_mem _ (List.mem_append_right _ (List.mem_append_right _ (List.mem_append_right _ (List.mem_append_right _ (List.mem_append_left _ h)))))
  have j_Y6_takeFrom : ∀ w ∈ v_Y6_takeFrom, w ∈ v_Y1_takeUp := fun w h => List.mem_cons_of_mem _ (List.mem_append_right _ (List.mem_append_right _ (List.mem_append_right _ (List.mem_append_right _ (List.mem_append_right _ (List.mem_append_left _ h))))))
  have hown : s.vm.findClass RX1 = some m.cls := findClass_of_methodNamed B.named
  have hlocks := B.notSynchronized
  subst hsz
  have hD := hD0.self (sz := s.heap.size)
  generalize hAe : va_A (wsC K ad S0) s.heap.size = A at hD ⊢
  have hA : ∀ q : Nat, s.heap.size ≤ q → A q := fun q h => by rw [← hAe]; exact Or.inr h
  have hS : va_S A s.heap s.heap [] := va_S.rf
  have hl : lv_has (lg_sl ([.ref (ad x0), .int a1]) ++ List.replicate (3 - (lg_sl ([.ref (ad x0), .int a1])).length) Slot.unset).toArray 3 [(0, .ref (ad x0)), (1, .int a1)] := by
    exact lv_entry ([.ref (ad x0), .int a1]) (n := 3) (Nat.le_of_ble_eq_true rfl)
  rw [lg_entry_eq]
  generalize (lg_sl ([.ref (ad x0), .int a1]) ++ List.replicate (3 - (lg_sl ([.ref (ad x0), .int a1])).length) Slot.unset).toArray = ls_ at hl ⊢
  refine wGen (fun Q hQ => ?_)
  obtain ⟨X, hX⟩ : ∃ X, f_Y1_takeUp S0 x0 a1 = X := ⟨_, rfl⟩
  have B_Y1_takeUp_37 : ∀ (S : Cst) (x1 : Int32) (x2 : Option Nat) (H : Heap) (locs : List Loc) (ls_ : Array Slot), b_Y1_takeUp_37 S x0 x1 x2 = X → q_Y1_takeUp_37 S x0 x1 x2 → eK S0 S → va_P G vwCl (wsC K ad S) H → va_D A (wsC K ad S) → va_S A s.heap H locs → lv_has ls_ 3 [(0, .ref (ad x0)), (1, .int x1), (2, va_re ad x2)] → W p l e ({ frames := 3, cells := 0, slots := 0, locals := 64 } : Room) s m #[Value.ref (ad x0), Value.int a1] below meth c H locs 0 0 Q (F0 m 37 ls_ []) := by
    intro S x1 x2 H locs ls_ hE hp hZ hP hD hS hl
    unfold b_Y1_takeUp_37 at hE
    unfold q_Y1_takeUp_37 at hp
    refine lv_aload_n hx hb dX1_takeUp_37 rfl (lv_at hl 0 rfl) ?_
    refine va_get (D := G) (ci := 0) (v := va_re ad (grC S x0 2)) (C := RX0) (T := TX0) (N := 11) hx hb hts iX0 hown hK hP x0 (at_0 (k_x0.e hZ)) rfl 2 (by decide) (hw (.fieldLink RX1 121 "MotionFloor$Assembly" "draft" "LMotionFloor$Place;") (List.mem_of_getElem? (i := 4) rfl)) (fun _ h9 => h9) rfl dX1_takeUp_38 ?_
    obtain ⟨hy7, hp⟩ := hp
    refine cTop (r := (grC S x0 2)) hy7.1 ?_
    obtain ⟨hy8, hp⟩ := hp
    refine cGoi (va_runV (As := []) (rest := []) ⟨hx, hb, hml, hown, hts⟩ (c_Y6_kind l G K ad S ((grC S x0 2).getD 0) _) (cwV 0 hts (wGV t_ (mw (.methodLink RX1 183 yX6_kind) (List.mem_of_getElem? (i := 6) rfl)) (mw (.instanceMethod yX6_kind) (List.mem_of_getElem? (i := 7) rfl)) (mw (.selects RX6 yX6_kind yX6_kind) (List.mem_of_getElem? (i := 8) rfl)) (mw (.initialized RX6) (List.mem_of_getElem? (i := 9) rfl)) j_Y6_kind) rfl rfl rfl (by decide +kernel) ⟨Nat.le_of_ble_eq_true rfl, Nat.le_of_ble_eq_true rfl⟩) (cPV hK hTE hP hD 5 rfl (at_5 hy7.2) ⟨hy7.2, hy8⟩) rfl rfl hl.1 rfl (lv_room (Nat.le_of_ble_eq_true rfl)) dX1_takeUp_41 ⟨Nat.le_of_ble_eq_true rfl, Nat.le_of_ble_eq_true rfl⟩) hP hD hS hA (fun r10 u9 H locs hv hP hD hS => ?_)
    have h1 := congrArg Prod.fst hv
    have h2 := (congrArg Prod.snd hv).symm
    dsimp only at h1 h2
    subst h1
    subst h2
    subst hQ
    exact W.iret (v := (f_Y6_kind S ((grC S x0 2).getD 0))) hx hb hr (fun t ht hW => ⟨⟨(f_Y6_kind S ((grC S x0 2).getD 0)), S, rfl, ⟨hE.trans hX.symm, hZ⟩, by rw [ht]; exact hP, hD⟩, hS.F ht⟩) hS.2.2 dX1_takeUp_44
  have B_Y1_takeUp_18 : ∀ (S : Cst) (x1 : Int32) (x2 : Option Nat) (H : Heap) (locs : List Loc) (ls_ : Array Slot), b_Y1_takeUp_18 S x0 x1 x2 = X → q_Y1_takeUp_18 S x0 x1 x2 → eK S0 S → va_P G vwCl (wsC K ad S) H → va_D A (wsC K ad S) → va_S A s.heap H locs → lv_has ls_ 3 [(0, .ref (ad x0)), (1, .int x1), (2, va_re ad x2)] → W p l e ({ frames := 3, cells := 0, slots := 0, locals := 64 } : Room) s m #[Value.ref (ad x0), Value.int a1] below meth c H locs 0 0 Q (F0 m 18 ls_ []) := by
    intro S x1 x2 H locs ls_ hE hp hZ hP hD hS hl
    unfold b_Y1_takeUp_18 at hE
    unfold q_Y1_takeUp_18 at hp
    refine lv_aload_n hx hb dX1_takeUp_18 rfl (lv_at hl 0 rfl) ?_
    refine va_get (D := G) (ci := 0) (v := va_re ad (grC S x0 2)) (C := RX0) (T := TX0) (N := 11) hx hb hts iX0 hown hK hP x0 (at_0 (k_x0.e hZ)) rfl 2 (by decide) (hw (.fieldLink RX1 121 "MotionFloor$Assembly" "draft" "LMotionFloor$Place;") (List.mem_of_getElem? (i := 4) rfl)) (fun _ h9 => h9) rfl dX1_takeUp_19 ?_
    obtain ⟨hy5, hp⟩ := hp
    refine cTop (r := (grC S x0 2)) hy5.1 ?_
    refine va_get (D := G) (ci := 5) (v := .int (giC S ((grC S x0 2).getD 0) 0)) (C := RX6) (T := TX6) (N := 2) hx hb hts iX6 hown hK hP ((grC S x0 2).getD 0) (at_5 hy5.2) rfl 0 (by decide) (hw (.fieldLink RX1 180 "MotionFloor$Place" "sort" "I") (List.mem_of_getElem? (i := 5) rfl)) (fun _ h9 => h9) rfl dX1_takeUp_22 ?_
    refine lv_iconst (v := 1) hx hb dX1_takeUp_25 (by decide) ?_
    refine lv_icmp_ne (tgt := 37) hx hb dX1_takeUp_26 (by decide) (fun c6 => ?_) (fun c6 => ?_)
    · rw [if_neg c6] at hE hp
      exact B_Y1_takeUp_37 S x1 x2 _ _ _ hE hp hZ hP hD hS (lv_sub hl [0, 1, 2] rfl)
    · rw [if_pos c6] at hE hp
      refine lv_aload_n hx hb dX1_takeUp_29 rfl (lv_at hl 0 rfl) ?_
      refine va_get (D := G) (ci := 0) (v := va_re ad (grC S x0 2)) (C := RX0) (T := TX0) (N := 11) hx hb hts iX0 hown hK hP x0 (at_0 (k_x0.e hZ)) rfl 2 (by decide) (hw (.fieldLink RX1 121 "MotionFloor$Assembly" "draft" "LMotionFloor$Place;") (List.mem_of_getElem? (i := 4) rfl)) (fun _ h9 => h9) rfl dX1_takeUp_30 ?_
      refine lv_iconst (v := 2) hx hb dX1_takeUp_33 (by decide) ?_
      obtain ⟨hy11, hp⟩ := hp
      refine cTop2 (r := (grC S x0 2)) hy11.1 ?_
      refine va_put (D := G) (ci := 5) (v := .int 2) (ty := .int) (C := RX6) (T := TX6) (N := 2) hx hb hts iX6 tyX6 tyX6_ok nmX6 hown hK hP hD hS ((grC S x0 2).getD 0) (at_5 hy11.2) rfl 0 (by decide) (hw (.fieldLink RX1 180 "MotionFloor$Place" "sort" "I") (List.mem_of_getElem? (i := 5) rfl)) (fun _ h9 => h9) rfl (by decide +kernel) rfl rfl (Nat.le_of_ble_eq_true rfl) dX1_takeUp_34 (fun H locs hP hD hS => ?_)
      rw [st_5_0 hy11.2] at hP hD
      have hZ := hZ.tr (eK.si S ((grC S x0 2).getD 0) 0 (2 : Int32))
      exact B_Y1_takeUp_37 (siC S ((grC S x0 2).getD 0) 0 (2 : Int32)) x1 x2 _ _ _ hE hp hZ hP hD hS (lv_sub hl [0, 1, 2] rfl)
  have B_M : ∀ (S : Cst) (x1 : Int32) (H : Heap) (locs : List Loc) (ls_ : Array Slot), f_Y1_takeUp S x0 x1 = X → p_Y1_takeUp S x0 x1 → eK S0 S → va_P G vwCl (wsC K ad S) H → va_D A (wsC K ad S) → va_S A s.heap H locs → lv_has ls_ 3 [(0, .ref (ad x0)), (1, .int x1)] → W p l e ({ frames := 3, cells := 0, slots := 0, locals := 64 } : Room) s m #[Value.ref (ad x0), Value.int a1] below meth c H locs 0 0 Q (F0 m 0 ls_ []) := by
    intro S x1 H locs ls_ hE hp hZ hP hD hS hl
    unfold f_Y1_takeUp at hE
    unfold p_Y1_takeUp at hp
    refine lv_aload_n hx hb dX1_takeUp_0 rfl (lv_at hl 0 rfl) ?_
    refine lv_iload_n hx hb dX1_takeUp_1 rfl (lv_at hl 1 rfl) ?_
    obtain ⟨hy1, hp⟩ := hp
    refine cGoq (va_runV (As := [.int x1]) (rest := []) ⟨hx, hb, hml, hown, hts⟩ (c_Y0_placeAt l G K ad S x0 x1 _) (cwV 1 hts (wGV t_ (mw (.methodLink RX1 159 yX0_placeAt) (List.mem_of_getElem? (i := 0) rfl)) (mw (.instanceMethod yX0_placeAt) (List.mem_of_getElem? (i := 1) rfl)) (mw (.selects RX0 yX0_placeAt yX0_placeAt) (List.mem_of_getElem? (i := 2) rfl)) (mw (.initialized RX0) (List.mem_of_getElem? (i := 3) rfl)) j_Y0_placeAt) rfl rfl rfl (by decide +kernel) ⟨Nat.le_of_ble_eq_true rfl, Nat.le_of_ble_eq_true rfl⟩) (cPV hK hTE hP hD 0 rfl (at_0 (k_x0.e hZ)) ⟨(k_x0.e hZ), hy1⟩) rfl rfl hl.1 rfl (lv_room (Nat.le_of_ble_eq_true rfl)) dX1_takeUp_2 ⟨Nat.le_of_ble_eq_true rfl, Nat.le_of_ble_eq_true rfl⟩) hP hD hS hA (fun r3 u2 H locs hv hP hD hS => ?_)
    have h1 := congrArg Prod.fst hv
    have h2 := (congrArg Prod.snd hv).symm
    dsimp only at h1 h2
    subst h1
    subst h2
    refine cAstore_n (ad := ad) (r := (f_Y0_placeAt S x0 x1)) (i := 2) (lv' := [(2, va_re ad (f_Y0_placeAt S x0 x1)), (0, .ref (ad x0)), (1, .int x1)]) hx hb dX1_takeUp_5 rfl hl (by decide) rfl (fun ls_ hl => ?_)
    refine cAload_n (ad := ad) (r := (f_Y0_placeAt S x0 x1)) hx hb dX1_takeUp_6 rfl (lv_at hl 0 rfl) ?_
    refine cIfnull (ad := ad) (r := (f_Y0_placeAt S x0 x1)) (tgt := 18) hx hb dX1_takeUp_7 (by decide) (fun c4 => ?_) (fun c4 => ?_)
    · rw [if_pos c4] at hE hp
      exact B_Y1_takeUp_18 S x1 (f_Y0_placeAt S x0 x1) _ _ _ hE hp hZ hP hD hS (lv_sub hl [1, 2, 0] rfl)
    · rw [if_neg c4] at hE hp
      refine lv_aload_n hx hb dX1_takeUp_10 rfl (lv_at hl 1 rfl) ?_
      refine va_get (D := G) (ci := 0) (v := va_re ad (grC S x0 2)) (C := RX0) (T := TX0) (N := 11) hx hb hts iX0 hown hK hP x0 (at_0 (k_x0.e hZ)) rfl 2 (by decide) (hw (.fieldLink RX1 121 "MotionFloor$Assembly" "draft" "LMotionFloor$Place;") (List.mem_of_getElem? (i := 4) rfl)) (fun _ h9 => h9) rfl dX1_takeUp_11 ?_
      refine cAload_n (ad := ad) (r := (f_Y0_placeAt S x0 x1)) hx hb dX1_takeUp_14 rfl (lv_at hl 0 rfl) ?_
      obtain ⟨hy12, hp⟩ := hp
      refine cTop2 (r := (grC S x0 2)) hy12.1 ?_
      obtain ⟨hy13, hp⟩ := hp
      refine cTop (r := (f_Y0_placeAt S x0 x1)) hy13.1 ?_
      obtain ⟨hy14, hp⟩ := hp
      refine cGov (va_runV (As := [.ref (ad ((f_Y0_placeAt S x0 x1).getD 0))]) (rest := []) ⟨hx, hb, hml, hown, hts⟩ (c_Y6_takeFrom l G K ad S ((grC S x0 2).getD 0) ((f_Y0_placeAt S x0 x1).getD 0) _) (cwV 1 hts (wGV t_ (mw (.methodLink RX1 177 yX6_takeFrom) (List.mem_of_getElem? (i := 10) rfl)) (mw (.instanceMethod yX6_takeFrom) (List.mem_of_getElem? (i := 11) rfl)) (mw (.selects RX6 yX6_takeFrom yX6_takeFrom) (List.mem_of_getElem? (i := 12) rfl)) (mw (.initialized RX6) (List.mem_of_getElem? (i := 9) rfl)) j_Y6_takeFrom) rfl rfl rfl (by decide +kernel) ⟨Nat.le_of_ble_eq_true rfl, Nat.le_of_ble_eq_true rfl⟩) (cPV hK hTE hP hD 5 rfl (at_5 hy12.2) ⟨hy12.2, hy13.2, hy14⟩) rfl rfl hl.1 rfl (lv_room (Nat.le_of_ble_eq_true rfl)) dX1_takeUp_15 ⟨Nat.le_of_ble_eq_true rfl, Nat.le_of_ble_eq_true rfl⟩) hP hD hS hA (fun u15 H locs hv hP hD hS => ?_)
      obtain ⟨hv, hz⟩ := hv
      have hZ := hZ.tr hz
      rw [← hv] at hE hp
      dsimp only at hE hp
      exact B_Y1_takeUp_18 u15 x1 (f_Y0_placeAt S x0 x1) _ _ _ hE hp hZ hP hD hS (lv_sub hl [1, 2, 0] rfl)
  exact B_M S0 a1 _ _ _ hX hp (eK.rf S0) hP hD hS hl
theorem gdX1_bringUp_0 : ckS (List.drop 0 cX1_bringUp.data.toList) 0 [(0, .aload_n 0, 1), (1, .getfield 121, 3), (4, .invokevirtual 139, 3), (7, .astore_n 2, 1), (8, .aload_n 2, 1), (9, .ifnull 31, 3), (12, .aload_n 0, 1), (13, .dup, 1), (14, .getfield 187, 3), (17, .iconst 1, 1), (18, .iadd, 1), (19, .putfield 187, 3), (22, .aload_n 2, 1), (23, .aload_n 0, 1), (24, .getfield 187, 3), (27, .putfield 171, 3), (30, .aload_n 2, 1), (31, .iload_n 1, 1), (32, .putfield 190, 3), (35, .aload_n 2, 1), (36, .iconst 0, 1), (37, .putfield 163, 3), (40, .aload_n 0, 1), (41, .getfield 121, 3), (44, .getfield 193, 3), (47, .aload_n 0, 1), (48, .getfield 9, 3), (51, .invokevirtual 196, 3), (54, .aload_n 0, 1), (55, .getfield 121, 3), (58, .iconst 0, 1), (59, .putfield 180, 3), (62, .aload_n 0, 1), (63, .getfield 21, 3), (66, .iconst (-1), 1), (67, .putfield 112, 3), (70, .aload_n 0, 1), (71, .getfield 9, 3), (74, .getfield 96, 3), (77, .ireturn, 1)] = true := by decide +kernel
theorem dX1_bringUp_0 : decode cX1_bringUp 0 = .ok (.aload_n 0, 1) := ckS_g gdX1_bringUp_0 0 rfl
theorem dX1_bringUp_1 : decode cX1_bringUp 1 = .ok (.getfield 121, 3) := ckS_g gdX1_bringUp_0 1 rfl
theorem dX1_bringUp_4 : decode cX1_bringUp 4 = .ok (.invokevirtual 139, 3) := ckS_g gdX1_bringUp_0 2 rfl
theorem dX1_bringUp_7 : decode cX1_bringUp 7 = .ok (.astore_n 2, 1) := ckS_g gdX1_bringUp_0 3 rfl
theorem dX1_bringUp_8 : decode cX1_bringUp 8 = .ok (.aload_n 2, 1) := ckS_g gdX1_bringUp_0 4 rfl
theorem dX1_bringUp_9 : decode cX1_bringUp 9 = .ok (.ifnull 31, 3) := ckS_g gdX1_bringUp_0 5 rfl
theorem dX1_bringUp_12 : decode cX1_bringUp 12 = .ok (.aload_n 0, 1) := ckS_g gdX1_bringUp_0 6 rfl
theorem dX1_bringUp_13 : decode cX1_bringUp 13 = .ok (.dup, 1) := ckS_g gdX1_bringUp_0 7 rfl
theorem dX1_bringUp_14 : decode cX1_bringUp 14 = .ok (.getfield 187, 3) := ckS_g gdX1_bringUp_0 8 rfl
theorem dX1_bringUp_17 : decode cX1_bringUp 17 = .ok (.iconst 1, 1) := ckS_g gdX1_bringUp_0 9 rfl
theorem dX1_bringUp_18 : decode cX1_bringUp 18 = .ok (.iadd, 1) := ckS_g gdX1_bringUp_0 10 rfl
theorem dX1_bringUp_19 : decode cX1_bringUp 19 = .ok (.putfield 187, 3) := ckS_g gdX1_bringUp_0 11 rfl
theorem dX1_bringUp_22 : decode cX1_bringUp 22 = .ok (.aload_n 2, 1) := ckS_g gdX1_bringUp_0 12 rfl
theorem dX1_bringUp_23 : decode cX1_bringUp 23 = .ok (.aload_n 0, 1) := ckS_g gdX1_bringUp_0 13 rfl
theorem dX1_bringUp_24 : decode cX1_bringUp 24 = .ok (.getfield 187, 3) := ckS_g gdX1_bringUp_0 14 rfl
theorem dX1_bringUp_27 : decode cX1_bringUp 27 = .ok (.putfield 171, 3) := ckS_g gdX1_bringUp_0 15 rfl
theorem dX1_bringUp_30 : decode cX1_bringUp 30 = .ok (.aload_n 2, 1) := ckS_g gdX1_bringUp_0 16 rfl
theorem dX1_bringUp_31 : decode cX1_bringUp 31 = .ok (.iload_n 1, 1) := ckS_g gdX1_bringUp_0 17 rfl
theorem dX1_bringUp_32 : decode cX1_bringUp 32 = .ok (.putfield 190, 3) := ckS_g gdX1_bringUp_0 18 rfl
theorem dX1_bringUp_35 : decode cX1_bringUp 35 = .ok (.aload_n 2, 1) := ckS_g gdX1_bringUp_0 19 rfl
theorem dX1_bringUp_36 : decode cX1_bringUp 36 = .ok (.iconst 0, 1) := ckS_g gdX1_bringUp_0 20 rfl
theorem dX1_bringUp_37 : decode cX1_bringUp 37 = .ok (.putfield 163, 3) := ckS_g gdX1_bringUp_0 21 rfl
theorem dX1_bringUp_40 : decode cX1_bringUp 40 = .ok (.aload_n 0, 1) := ckS_g gdX1_bringUp_0 22 rfl
theorem dX1_bringUp_41 : decode cX1_bringUp 41 = .ok (.getfield 121, 3) := ckS_g gdX1_bringUp_0 23 rfl
theorem dX1_bringUp_44 : decode cX1_bringUp 44 = .ok (.getfield 193, 3) := ckS_g gdX1_bringUp_0 24 rfl
theorem dX1_bringUp_47 : decode cX1_bringUp 47 = .ok (.aload_n 0, 1) := ckS_g gdX1_bringUp_0 25 rfl
theorem dX1_bringUp_48 : decode cX1_bringUp 48 = .ok (.getfield 9, 3) := ckS_g gdX1_bringUp_0 26 rfl
theorem dX1_bringUp_51 : decode cX1_bringUp 51 = .ok (.invokevirtual 196, 3) := ckS_g gdX1_bringUp_0 27 rfl
theorem dX1_bringUp_54 : decode cX1_bringUp 54 = .ok (.aload_n 0, 1) := ckS_g gdX1_bringUp_0 28 rfl
theorem dX1_bringUp_55 : decode cX1_bringUp 55 = .ok (.getfield 121, 3) := ckS_g gdX1_bringUp_0 29 rfl
theorem dX1_bringUp_58 : decode cX1_bringUp 58 = .ok (.iconst 0, 1) := ckS_g gdX1_bringUp_0 30 rfl
theorem dX1_bringUp_59 : decode cX1_bringUp 59 = .ok (.putfield 180, 3) := ckS_g gdX1_bringUp_0 31 rfl
theorem dX1_bringUp_62 : decode cX1_bringUp 62 = .ok (.aload_n 0, 1) := ckS_g gdX1_bringUp_0 32 rfl
theorem dX1_bringUp_63 : decode cX1_bringUp 63 = .ok (.getfield 21, 3) := ckS_g gdX1_bringUp_0 33 rfl
theorem dX1_bringUp_66 : decode cX1_bringUp 66 = .ok (.iconst (-1), 1) := ckS_g gdX1_bringUp_0 34 rfl
theorem dX1_bringUp_67 : decode cX1_bringUp 67 = .ok (.putfield 112, 3) := ckS_g gdX1_bringUp_0 35 rfl
theorem dX1_bringUp_70 : decode cX1_bringUp 70 = .ok (.aload_n 0, 1) := ckS_g gdX1_bringUp_0 36 rfl
theorem dX1_bringUp_71 : decode cX1_bringUp 71 = .ok (.getfield 9, 3) := ckS_g gdX1_bringUp_0 37 rfl
theorem dX1_bringUp_74 : decode cX1_bringUp 74 = .ok (.getfield 96, 3) := ckS_g gdX1_bringUp_0 38 rfl
theorem dX1_bringUp_77 : decode cX1_bringUp 77 = .ok (.ireturn, 1) := ckS_g gdX1_bringUp_0 39 rfl
set_option maxRecDepth 100000 in
theorem zc193 : wZ (.fieldLink RX1 190 "MotionFloor$Motion" "mover" "I") := ⟨wT3 (List.mem_of_getElem? (i := 22) (by decide +kernel)), Or.inl rfl⟩
set_option maxRecDepth 100000 in
theorem zc194 : wZ (.fieldLink RX1 187 "MotionFloor$Assembly" "names" "I") := ⟨wT1 (List.mem_of_getElem? (i := 208) (by decide +kernel)), Or.inl rfl⟩
set_option maxRecDepth 100000 in
theorem zc195 : wZ (.fieldLink RX1 96 "MotionFloor$Pile" "size" "I") := ⟨wT1 (List.mem_of_getElem? (i := 88) (by decide +kernel)), Or.inl rfl⟩
set_option maxRecDepth 100000 in
theorem zc196 : wZ (.fieldLink RX1 21 "MotionFloor$Assembly" "house" "LMotionFloor$House;") := ⟨wT1 (List.mem_of_getElem? (i := 179) (by decide +kernel)), Or.inl rfl⟩
set_option maxRecDepth 100000 in
theorem zc197 : wZ (.methodLink RX1 196 yX5_pourInto) := ⟨wT3 (List.mem_of_getElem? (i := 150) (by decide +kernel)), Or.inl rfl⟩
set_option maxRecDepth 100000 in
theorem zc198 : wZ (.fieldLink RX1 193 "MotionFloor$Place" "pile" "LMotionFloor$Pile;") := ⟨wT1 (List.mem_of_getElem? (i := 114) (by decide +kernel)), Or.inl rfl⟩
set_option maxRecDepth 100000 in
theorem zc199 : wZ (.code yX1_bringUp cX1_bringUp 3 (some .int)) := ⟨wT3 (List.mem_of_getElem? (i := 149) rfl), Or.inl rfl⟩
def b_Y1_bringUp_54a (S : Cst) (x0 : Nat) (x1 : Int32) (x2 : Option Nat) : Int32 × Cst := ((giC (siC (siC S ((grC S x0 2).getD 0) 0 (0 : Int32)) ((grC (siC S ((grC S x0 2).getD 0) 0 (0 : Int32)) x0 0).getD 0) 6 ((-1) : Int32)) ((grC (siC (siC S ((grC S x0 2).getD 0) 0 (0 : Int32)) ((grC (siC S ((grC S x0 2).getD 0) 0 (0 : Int32)) x0 0).getD 0) 6 ((-1) : Int32)) x0 1).getD 0) 1), (siC (siC S ((grC S x0 2).getD 0) 0 (0 : Int32)) ((grC (siC S ((grC S x0 2).getD 0) 0 (0 : Int32)) x0 0).getD 0) 6 ((-1) : Int32)))
def q_Y1_bringUp_54a (S : Cst) (x0 : Nat) (x1 : Int32) (x2 : Option Nat) : Prop := (iR S (grC S x0 2) 5) ∧ (iR (siC S ((grC S x0 2).getD 0) 0 (0 : Int32)) (grC (siC S ((grC S x0 2).getD 0) 0 (0 : Int32)) x0 0) 1) ∧ (iR (siC (siC S ((grC S x0 2).getD 0) 0 (0 : Int32)) ((grC (siC S ((grC S x0 2).getD 0) 0 (0 : Int32)) x0 0).getD 0) 6 ((-1) : Int32)) (grC (siC (siC S ((grC S x0 2).getD 0) 0 (0 : Int32)) ((grC (siC S ((grC S x0 2).getD 0) 0 (0 : Int32)) x0 0).getD 0) 6 ((-1) : Int32)) x0 1) 4) ∧ True
def b_Y1_bringUp_40 (S : Cst) (x0 : Nat) (x1 : Int32) (x2 : Option Nat) : Int32 × Cst := (b_Y1_bringUp_54a ((f_Y5_pourInto S ((grC S ((grC S x0 2).getD 0) 1).getD 0) ((grC S x0 1).getD 0)).2) x0 x1 x2)
def q_Y1_bringUp_40 (S : Cst) (x0 : Nat) (x1 : Int32) (x2 : Option Nat) : Prop := (iR S (grC S x0 2) 5) ∧ (iR S (grC S ((grC S x0 2).getD 0) 1) 4) ∧ (iR S (grC S x0 1) 4) ∧ (p_Y5_pourInto S ((grC S ((grC S x0 2).getD 0) 1).getD 0) ((grC S x0 1).getD 0)) ∧ (q_Y1_bringUp_54a ((f_Y5_pourInto S ((grC S ((grC S x0 2).getD 0) 1).getD 0) ((grC S x0 1).getD 0)).2) x0 x1 x2)
def f_Y1_bringUp (S : Cst) (x0 : Nat) (x1 : Int32) : Int32 × Cst := if (f_Y6_motion S ((grC S x0 2).getD 0)) = none then (b_Y1_bringUp_40 S x0 x1 (f_Y6_motion S ((grC S x0 2).getD 0))) else (b_Y1_bringUp_40 (siC (siC (siC (siC S x0 8 ((giC S x0 8) + 1)) ((f_Y6_motion S ((grC S x0 2).getD 0)).getD 0) 0 (giC (siC S x0 8 ((giC S x0 8) + 1)) x0 8)) ((f_Y6_motion S ((grC S x0 2).getD 0)).getD 0) 3 x1) ((f_Y6_motion S ((grC S x0 2).getD 0)).getD 0) 10 (0 : Int32)) x0 x1 (f_Y6_motion S ((grC S x0 2).getD 0)))
def p_Y1_bringUp (S : Cst) (x0 : Nat) (x1 : Int32) : Prop := (iR S (grC S x0 2) 5) ∧ (p_Y6_motion S ((grC S x0 2).getD 0)) ∧ (if (f_Y6_motion S ((grC S x0 2).getD 0)) = none then (q_Y1_bringUp_40 S x0 x1 (f_Y6_motion S ((grC S x0 2).getD 0))) else (iR (siC S x0 8 ((giC S x0 8) + 1)) (f_Y6_motion S ((grC S x0 2).getD 0)) 3) ∧ (iR (siC (siC S x0 8 ((giC S x0 8) + 1)) ((f_Y6_motion S ((grC S x0 2).getD 0)).getD 0) 0 (giC (siC S x0 8 ((giC S x0 8) + 1)) x0 8)) (f_Y6_motion S ((grC S x0 2).getD 0)) 3) ∧ (iR (siC (siC (siC S x0 8 ((giC S x0 8) + 1)) ((f_Y6_motion S ((grC S x0 2).getD 0)).getD 0) 0 (giC (siC S x0 8 ((giC S x0 8) + 1)) x0 8)) ((f_Y6_motion S ((grC S x0 2).getD 0)).getD 0) 3 x1) (f_Y6_motion S ((grC S x0 2).getD 0)) 3) ∧ (q_Y1_bringUp_40 (siC (siC (siC (siC S x0 8 ((giC S x0 8) + 1)) ((f_Y6_motion S ((grC S x0 2).getD 0)).getD 0) 0 (giC (siC S x0 8 ((giC S x0 8) + 1)) x0 8)) ((f_Y6_motion S ((grC S x0 2).getD 0)).getD 0) 3 x1) ((f_Y6_motion S ((grC S x0 2).getD 0)).getD 0) 10 (0 : Int32)) x0 x1 (f_Y6_motion S ((grC S x0 2).getD 0))))
def e_Y1_bringUp : List Cond := [.fieldLink RX1 121 "MotionFloor$Assembly" "draft" "LMotionFloor$Place;", .methodLink RX1 139 yX6_motion, .instanceMethod yX6_motion, .selects RX6 yX6_motion yX6_motion, .initialized RX6, .fieldLink RX1 193 "MotionFloor$Place" "pile" "LMotionFloor$Pile;", .fieldLink RX1 9 "MotionFloor$Assembly" "pending" "LMotionFloor$Pile;", .methodLink RX1 196 yX5_pourInto, .instanceMethod yX5_pourInto, .selects RX5 yX5_pourInto yX5_pourInto, .initialized RX5, .fieldLink RX1 180 "MotionFloor$Place" "sort" "I", .fieldLink RX1 21 "MotionFloor$Assembly" "house" "LMotionFloor$House;", .fieldLink RX1 112 "MotionFloor$House" "speaker" "I", .fieldLink RX1 96 "MotionFloor$Pile" "size" "I", .fieldLink RX1 187 "MotionFloor$Assembly" "names" "I", .fieldLink RX1 171 "MotionFloor$Motion" "name" "I", .fieldLink RX1 190 "MotionFloor$Motion" "mover" "I", .fieldLink RX1 163 "MotionFloor$Motion" "laid" "Z"]
def v_Y1_bringUp : List Cond := .code yX1_bringUp cX1_bringUp 3 (some .int) :: (e_Y1_bringUp ++ (wsX00 ++ (wsX60 ++ (wsX20 ++ (wsX50 ++ (wsX40 ++ (v_Y6_motion ++ (v_Y5_pourInto ++ []))))))))
theorem te_Y1_bringUp : GoodIn lw_tbl e_Y1_bringUp := wGc zc146 (wGc zc145 (wGc zc128 (wGc zc127 (wGc zc112 (wGc zc198 (wGc zc181 (wGc zc197 (wGc zc163 (wGc zc162 (wGc zc34 (wGc zc191 (wGc zc196 (wGc zc138 (wGc zc195 (wGc zc194 (wGc zc168 (wGc zc193 (wGc zc174 (wG0)))))))))))))))))))
theorem t_Y1_bringUp : GoodIn lw_tbl v_Y1_bringUp := wGc zc199 (wGa te_Y1_bringUp (wGa zcX0 (wGa zcX6 (wGa zcX2 (wGa zcX5 (wGa zcX4 (wGa t_Y6_motion (wGa t_Y5_pourInto (wG0)))))))))
set_option maxHeartbeats 4000000 in
set_option maxRecDepth 100000 in
theorem c_Y1_bringUp (l : Launch) (G : va_G) (K : Nat → ClassId) (ad : Nat → Nat) (S0 : Cst) (x0 : Nat) (a1 : Int32) (sz : Nat) : Met l yX1_bringUp v_Y1_bringUp ({ frames := 2, cells := 0, slots := 0, locals := 43 }) (va_Pc [.ref (ad x0), .int a1] (cSt G K ad sz S0 (iK S0 x0 0 ∧ p_Y1_bringUp S0 x0 a1))) (va_Qi (fun (r : Int32) (u : Cst) => (r, u) = f_Y1_bringUp S0 x0 a1 ∧ eK S0 u) (cBt G K ad (va_A (wsC K ad S0) sz)) (va_A (wsC K ad S0) sz)) 0 0 (va_A (wsC K ad S0) sz) := by
  refine Met.ofW (cc := cX1_bringUp) (maxL := 3) (ret := (some .int)) (by decide) rfl ?_
  intro p e s m args below meth c s₁ B hml hv
  obtain ⟨rfl, ⟨hsz, hP, hK, hD0, hTE⟩, hp⟩ := hv
  obtain ⟨k_x0, hp⟩ := hp
  have hx := B.exec
  have hb := B.bytes
  have hr := B.returns
  have hts := atoms_spec (ws := v_Y1_bringUp) B.pre
  have t_ := t_Y1_bringUp
  have mw : ∀ w ∈ e_Y1_bringUp, w ∈ v_Y1_bringUp := fun w h => List.mem_cons_of_mem _ (List.mem_append_left _ h)
  have hw := fun w (h : w ∈ e_Y1_bringUp) => hts w (mw w h)
  have iX0 : ∀ w ∈ wsX00, w ∈ v_Y1_bringUp := fun w h => List.mem_cons_of_mem _ (List.mem_append_right _ (List.mem_append_left _ h))
  have iX6 : ∀ w ∈ wsX60, w ∈ v_Y1_bringUp := fun w h => List.mem_cons_of_mem _ (List.mem_append_right _ (List.mem_append_right _ (List.mem_append_left _ h)))
  have iX2 : ∀ w ∈ wsX20, w ∈ v_Y1_bringUp := fun w h => List.mem_cons_of_mem _ (List.mem_append_right _ (List.mem_append_right _ (List.mem_append_right _ (List.mem_append_left _ h))))
  have iX5 : ∀ w ∈ wsX50, w ∈ v_Y1_bringUp := fun w h => List.mem_cons_of_mem _ (List.mem_append_right _ (List.mem_append_right _ (List.mem_append_right _ (List.mem_append_right _ (List.mem_append_left _ h)))))
  have iX4 : ∀ w ∈ wsX40, w ∈ v_Y1_bringUp := fun w h => List.mem_cons_of_mem _ (List.mem_append_right _ (List.mem_append_right _ (List.mem_append_right _ (List.mem_append_right _ (List.mem_append_right _ (List.mem_append_left _ h))))))
  have j_Y6_motion : ∀ w ∈ v_Y6_motion, w ∈ v_Y1_bringUp := fun w h => List.mem_cons_of_mem _ (List.mem_append_right _ (List.mem_append_right _ (List.mem_append_right _ (List.mem_append_right _ (List.mem_append_right _ (List.mem_append_right _ (List.mem_append_left _ h)))))))
  have j_Y5_pourInto : ∀ w ∈ v_Y5_pourInto, w ∈ v_Y1_bringUp := fun w h => List.mem_cons_of_mem _ (List.mem_append_right _ (List.mem_append_right _ (List.mem_append_right _ (List.mem_append_right _ (List.mem_append_right _ (List.mem_append_right _ (List.mem_append_right _ (List.mem_append_left _ h))))))))
  have hown : s.vm.findClass RX1 = some m.cls := findClass_of_methodNamed B.named
  have hlocks := B.notSynchronized
  subst hsz
  have hD := hD0.self (sz := s.heap.size)
  generalize hAe : va_A (wsC K ad S0) s.heap.size = A at hD ⊢
  have hA : ∀ q : Nat, s.heap.size ≤ q → A q := fun q h => by rw [← hAe]; exact Or.inr h
  have hS : va_S A s.heap s.heap [] := va_S.rf
  have hl : lv_has (lg_sl ([.ref (ad x0), .int a1]) ++ List.replicate (3 - (lg_sl ([.ref (ad x0), .int a1])).length) Slot.unset).toArray 3 [(0, .ref (ad x0)), (1, .int a1)] := by
    exact lv_entry ([.ref (ad x0), .int a1]) (n := 3) (Nat.le_of_ble_eq_true rfl)
  rw [lg_entry_eq]
  generalize (lg_sl ([.ref (ad x0), .int a1]) ++ List.replicate (3 - (lg_sl ([.ref (ad x0), .int a1])).length) Slot.unset).toArray = ls_ at hl ⊢
  refine wGen (fun Q hQ => ?_)
  obtain ⟨X, hX⟩ : ∃ X, f_Y1_bringUp S0 x0 a1 = X := ⟨_, rfl⟩
  have B_Y1_bringUp_54a : ∀ (S : Cst) (x1 : Int32) (x2 : Option Nat) (H : Heap) (locs : List Loc) (ls_ : Array Slot), b_Y1_bringUp_54a S x0 x1 x2 = X → q_Y1_bringUp_54a S x0 x1 x2 → eK S0 S → va_P G vwCl (wsC K ad S) H → va_D A (wsC K ad S) → va_S A s.heap H locs → lv_has ls_ 3 [(0, .ref (ad x0)), (1, .int x1), (2, va_re ad x2)] → W p l e ({ frames := 2, cells := 0, slots := 0, locals := 43 } : Room) s m #[Value.ref (ad x0), Value.int a1] below meth c H locs 0 0 Q (F0 m 54 ls_ []) := by
    intro S x1 x2 H locs ls_ hE hp hZ hP hD hS hl
    unfold b_Y1_bringUp_54a at hE
    unfold q_Y1_bringUp_54a at hp
    refine lv_aload_n hx hb dX1_bringUp_54 rfl (lv_at hl 0 rfl) ?_
    refine va_get (D := G) (ci := 0) (v := va_re ad (grC S x0 2)) (C := RX0) (T := TX0) (N := 11) hx hb hts iX0 hown hK hP x0 (at_0 (k_x0.e hZ)) rfl 2 (by decide) (hw (.fieldLink RX1 121 "MotionFloor$Assembly" "draft" "LMotionFloor$Place;") (List.mem_of_getElem? (i := 0) rfl)) (fun _ h9 => h9) rfl dX1_bringUp_55 ?_
    refine lv_iconst (v := 0) hx hb dX1_bringUp_58 (by decide) ?_
    obtain ⟨hy12, hp⟩ := hp
    refine cTop2 (r := (grC S x0 2)) hy12.1 ?_
    refine va_put (D := G) (ci := 5) (v := .int 0) (ty := .int) (C := RX6) (T := TX6) (N := 2) hx hb hts iX6 tyX6 tyX6_ok nmX6 hown hK hP hD hS ((grC S x0 2).getD 0) (at_5 hy12.2) rfl 0 (by decide) (hw (.fieldLink RX1 180 "MotionFloor$Place" "sort" "I") (List.mem_of_getElem? (i := 11) rfl)) (fun _ h9 => h9) rfl (by decide +kernel) rfl rfl (Nat.le_of_ble_eq_true rfl) dX1_bringUp_59 (fun H locs hP hD hS => ?_)
    rw [st_5_0 hy12.2] at hP hD
    have hZ := hZ.tr (eK.si S ((grC S x0 2).getD 0) 0 (0 : Int32))
    refine lv_aload_n hx hb dX1_bringUp_62 rfl (lv_at hl 0 rfl) ?_
    refine va_get (D := G) (ci := 0) (v := va_re ad (grC (siC S ((grC S x0 2).getD 0) 0 (0 : Int32)) x0 0)) (C := RX0) (T := TX0) (N := 11) hx hb hts iX0 hown hK hP x0 (at_0 (k_x0.e hZ)) rfl 0 (by decide) (hw (.fieldLink RX1 21 "MotionFloor$Assembly" "house" "LMotionFloor$House;") (List.mem_of_getElem? (i := 12) rfl)) (fun _ h9 => h9) rfl dX1_bringUp_63 ?_
    refine lv_iconst (v := (-1)) hx hb dX1_bringUp_66 (by decide) ?_
    obtain ⟨hy13, hp⟩ := hp
    refine cTop2 (r := (grC (siC S ((grC S x0 2).getD 0) 0 (0 : Int32)) x0 0)) hy13.1 ?_
    refine va_put (D := G) (ci := 1) (v := .int (-1)) (ty := .int) (C := RX2) (T := TX2) (N := 8) hx hb hts iX2 tyX2 tyX2_ok nmX2 hown hK hP hD hS ((grC (siC S ((grC S x0 2).getD 0) 0 (0 : Int32)) x0 0).getD 0) (at_1 hy13.2) rfl 6 (by decide) (hw (.fieldLink RX1 112 "MotionFloor$House" "speaker" "I") (List.mem_of_getElem? (i := 13) rfl)) (fun _ h9 => h9) rfl (by decide +kernel) rfl rfl (Nat.le_of_ble_eq_true rfl) dX1_bringUp_67 (fun H locs hP hD hS => ?_)
    rw [st_1_6 hy13.2] at hP hD
    have hZ := hZ.tr (eK.si (siC S ((grC S x0 2).getD 0) 0 (0 : Int32)) ((grC (siC S ((grC S x0 2).getD 0) 0 (0 : Int32)) x0 0).getD 0) 6 ((-1) : Int32))
    refine lv_aload_n hx hb dX1_bringUp_70 rfl (lv_at hl 0 rfl) ?_
    refine va_get (D := G) (ci := 0) (v := va_re ad (grC (siC (siC S ((grC S x0 2).getD 0) 0 (0 : Int32)) ((grC (siC S ((grC S x0 2).getD 0) 0 (0 : Int32)) x0 0).getD 0) 6 ((-1) : Int32)) x0 1)) (C := RX0) (T := TX0) (N := 11) hx hb hts iX0 hown hK hP x0 (at_0 (k_x0.e hZ)) rfl 1 (by decide) (hw (.fieldLink RX1 9 "MotionFloor$Assembly" "pending" "LMotionFloor$Pile;") (List.mem_of_getElem? (i := 6) rfl)) (fun _ h9 => h9) rfl dX1_bringUp_71 ?_
    obtain ⟨hy14, hp⟩ := hp
    refine cTop (r := (grC (siC (siC S ((grC S x0 2).getD 0) 0 (0 : Int32)) ((grC (siC S ((grC S x0 2).getD 0) 0 (0 : Int32)) x0 0).getD 0) 6 ((-1) : Int32)) x0 1)) hy14.1 ?_
    refine va_get (D := G) (ci := 4) (v := .int (giC (siC (siC S ((grC S x0 2).getD 0) 0 (0 : Int32)) ((grC (siC S ((grC S x0 2).getD 0) 0 (0 : Int32)) x0 0).getD 0) 6 ((-1) : Int32)) ((grC (siC (siC S ((grC S x0 2).getD 0) 0 (0 : Int32)) ((grC (siC S ((grC S x0 2).getD 0) 0 (0 : Int32)) x0 0).getD 0) 6 ((-1) : Int32)) x0 1).getD 0) 1)) (C := RX5) (T := TX5) (N := 2) hx hb hts iX5 hown hK hP ((grC (siC (siC S ((grC S x0 2).getD 0) 0 (0 : Int32)) ((grC (siC S ((grC S x0 2).getD 0) 0 (0 : Int32)) x0 0).getD 0) 6 ((-1) : Int32)) x0 1).getD 0) (at_4 hy14.2) rfl 1 (by decide) (hw (.fieldLink RX1 96 "MotionFloor$Pile" "size" "I") (List.mem_of_getElem? (i := 14) rfl)) (fun _ h9 => h9) rfl dX1_bringUp_74 ?_
    subst hQ
    exact W.iret (v := (giC (siC (siC S ((grC S x0 2).getD 0) 0 (0 : Int32)) ((grC (siC S ((grC S x0 2).getD 0) 0 (0 : Int32)) x0 0).getD 0) 6 ((-1) : Int32)) ((grC (siC (siC S ((grC S x0 2).getD 0) 0 (0 : Int32)) ((grC (siC S ((grC S x0 2).getD 0) 0 (0 : Int32)) x0 0).getD 0) 6 ((-1) : Int32)) x0 1).getD 0) 1)) hx hb hr (fun t ht hW => ⟨⟨(giC (siC (siC S ((grC S x0 2).getD 0) 0 (0 : Int32)) ((grC (siC S ((grC S x0 2).getD 0) 0 (0 : Int32)) x0 0).getD 0) 6 ((-1) : Int32)) ((grC (siC (siC S ((grC S x0 2).getD 0) 0 (0 : Int32)) ((grC (siC S ((grC S x0 2).getD 0) 0 (0 : Int32)) x0 0).getD 0) 6 ((-1) : Int32)) x0 1).getD 0) 1), (siC (siC S ((grC S x0 2).getD 0) 0 (0 : Int32)) ((grC (siC S ((grC S x0 2).getD 0) 0 (0 : Int32)) x0 0).getD 0) 6 ((-1) : Int32)), rfl, ⟨hE.trans hX.symm, hZ⟩, by rw [ht]; exact hP, hD⟩, hS.F ht⟩) hS.2.2 dX1_bringUp_77
  have B_Y1_bringUp_40 : ∀ (S : Cst) (x1 : Int32) (x2 : Option Nat) (H : Heap) (locs : List Loc) (ls_ : Array Slot), b_Y1_bringUp_40 S x0 x1 x2 = X → q_Y1_bringUp_40 S x0 x1 x2 → eK S0 S → va_P G vwCl (wsC K ad S) H → va_D A (wsC K ad S) → va_S A s.heap H locs → lv_has ls_ 3 [(0, .ref (ad x0)), (1, .int x1), (2, va_re ad x2)] → W p l e ({ frames := 2, cells := 0, slots := 0, locals := 43 } : Room) s m #[Value.ref (ad x0), Value.int a1] below meth c H locs 0 0 Q (F0 m 40 ls_ []) := by
    intro S x1 x2 H locs ls_ hE hp hZ hP hD hS hl
    unfold b_Y1_bringUp_40 at hE
    unfold q_Y1_bringUp_40 at hp
    refine lv_aload_n hx hb dX1_bringUp_40 rfl (lv_at hl 0 rfl) ?_
    refine va_get (D := G) (ci := 0) (v := va_re ad (grC S x0 2)) (C := RX0) (T := TX0) (N := 11) hx hb hts iX0 hown hK hP x0 (at_0 (k_x0.e hZ)) rfl 2 (by decide) (hw (.fieldLink RX1 121 "MotionFloor$Assembly" "draft" "LMotionFloor$Place;") (List.mem_of_getElem? (i := 0) rfl)) (fun _ h9 => h9) rfl dX1_bringUp_41 ?_
    obtain ⟨hy6, hp⟩ := hp
    refine cTop (r := (grC S x0 2)) hy6.1 ?_
    refine va_get (D := G) (ci := 5) (v := va_re ad (grC S ((grC S x0 2).getD 0) 1)) (C := RX6) (T := TX6) (N := 2) hx hb hts iX6 hown hK hP ((grC S x0 2).getD 0) (at_5 hy6.2) rfl 1 (by decide) (hw (.fieldLink RX1 193 "MotionFloor$Place" "pile" "LMotionFloor$Pile;") (List.mem_of_getElem? (i := 5) rfl)) (fun _ h9 => h9) rfl dX1_bringUp_44 ?_
    refine lv_aload_n hx hb dX1_bringUp_47 rfl (lv_at hl 0 rfl) ?_
    refine va_get (D := G) (ci := 0) (v := va_re ad (grC S x0 1)) (C := RX0) (T := TX0) (N := 11) hx hb hts iX0 hown hK hP x0 (at_0 (k_x0.e hZ)) rfl 1 (by decide) (hw (.fieldLink RX1 9 "MotionFloor$Assembly" "pending" "LMotionFloor$Pile;") (List.mem_of_getElem? (i := 6) rfl)) (fun _ h9 => h9) rfl dX1_bringUp_48 ?_
    obtain ⟨hy7, hp⟩ := hp
    refine cTop2 (r := (grC S ((grC S x0 2).getD 0) 1)) hy7.1 ?_
    obtain ⟨hy8, hp⟩ := hp
    refine cTop (r := (grC S x0 1)) hy8.1 ?_
    obtain ⟨hy9, hp⟩ := hp
    refine cGov (va_runV (As := [.ref (ad ((grC S x0 1).getD 0))]) (rest := []) ⟨hx, hb, hml, hown, hts⟩ (c_Y5_pourInto l G K ad S ((grC S ((grC S x0 2).getD 0) 1).getD 0) ((grC S x0 1).getD 0) _) (cwV 1 hts (wGV t_ (mw (.methodLink RX1 196 yX5_pourInto) (List.mem_of_getElem? (i := 7) rfl)) (mw (.instanceMethod yX5_pourInto) (List.mem_of_getElem? (i := 8) rfl)) (mw (.selects RX5 yX5_pourInto yX5_pourInto) (List.mem_of_getElem? (i := 9) rfl)) (mw (.initialized RX5) (List.mem_of_getElem? (i := 10) rfl)) j_Y5_pourInto) rfl rfl rfl (by decide +kernel) ⟨Nat.le_of_ble_eq_true rfl, Nat.le_of_ble_eq_true rfl⟩) (cPV hK hTE hP hD 4 rfl (at_4 hy7.2) ⟨hy7.2, hy8.2, hy9⟩) rfl rfl hl.1 rfl (lv_room (Nat.le_of_ble_eq_true rfl)) dX1_bringUp_51 ⟨Nat.le_of_ble_eq_true rfl, Nat.le_of_ble_eq_true rfl⟩) hP hD hS hA (fun u10 H locs hv hP hD hS => ?_)
    obtain ⟨hv, hz⟩ := hv
    have hZ := hZ.tr hz
    rw [← hv] at hE hp
    dsimp only at hE hp
    exact B_Y1_bringUp_54a u10 x1 x2 _ _ _ hE hp hZ hP hD hS (lv_sub hl [0, 1, 2] rfl)
  have B_M : ∀ (S : Cst) (x1 : Int32) (H : Heap) (locs : List Loc) (ls_ : Array Slot), f_Y1_bringUp S x0 x1 = X → p_Y1_bringUp S x0 x1 → eK S0 S → va_P G vwCl (wsC K ad S) H → va_D A (wsC K ad S) → va_S A s.heap H locs → lv_has ls_ 3 [(0, .ref (ad x0)), (1, .int x1)] → W p l e ({ frames := 2, cells := 0, slots := 0, locals := 43 } : Room) s m #[Value.ref (ad x0), Value.int a1] below meth c H locs 0 0 Q (F0 m 0 ls_ []) := by
    intro S x1 H locs ls_ hE hp hZ hP hD hS hl
    unfold f_Y1_bringUp at hE
    unfold p_Y1_bringUp at hp
    refine lv_aload_n hx hb dX1_bringUp_0 rfl (lv_at hl 0 rfl) ?_
    refine va_get (D := G) (ci := 0) (v := va_re ad (grC S x0 2)) (C := RX0) (T := TX0) (N := 11) hx hb hts iX0 hown hK hP x0 (at_0 (k_x0.e hZ)) rfl 2 (by decide) (hw (.fieldLink RX1 121 "MotionFloor$Assembly" "draft" "LMotionFloor$Place;") (List.mem_of_getElem? (i := 0) rfl)) (fun _ h9 => h9) rfl dX1_bringUp_1 ?_
    obtain ⟨hy1, hp⟩ := hp
    refine cTop (r := (grC S x0 2)) hy1.1 ?_
    obtain ⟨hy2, hp⟩ := hp
    refine cGoq (va_runV (As := []) (rest := []) ⟨hx, hb, hml, hown, hts⟩ (c_Y6_motion l G K ad S ((grC S x0 2).getD 0) _) (cwV 0 hts (wGV t_ (mw (.methodLink RX1 139 yX6_motion) (List.mem_of_getElem? (i := 1) rfl)) (mw (.instanceMethod yX6_motion) (List.mem_of_getElem? (i := 2) rfl)) (mw (.selects RX6 yX6_motion yX6_motion) (List.mem_of_getElem? (i := 3) rfl)) (mw (.initialized RX6) (List.mem_of_getElem? (i := 4) rfl)) j_Y6_motion) rfl rfl rfl (by decide +kernel) ⟨Nat.le_of_ble_eq_true rfl, Nat.le_of_ble_eq_true rfl⟩) (cPV hK hTE hP hD 5 rfl (at_5 hy1.2) ⟨hy1.2, hy2⟩) rfl rfl hl.1 rfl (lv_room (Nat.le_of_ble_eq_true rfl)) dX1_bringUp_4 ⟨Nat.le_of_ble_eq_true rfl, Nat.le_of_ble_eq_true rfl⟩) hP hD hS hA (fun r4 u3 H locs hv hP hD hS => ?_)
    have h1 := congrArg Prod.fst hv
    have h2 := (congrArg Prod.snd hv).symm
    dsimp only at h1 h2
    subst h1
    subst h2
    refine cAstore_n (ad := ad) (r := (f_Y6_motion S ((grC S x0 2).getD 0))) (i := 2) (lv' := [(2, va_re ad (f_Y6_motion S ((grC S x0 2).getD 0))), (0, .ref (ad x0)), (1, .int x1)]) hx hb dX1_bringUp_7 rfl hl (by decide) rfl (fun ls_ hl => ?_)
    refine cAload_n (ad := ad) (r := (f_Y6_motion S ((grC S x0 2).getD 0))) hx hb dX1_bringUp_8 rfl (lv_at hl 0 rfl) ?_
    refine cIfnull (ad := ad) (r := (f_Y6_motion S ((grC S x0 2).getD 0))) (tgt := 40) hx hb dX1_bringUp_9 (by decide) (fun c5 => ?_) (fun c5 => ?_)
    · rw [if_pos c5] at hE hp
      exact B_Y1_bringUp_40 S x1 (f_Y6_motion S ((grC S x0 2).getD 0)) _ _ _ hE hp hZ hP hD hS (lv_sub hl [1, 2, 0] rfl)
    · rw [if_neg c5] at hE hp
      refine lv_aload_n hx hb dX1_bringUp_12 rfl (lv_at hl 1 rfl) ?_
      refine lv_dup hx hb dX1_bringUp_13 rfl ?_
      refine va_get (D := G) (ci := 0) (v := .int (giC S x0 8)) (C := RX0) (T := TX0) (N := 11) hx hb hts iX0 hown hK hP x0 (at_0 (k_x0.e hZ)) rfl 8 (by decide) (hw (.fieldLink RX1 187 "MotionFloor$Assembly" "names" "I") (List.mem_of_getElem? (i := 15) rfl)) (fun _ h9 => h9) rfl dX1_bringUp_14 ?_
      refine lv_iconst (v := 1) hx hb dX1_bringUp_17 (by decide) ?_
      refine lv_iadd hx hb dX1_bringUp_18 ?_
      refine va_put (D := G) (ci := 0) (v := .int ((giC S x0 8) + 1)) (ty := .int) (C := RX0) (T := TX0) (N := 11) hx hb hts iX0 tyX0 tyX0_ok nmX0 hown hK hP hD hS x0 (at_0 (k_x0.e hZ)) rfl 8 (by decide) (hw (.fieldLink RX1 187 "MotionFloor$Assembly" "names" "I") (List.mem_of_getElem? (i := 15) rfl)) (fun _ h9 => h9) rfl (by decide +kernel) rfl rfl (Nat.le_of_ble_eq_true rfl) dX1_bringUp_19 (fun H locs hP hD hS => ?_)
      rw [st_0_8 (k_x0.e hZ)] at hP hD
      have hZ := hZ.tr (eK.si S x0 8 ((giC S x0 8) + 1))
      refine cAload_n (ad := ad) (r := (f_Y6_motion S ((grC S x0 2).getD 0))) hx hb dX1_bringUp_22 rfl (lv_at hl 0 rfl) ?_
      refine lv_aload_n hx hb dX1_bringUp_23 rfl (lv_at hl 1 rfl) ?_
      refine va_get (D := G) (ci := 0) (v := .int (giC (siC S x0 8 ((giC S x0 8) + 1)) x0 8)) (C := RX0) (T := TX0) (N := 11) hx hb hts iX0 hown hK hP x0 (at_0 (k_x0.e hZ)) rfl 8 (by decide) (hw (.fieldLink RX1 187 "MotionFloor$Assembly" "names" "I") (List.mem_of_getElem? (i := 15) rfl)) (fun _ h9 => h9) rfl dX1_bringUp_24 ?_
      obtain ⟨hy15, hp⟩ := hp
      refine cTop2 (r := (f_Y6_motion S ((grC S x0 2).getD 0))) hy15.1 ?_
      refine va_put (D := G) (ci := 3) (v := .int (giC (siC S x0 8 ((giC S x0 8) + 1)) x0 8)) (ty := .int) (C := RX4) (T := TX4) (N := 16) hx hb hts iX4 tyX4 tyX4_ok nmX4 hown hK hP hD hS ((f_Y6_motion S ((grC S x0 2).getD 0)).getD 0) (at_3 hy15.2) rfl 0 (by decide) (hw (.fieldLink RX1 171 "MotionFloor$Motion" "name" "I") (List.mem_of_getElem? (i := 16) rfl)) (fun _ h9 => h9) rfl (by decide +kernel) rfl rfl (Nat.le_of_ble_eq_true rfl) dX1_bringUp_27 (fun H locs hP hD hS => ?_)
      rw [st_3_0 hy15.2] at hP hD
      have hZ := hZ.tr (eK.si (siC S x0 8 ((giC S x0 8) + 1)) ((f_Y6_motion S ((grC S x0 2).getD 0)).getD 0) 0 (giC (siC S x0 8 ((giC S x0 8) + 1)) x0 8))
      refine cAload_n (ad := ad) (r := (f_Y6_motion S ((grC S x0 2).getD 0))) hx hb dX1_bringUp_30 rfl (lv_at hl 0 rfl) ?_
      refine lv_iload_n hx hb dX1_bringUp_31 rfl (lv_at hl 2 rfl) ?_
      obtain ⟨hy16, hp⟩ := hp
      refine cTop2 (r := (f_Y6_motion S ((grC S x0 2).getD 0))) hy16.1 ?_
      refine va_put (D := G) (ci := 3) (v := .int x1) (ty := .int) (C := RX4) (T := TX4) (N := 16) hx hb hts iX4 tyX4 tyX4_ok nmX4 hown hK hP hD hS ((f_Y6_motion S ((grC S x0 2).getD 0)).getD 0) (at_3 hy16.2) rfl 3 (by decide) (hw (.fieldLink RX1 190 "MotionFloor$Motion" "mover" "I") (List.mem_of_getElem? (i := 17) rfl)) (fun _ h9 => h9) rfl (by decide +kernel) rfl rfl (Nat.le_of_ble_eq_true rfl) dX1_bringUp_32 (fun H locs hP hD hS => ?_)
      rw [st_3_3 hy16.2] at hP hD
      have hZ := hZ.tr (eK.si (siC (siC S x0 8 ((giC S x0 8) + 1)) ((f_Y6_motion S ((grC S x0 2).getD 0)).getD 0) 0 (giC (siC S x0 8 ((giC S x0 8) + 1)) x0 8)) ((f_Y6_motion S ((grC S x0 2).getD 0)).getD 0) 3 x1)
      refine cAload_n (ad := ad) (r := (f_Y6_motion S ((grC S x0 2).getD 0))) hx hb dX1_bringUp_35 rfl (lv_at hl 0 rfl) ?_
      refine lv_iconst (v := 0) hx hb dX1_bringUp_36 (by decide) ?_
      obtain ⟨hy17, hp⟩ := hp
      refine cTop2 (r := (f_Y6_motion S ((grC S x0 2).getD 0))) hy17.1 ?_
      refine va_put (D := G) (ci := 3) (v := .int 0) (ty := .boolean) (C := RX4) (T := TX4) (N := 16) hx hb hts iX4 tyX4 tyX4_ok nmX4 hown hK hP hD hS ((f_Y6_motion S ((grC S x0 2).getD 0)).getD 0) (at_3 hy17.2) rfl 10 (by decide) (hw (.fieldLink RX1 163 "MotionFloor$Motion" "laid" "Z") (List.mem_of_getElem? (i := 18) rfl)) (fun _ h9 => h9) rfl (by decide +kernel) rfl rfl (Nat.le_of_ble_eq_true rfl) dX1_bringUp_37 (fun H locs hP hD hS => ?_)
      rw [st_3_10 hy17.2] at hP hD
      have hZ := hZ.tr (eK.si (siC (siC (siC S x0 8 ((giC S x0 8) + 1)) ((f_Y6_motion S ((grC S x0 2).getD 0)).getD 0) 0 (giC (siC S x0 8 ((giC S x0 8) + 1)) x0 8)) ((f_Y6_motion S ((grC S x0 2).getD 0)).getD 0) 3 x1) ((f_Y6_motion S ((grC S x0 2).getD 0)).getD 0) 10 (0 : Int32))
      exact B_Y1_bringUp_40 (siC (siC (siC (siC S x0 8 ((giC S x0 8) + 1)) ((f_Y6_motion S ((grC S x0 2).getD 0)).getD 0) 0 (giC (siC S x0 8 ((giC S x0 8) + 1)) x0 8)) ((f_Y6_motion S ((grC S x0 2).getD 0)).getD 0) 3 x1) ((f_Y6_motion S ((grC S x0 2).getD 0)).getD 0) 10 (0 : Int32)) x1 (f_Y6_motion S ((grC S x0 2).getD 0)) _ _ _ hE hp hZ hP hD hS (lv_sub hl [1, 2, 0] rfl)
  exact B_M S0 a1 _ _ _ hX hp (eK.rf S0) hP hD hS hl
theorem gdX1_support_0 : ckS (List.drop 0 cX1_support.data.toList) 0 [(0, .aload_n 0, 1), (1, .ifnull 8, 3), (4, .aload_n 0, 1), (5, .iload_n 1, 1), (6, .putfield 199, 3), (9, .iconst 1, 1), (10, .ireturn, 1)] = true := by decide +kernel
theorem dX1_support_0 : decode cX1_support 0 = .ok (.aload_n 0, 1) := ckS_g gdX1_support_0 0 rfl
theorem dX1_support_1 : decode cX1_support 1 = .ok (.ifnull 8, 3) := ckS_g gdX1_support_0 1 rfl
theorem dX1_support_4 : decode cX1_support 4 = .ok (.aload_n 0, 1) := ckS_g gdX1_support_0 2 rfl
theorem dX1_support_5 : decode cX1_support 5 = .ok (.iload_n 1, 1) := ckS_g gdX1_support_0 3 rfl
theorem dX1_support_6 : decode cX1_support 6 = .ok (.putfield 199, 3) := ckS_g gdX1_support_0 4 rfl
theorem dX1_support_9 : decode cX1_support 9 = .ok (.iconst 1, 1) := ckS_g gdX1_support_0 5 rfl
theorem dX1_support_10 : decode cX1_support 10 = .ok (.ireturn, 1) := ckS_g gdX1_support_0 6 rfl
set_option maxRecDepth 100000 in
theorem zc200 : wZ (.fieldLink RX1 199 "MotionFloor$Motion" "seconder" "I") := ⟨wT3 (List.mem_of_getElem? (i := 27) (by decide +kernel)), Or.inl rfl⟩
set_option maxRecDepth 100000 in
theorem zc201 : wZ (.code yX1_support cX1_support 2 (some .int)) := ⟨wT3 (List.mem_of_getElem? (i := 153) rfl), Or.inl rfl⟩
def b_Y1_support_9 (S : Cst)  (x0 : Option Nat) (x1 : Int32) : Int32 × Cst := ((1 : Int32), S)
def q_Y1_support_9 (S : Cst)  (x0 : Option Nat) (x1 : Int32) : Prop := True
def f_Y1_support (S : Cst) (x0 : Option Nat) (x1 : Int32) : Int32 × Cst := if x0 = none then (b_Y1_support_9 S x0 x1) else (b_Y1_support_9 (siC S (x0.getD 0) 4 x1) x0 x1)
def p_Y1_support (S : Cst) (x0 : Option Nat) (x1 : Int32) : Prop := (if x0 = none then (q_Y1_support_9 S x0 x1) else (iR S x0 3) ∧ (q_Y1_support_9 (siC S (x0.getD 0) 4 x1) x0 x1))
def e_Y1_support : List Cond := [.fieldLink RX1 199 "MotionFloor$Motion" "seconder" "I"]
def v_Y1_support : List Cond := .code yX1_support cX1_support 2 (some .int) :: (e_Y1_support ++ (wsX40 ++ []))
theorem te_Y1_support : GoodIn lw_tbl e_Y1_support := wGc zc200 (wG0)
theorem t_Y1_support : GoodIn lw_tbl v_Y1_support := wGc zc201 (wGa te_Y1_support (wGa zcX4 (wG0)))
set_option maxHeartbeats 4000000 in
set_option maxRecDepth 100000 in
theorem c_Y1_support (l : Launch) (G : va_G) (K : Nat → ClassId) (ad : Nat → Nat) (S0 : Cst)  (a0 : Option Nat) (a1 : Int32) (sz : Nat) : Met l yX1_support v_Y1_support ({ frames := 0, cells := 0, slots := 0, locals := 0 }) (va_Pc [va_re ad a0, .int a1] (cSt G K ad sz S0 (p_Y1_support S0 a0 a1))) (va_Qi (fun (r : Int32) (u : Cst) => (r, u) = f_Y1_support S0 a0 a1 ∧ eK S0 u) (cBt G K ad (va_A (wsC K ad S0) sz)) (va_A (wsC K ad S0) sz)) 0 0 (va_A (wsC K ad S0) sz) := by
  refine Met.ofW (cc := cX1_support) (maxL := 2) (ret := (some .int)) (by decide) rfl ?_
  intro p e s m args below meth c s₁ B hml hv
  obtain ⟨rfl, ⟨hsz, hP, hK, hD0, hTE⟩, hp⟩ := hv
  have hx := B.exec
  have hb := B.bytes
  have hr := B.returns
  have hts := atoms_spec (ws := v_Y1_support) B.pre
  have t_ := t_Y1_support
  have mw : ∀ w ∈ e_Y1_support, w ∈ v_Y1_support := fun w h => List.mem_cons_of_mem _ (List.mem_append_left _ h)
  have hw := fun w (h : w ∈ e_Y1_support) => hts w (mw w h)
  have iX4 : ∀ w ∈ wsX40, w ∈ v_Y1_support := fun w h => List.mem_cons_of_mem _ (List.mem_append_right _ (List.mem_append_left _ h))
  have hown : s.vm.findClass RX1 = some m.cls := findClass_of_methodNamed B.named
  have hlocks := B.notSynchronized
  subst hsz
  have hD := hD0.self (sz := s.heap.size)
  generalize hAe : va_A (wsC K ad S0) s.heap.size = A at hD ⊢
  have hA : ∀ q : Nat, s.heap.size ≤ q → A q := fun q h => by rw [← hAe]; exact Or.inr h
  have hS : va_S A s.heap s.heap [] := va_S.rf
  have hl : lv_has (lg_sl ([va_re ad a0, .int a1]) ++ List.replicate (2 - (lg_sl ([va_re ad a0, .int a1])).length) Slot.unset).toArray 2 [(0, va_re ad a0), (1, .int a1)] := by
    cases a0 <;> exact lv_entry _ (n := 2) (Nat.le_of_ble_eq_true rfl)
  rw [lg_entry_eq]
  generalize (lg_sl ([va_re ad a0, .int a1]) ++ List.replicate (2 - (lg_sl ([va_re ad a0, .int a1])).length) Slot.unset).toArray = ls_ at hl ⊢
  refine wGen (fun Q hQ => ?_)
  obtain ⟨X, hX⟩ : ∃ X, f_Y1_support S0 a0 a1 = X := ⟨_, rfl⟩
  have B_Y1_support_9 : ∀ (S : Cst) (x0 : Option Nat) (x1 : Int32) (H : Heap) (locs : List Loc) (ls_ : Array Slot), b_Y1_support_9 S x0 x1 = X → q_Y1_support_9 S x0 x1 → eK S0 S → va_P G vwCl (wsC K ad S) H → va_D A (wsC K ad S) → va_S A s.heap H locs → lv_has ls_ 2 [(0, va_re ad x0), (1, .int x1)] → W p l e ({ frames := 0, cells := 0, slots := 0, locals := 0 } : Room) s m #[va_re ad a0, Value.int a1] below meth c H locs 0 0 Q (F0 m 9 ls_ []) := by
    intro S x0 x1 H locs ls_ hE hp hZ hP hD hS hl
    unfold b_Y1_support_9 at hE
    unfold q_Y1_support_9 at hp
    refine lv_iconst (v := 1) hx hb dX1_support_9 (by decide) ?_
    subst hQ
    exact W.iret (v := (1 : Int32)) hx hb hr (fun t ht hW => ⟨⟨(1 : Int32), S, rfl, ⟨hE.trans hX.symm, hZ⟩, by rw [ht]; exact hP, hD⟩, hS.F ht⟩) hS.2.2 dX1_support_10
  have B_M : ∀ (S : Cst) (x0 : Option Nat) (x1 : Int32) (H : Heap) (locs : List Loc) (ls_ : Array Slot), f_Y1_support S x0 x1 = X → p_Y1_support S x0 x1 → eK S0 S → va_P G vwCl (wsC K ad S) H → va_D A (wsC K ad S) → va_S A s.heap H locs → lv_has ls_ 2 [(0, va_re ad x0), (1, .int x1)] → W p l e ({ frames := 0, cells := 0, slots := 0, locals := 0 } : Room) s m #[va_re ad a0, Value.int a1] below meth c H locs 0 0 Q (F0 m 0 ls_ []) := by
    intro S x0 x1 H locs ls_ hE hp hZ hP hD hS hl
    unfold f_Y1_support at hE
    unfold p_Y1_support at hp
    refine cAload_n (ad := ad) (r := x0) hx hb dX1_support_0 rfl (lv_at hl 0 rfl) ?_
    refine cIfnull (ad := ad) (r := x0) (tgt := 9) hx hb dX1_support_1 (by decide) (fun c1 => ?_) (fun c1 => ?_)
    · rw [if_pos c1] at hE hp
      exact B_Y1_support_9 S x0 x1 _ _ _ hE hp hZ hP hD hS (lv_sub hl [0, 1] rfl)
    · rw [if_neg c1] at hE hp
      refine cAload_n (ad := ad) (r := x0) hx hb dX1_support_4 rfl (lv_at hl 0 rfl) ?_
      refine lv_iload_n hx hb dX1_support_5 rfl (lv_at hl 1 rfl) ?_
      obtain ⟨hy2, hp⟩ := hp
      refine cTop2 (r := x0) hy2.1 ?_
      refine va_put (D := G) (ci := 3) (v := .int x1) (ty := .int) (C := RX4) (T := TX4) (N := 16) hx hb hts iX4 tyX4 tyX4_ok nmX4 hown hK hP hD hS (x0.getD 0) (at_3 hy2.2) rfl 4 (by decide) (hw (.fieldLink RX1 199 "MotionFloor$Motion" "seconder" "I") (List.mem_of_getElem? (i := 0) rfl)) (fun _ h9 => h9) rfl (by decide +kernel) rfl rfl (Nat.le_of_ble_eq_true rfl) dX1_support_6 (fun H locs hP hD hS => ?_)
      rw [st_3_4 hy2.2] at hP hD
      have hZ := hZ.tr (eK.si S (x0.getD 0) 4 x1)
      exact B_Y1_support_9 (siC S (x0.getD 0) 4 x1) x0 x1 _ _ _ hE hp hZ hP hD hS (lv_sub hl [0, 1] rfl)
  exact B_M S0 a0 a1 _ _ _ hX hp (eK.rf S0) hP hD hS hl
theorem gdX1_endSitting_0 : ckS (List.drop 0 cX1_endSitting.data.toList) 0 [(0, .aload_n 0, 1), (1, .getfield 9, 3), (4, .getfield 96, 3), (7, .istore_n 1, 1), (8, .aload_n 0, 1), (9, .aload_n 0, 1), (10, .getfield 9, 3), (13, .invokevirtual 209, 3), (16, .aload_n 0, 1), (17, .aload_n 0, 1), (18, .getfield 121, 3), (21, .invokevirtual 125, 3), (24, .aload_n 0, 1), (25, .getfield 21, 3), (28, .iconst (-1), 1), (29, .putfield 112, 3), (32, .iload_n 1, 1), (33, .ireturn, 1)] = true := by decide +kernel
theorem dX1_endSitting_0 : decode cX1_endSitting 0 = .ok (.aload_n 0, 1) := ckS_g gdX1_endSitting_0 0 rfl
theorem dX1_endSitting_1 : decode cX1_endSitting 1 = .ok (.getfield 9, 3) := ckS_g gdX1_endSitting_0 1 rfl
theorem dX1_endSitting_4 : decode cX1_endSitting 4 = .ok (.getfield 96, 3) := ckS_g gdX1_endSitting_0 2 rfl
theorem dX1_endSitting_7 : decode cX1_endSitting 7 = .ok (.istore_n 1, 1) := ckS_g gdX1_endSitting_0 3 rfl
theorem dX1_endSitting_8 : decode cX1_endSitting 8 = .ok (.aload_n 0, 1) := ckS_g gdX1_endSitting_0 4 rfl
theorem dX1_endSitting_9 : decode cX1_endSitting 9 = .ok (.aload_n 0, 1) := ckS_g gdX1_endSitting_0 5 rfl
theorem dX1_endSitting_10 : decode cX1_endSitting 10 = .ok (.getfield 9, 3) := ckS_g gdX1_endSitting_0 6 rfl
theorem dX1_endSitting_13 : decode cX1_endSitting 13 = .ok (.invokevirtual 209, 3) := ckS_g gdX1_endSitting_0 7 rfl
theorem dX1_endSitting_16 : decode cX1_endSitting 16 = .ok (.aload_n 0, 1) := ckS_g gdX1_endSitting_0 8 rfl
theorem dX1_endSitting_17 : decode cX1_endSitting 17 = .ok (.aload_n 0, 1) := ckS_g gdX1_endSitting_0 9 rfl
theorem dX1_endSitting_18 : decode cX1_endSitting 18 = .ok (.getfield 121, 3) := ckS_g gdX1_endSitting_0 10 rfl
theorem dX1_endSitting_21 : decode cX1_endSitting 21 = .ok (.invokevirtual 125, 3) := ckS_g gdX1_endSitting_0 11 rfl
theorem dX1_endSitting_24 : decode cX1_endSitting 24 = .ok (.aload_n 0, 1) := ckS_g gdX1_endSitting_0 12 rfl
theorem dX1_endSitting_25 : decode cX1_endSitting 25 = .ok (.getfield 21, 3) := ckS_g gdX1_endSitting_0 13 rfl
theorem dX1_endSitting_28 : decode cX1_endSitting 28 = .ok (.iconst (-1), 1) := ckS_g gdX1_endSitting_0 14 rfl
theorem dX1_endSitting_29 : decode cX1_endSitting 29 = .ok (.putfield 112, 3) := ckS_g gdX1_endSitting_0 15 rfl
theorem dX1_endSitting_32 : decode cX1_endSitting 32 = .ok (.iload_n 1, 1) := ckS_g gdX1_endSitting_0 16 rfl
theorem dX1_endSitting_33 : decode cX1_endSitting 33 = .ok (.ireturn, 1) := ckS_g gdX1_endSitting_0 17 rfl
set_option maxRecDepth 100000 in
theorem zc202 : wZ (.methodLink RX1 125 yX0_discard) := ⟨wT2 (List.mem_of_getElem? (i := 233) (by decide +kernel)), Or.inl rfl⟩
set_option maxRecDepth 100000 in
theorem zc203 : wZ (.methodLink RX1 209 yX0_release) := ⟨wT4 (List.mem_of_getElem? (i := 25) (by decide +kernel)), Or.inl rfl⟩
set_option maxRecDepth 100000 in
theorem zc204 : wZ (.code yX1_endSitting cX1_endSitting 2 (some .int)) := ⟨wT4 (List.mem_of_getElem? (i := 24) rfl), Or.inl rfl⟩
def b_Y1_endSitting_24a (S : Cst) (x0 : Nat) (x1 : Int32) : Int32 × Cst := (x1, (siC S ((grC S x0 0).getD 0) 6 ((-1) : Int32)))
def q_Y1_endSitting_24a (S : Cst) (x0 : Nat) (x1 : Int32) : Prop := (iR S (grC S x0 0) 1) ∧ True
def b_Y1_endSitting_16a (S : Cst) (x0 : Nat) (x1 : Int32) : Int32 × Cst := (b_Y1_endSitting_24a ((f_Y0_discard S x0 ((grC S x0 2).getD 0)).2) x0 x1)
def q_Y1_endSitting_16a (S : Cst) (x0 : Nat) (x1 : Int32) : Prop := (iR S (grC S x0 2) 5) ∧ (p_Y0_discard S x0 ((grC S x0 2).getD 0)) ∧ (q_Y1_endSitting_24a ((f_Y0_discard S x0 ((grC S x0 2).getD 0)).2) x0 x1)
def f_Y1_endSitting (S : Cst) (x0 : Nat) : Int32 × Cst := (b_Y1_endSitting_16a ((f_Y0_release S x0 ((grC S x0 1).getD 0)).2) x0 (giC S ((grC S x0 1).getD 0) 1))
def p_Y1_endSitting (S : Cst) (x0 : Nat) : Prop := (iR S (grC S x0 1) 4) ∧ (iR S (grC S x0 1) 4) ∧ (p_Y0_release S x0 ((grC S x0 1).getD 0)) ∧ (q_Y1_endSitting_16a ((f_Y0_release S x0 ((grC S x0 1).getD 0)).2) x0 (giC S ((grC S x0 1).getD 0) 1))
def e_Y1_endSitting : List Cond := [.fieldLink RX1 9 "MotionFloor$Assembly" "pending" "LMotionFloor$Pile;", .fieldLink RX1 96 "MotionFloor$Pile" "size" "I", .methodLink RX1 209 yX0_release, .instanceMethod yX0_release, .selects RX0 yX0_release yX0_release, .initialized RX0, .fieldLink RX1 121 "MotionFloor$Assembly" "draft" "LMotionFloor$Place;", .methodLink RX1 125 yX0_discard, .instanceMethod yX0_discard, .selects RX0 yX0_discard yX0_discard, .fieldLink RX1 21 "MotionFloor$Assembly" "house" "LMotionFloor$House;", .fieldLink RX1 112 "MotionFloor$House" "speaker" "I"]
def v_Y1_endSitting : List Cond := .code yX1_endSitting cX1_endSitting 2 (some .int) :: (e_Y1_endSitting ++ (wsX00 ++ (wsX50 ++ (wsX20 ++ (v_Y0_release ++ (v_Y0_discard ++ []))))))
theorem te_Y1_endSitting : GoodIn lw_tbl e_Y1_endSitting := wGc zc181 (wGc zc195 (wGc zc203 (wGc zc49 (wGc zc48 (wGc zc39 (wGc zc146 (wGc zc202 (wGc zc55 (wGc zc54 (wGc zc196 (wGc zc138 (wG0))))))))))))
theorem t_Y1_endSitting : GoodIn lw_tbl v_Y1_endSitting := wGc zc204 (wGa te_Y1_endSitting (wGa zcX0 (wGa zcX5 (wGa zcX2 (wGa t_Y0_release (wGa t_Y0_discard (wG0)))))))
set_option maxHeartbeats 4000000 in
set_option maxRecDepth 100000 in
theorem c_Y1_endSitting (l : Launch) (G : va_G) (K : Nat → ClassId) (ad : Nat → Nat) (S0 : Cst) (x0 : Nat)  (sz : Nat) : Met l yX1_endSitting v_Y1_endSitting ({ frames := 4, cells := 0, slots := 0, locals := 86 }) (va_Pc [.ref (ad x0)] (cSt G K ad sz S0 (iK S0 x0 0 ∧ p_Y1_endSitting S0 x0))) (va_Qi (fun (r : Int32) (u : Cst) => (r, u) = f_Y1_endSitting S0 x0 ∧ eK S0 u) (cBt G K ad (va_A (wsC K ad S0) sz)) (va_A (wsC K ad S0) sz)) 0 0 (va_A (wsC K ad S0) sz) := by
  refine Met.ofW (cc := cX1_endSitting) (maxL := 2) (ret := (some .int)) (by decide) rfl ?_
  intro p e s m args below meth c s₁ B hml hv
  obtain ⟨rfl, ⟨hsz, hP, hK, hD0, hTE⟩, hp⟩ := hv
  obtain ⟨k_x0, hp⟩ := hp
  have hx := B.exec
  have hb := B.bytes
  have hr := B.returns
  have hts := atoms_spec (ws := v_Y1_endSitting) B.pre
  have t_ := t_Y1_endSitting
  have mw : ∀ w ∈ e_Y1_endSitting, w ∈ v_Y1_endSitting := fun w h => List.mem_cons_of_mem _ (List.mem_append_left _ h)
  have hw := fun w (h : w ∈ e_Y1_endSitting) => hts w (mw w h)
  have iX0 : ∀ w ∈ wsX00, w ∈ v_Y1_endSitting := fun w h => List.mem_cons_of_mem _ (List.mem_append_right _ (List.mem_append_left _ h))
  have iX5 : ∀ w ∈ wsX50, w ∈ v_Y1_endSitting := fun w h => List.mem_cons_of_mem _ (List.mem_append_right _ (List.mem_append_right _ (List.mem_append_left _ h)))
  have iX2 : ∀ w ∈ wsX20, w ∈ v_Y1_endSitting := fun w h => List.mem_cons_of_mem _ (List.mem_append_right _ (List.mem_append_right _ (List.mem_append_right _ (List.mem_append_left _ h))))
  have j_Y0_release : ∀ w ∈ v_Y0_release, w ∈ v_Y1_endSitting := fun w h => List.mem_cons_of_mem _ (List.mem_append_right _ (List.mem_append_right _ (List.mem_append_right _ (List.mem_append_right _ (List.mem_append_left _ h)))))
  have j_Y0_discard : ∀ w ∈ v_Y0_discard, w ∈ v_Y1_endSitting := fun w h => List.mem_cons_of_mem _ (List.mem_append_right _ (List.mem_append_right _ (List.mem_append_right _ (List.mem_append_right _ (List.mem_append_right _ (List.mem_append_left _ h))))))
  have hown : s.vm.findClass RX1 = some m.cls := findClass_of_methodNamed B.named
  have hlocks := B.notSynchronized
  subst hsz
  have hD := hD0.self (sz := s.heap.size)
  generalize hAe : va_A (wsC K ad S0) s.heap.size = A at hD ⊢
  have hA : ∀ q : Nat, s.heap.size ≤ q → A q := fun q h => by rw [← hAe]; exact Or.inr h
  have hS : va_S A s.heap s.heap [] := va_S.rf
  have hl : lv_has (lg_sl ([.ref (ad x0)]) ++ List.replicate (2 - (lg_sl ([.ref (ad x0)])).length) Slot.unset).toArray 2 [(0, .ref (ad x0))] := by
    exact lv_entry ([.ref (ad x0)]) (n := 2) (Nat.le_of_ble_eq_true rfl)
  rw [lg_entry_eq]
  generalize (lg_sl ([.ref (ad x0)]) ++ List.replicate (2 - (lg_sl ([.ref (ad x0)])).length) Slot.unset).toArray = ls_ at hl ⊢
  refine wGen (fun Q hQ => ?_)
  obtain ⟨X, hX⟩ : ∃ X, f_Y1_endSitting S0 x0 = X := ⟨_, rfl⟩
  have B_Y1_endSitting_24a : ∀ (S : Cst) (x1 : Int32) (H : Heap) (locs : List Loc) (ls_ : Array Slot), b_Y1_endSitting_24a S x0 x1 = X → q_Y1_endSitting_24a S x0 x1 → eK S0 S → va_P G vwCl (wsC K ad S) H → va_D A (wsC K ad S) → va_S A s.heap H locs → lv_has ls_ 2 [(0, .ref (ad x0)), (1, .int x1)] → W p l e ({ frames := 4, cells := 0, slots := 0, locals := 86 } : Room) s m #[Value.ref (ad x0)] below meth c H locs 0 0 Q (F0 m 24 ls_ []) := by
    intro S x1 H locs ls_ hE hp hZ hP hD hS hl
    unfold b_Y1_endSitting_24a at hE
    unfold q_Y1_endSitting_24a at hp
    refine lv_aload_n hx hb dX1_endSitting_24 rfl (lv_at hl 0 rfl) ?_
    refine va_get (D := G) (ci := 0) (v := va_re ad (grC S x0 0)) (C := RX0) (T := TX0) (N := 11) hx hb hts iX0 hown hK hP x0 (at_0 (k_x0.e hZ)) rfl 0 (by decide) (hw (.fieldLink RX1 21 "MotionFloor$Assembly" "house" "LMotionFloor$House;") (List.mem_of_getElem? (i := 10) rfl)) (fun _ h9 => h9) rfl dX1_endSitting_25 ?_
    refine lv_iconst (v := (-1)) hx hb dX1_endSitting_28 (by decide) ?_
    obtain ⟨hy10, hp⟩ := hp
    refine cTop2 (r := (grC S x0 0)) hy10.1 ?_
    refine va_put (D := G) (ci := 1) (v := .int (-1)) (ty := .int) (C := RX2) (T := TX2) (N := 8) hx hb hts iX2 tyX2 tyX2_ok nmX2 hown hK hP hD hS ((grC S x0 0).getD 0) (at_1 hy10.2) rfl 6 (by decide) (hw (.fieldLink RX1 112 "MotionFloor$House" "speaker" "I") (List.mem_of_getElem? (i := 11) rfl)) (fun _ h9 => h9) rfl (by decide +kernel) rfl rfl (Nat.le_of_ble_eq_true rfl) dX1_endSitting_29 (fun H locs hP hD hS => ?_)
    rw [st_1_6 hy10.2] at hP hD
    have hZ := hZ.tr (eK.si S ((grC S x0 0).getD 0) 6 ((-1) : Int32))
    refine lv_iload_n hx hb dX1_endSitting_32 rfl (lv_at hl 1 rfl) ?_
    subst hQ
    exact W.iret (v := x1) hx hb hr (fun t ht hW => ⟨⟨x1, (siC S ((grC S x0 0).getD 0) 6 ((-1) : Int32)), rfl, ⟨hE.trans hX.symm, hZ⟩, by rw [ht]; exact hP, hD⟩, hS.F ht⟩) hS.2.2 dX1_endSitting_33
  have B_Y1_endSitting_16a : ∀ (S : Cst) (x1 : Int32) (H : Heap) (locs : List Loc) (ls_ : Array Slot), b_Y1_endSitting_16a S x0 x1 = X → q_Y1_endSitting_16a S x0 x1 → eK S0 S → va_P G vwCl (wsC K ad S) H → va_D A (wsC K ad S) → va_S A s.heap H locs → lv_has ls_ 2 [(0, .ref (ad x0)), (1, .int x1)] → W p l e ({ frames := 4, cells := 0, slots := 0, locals := 86 } : Room) s m #[Value.ref (ad x0)] below meth c H locs 0 0 Q (F0 m 16 ls_ []) := by
    intro S x1 H locs ls_ hE hp hZ hP hD hS hl
    unfold b_Y1_endSitting_16a at hE
    unfold q_Y1_endSitting_16a at hp
    refine lv_aload_n hx hb dX1_endSitting_16 rfl (lv_at hl 0 rfl) ?_
    refine lv_aload_n hx hb dX1_endSitting_17 rfl (lv_at hl 0 rfl) ?_
    refine va_get (D := G) (ci := 0) (v := va_re ad (grC S x0 2)) (C := RX0) (T := TX0) (N := 11) hx hb hts iX0 hown hK hP x0 (at_0 (k_x0.e hZ)) rfl 2 (by decide) (hw (.fieldLink RX1 121 "MotionFloor$Assembly" "draft" "LMotionFloor$Place;") (List.mem_of_getElem? (i := 6) rfl)) (fun _ h9 => h9) rfl dX1_endSitting_18 ?_
    obtain ⟨hy6, hp⟩ := hp
    refine cTop (r := (grC S x0 2)) hy6.1 ?_
    obtain ⟨hy7, hp⟩ := hp
    refine cGov (va_runV (As := [.ref (ad ((grC S x0 2).getD 0))]) (rest := []) ⟨hx, hb, hml, hown, hts⟩ (c_Y0_discard l G K ad S x0 ((grC S x0 2).getD 0) _) (cwV 1 hts (wGV t_ (mw (.methodLink RX1 125 yX0_discard) (List.mem_of_getElem? (i := 7) rfl)) (mw (.instanceMethod yX0_discard) (List.mem_of_getElem? (i := 8) rfl)) (mw (.selects RX0 yX0_discard yX0_discard) (List.mem_of_getElem? (i := 9) rfl)) (mw (.initialized RX0) (List.mem_of_getElem? (i := 5) rfl)) j_Y0_discard) rfl rfl rfl (by decide +kernel) ⟨Nat.le_of_ble_eq_true rfl, Nat.le_of_ble_eq_true rfl⟩) (cPV hK hTE hP hD 0 rfl (at_0 (k_x0.e hZ)) ⟨(k_x0.e hZ), hy6.2, hy7⟩) rfl rfl hl.1 rfl (lv_room (Nat.le_of_ble_eq_true rfl)) dX1_endSitting_21 ⟨Nat.le_of_ble_eq_true rfl, Nat.le_of_ble_eq_true rfl⟩) hP hD hS hA (fun u8 H locs hv hP hD hS => ?_)
    obtain ⟨hv, hz⟩ := hv
    have hZ := hZ.tr hz
    rw [← hv] at hE hp
    dsimp only at hE hp
    exact B_Y1_endSitting_24a u8 x1 _ _ _ hE hp hZ hP hD hS (lv_sub hl [0, 1] rfl)
  have B_M : ∀ (S : Cst) (H : Heap) (locs : List Loc) (ls_ : Array Slot), f_Y1_endSitting S x0 = X → p_Y1_endSitting S x0 → eK S0 S → va_P G vwCl (wsC K ad S) H → va_D A (wsC K ad S) → va_S A s.heap H locs → lv_has ls_ 2 [(0, .ref (ad x0))] → W p l e ({ frames := 4, cells := 0, slots := 0, locals := 86 } : Room) s m #[Value.ref (ad x0)] below meth c H locs 0 0 Q (F0 m 0 ls_ []) := by
    intro S H locs ls_ hE hp hZ hP hD hS hl
    unfold f_Y1_endSitting at hE
    unfold p_Y1_endSitting at hp
    refine lv_aload_n hx hb dX1_endSitting_0 rfl (lv_at hl 0 rfl) ?_
    refine va_get (D := G) (ci := 0) (v := va_re ad (grC S x0 1)) (C := RX0) (T := TX0) (N := 11) hx hb hts iX0 hown hK hP x0 (at_0 (k_x0.e hZ)) rfl 1 (by decide) (hw (.fieldLink RX1 9 "MotionFloor$Assembly" "pending" "LMotionFloor$Pile;") (List.mem_of_getElem? (i := 0) rfl)) (fun _ h9 => h9) rfl dX1_endSitting_1 ?_
    obtain ⟨hy1, hp⟩ := hp
    refine cTop (r := (grC S x0 1)) hy1.1 ?_
    refine va_get (D := G) (ci := 4) (v := .int (giC S ((grC S x0 1).getD 0) 1)) (C := RX5) (T := TX5) (N := 2) hx hb hts iX5 hown hK hP ((grC S x0 1).getD 0) (at_4 hy1.2) rfl 1 (by decide) (hw (.fieldLink RX1 96 "MotionFloor$Pile" "size" "I") (List.mem_of_getElem? (i := 1) rfl)) (fun _ h9 => h9) rfl dX1_endSitting_4 ?_
    refine lv_istore_n (i := 1) (lv' := [(1, .int (giC S ((grC S x0 1).getD 0) 1)), (0, .ref (ad x0))]) hx hb dX1_endSitting_7 rfl hl (by decide) rfl (fun ls_ hl => ?_)
    refine lv_aload_n hx hb dX1_endSitting_8 rfl (lv_at hl 1 rfl) ?_
    refine lv_aload_n hx hb dX1_endSitting_9 rfl (lv_at hl 1 rfl) ?_
    refine va_get (D := G) (ci := 0) (v := va_re ad (grC S x0 1)) (C := RX0) (T := TX0) (N := 11) hx hb hts iX0 hown hK hP x0 (at_0 (k_x0.e hZ)) rfl 1 (by decide) (hw (.fieldLink RX1 9 "MotionFloor$Assembly" "pending" "LMotionFloor$Pile;") (List.mem_of_getElem? (i := 0) rfl)) (fun _ h9 => h9) rfl dX1_endSitting_10 ?_
    obtain ⟨hy2, hp⟩ := hp
    refine cTop (r := (grC S x0 1)) hy2.1 ?_
    obtain ⟨hy3, hp⟩ := hp
    refine cGov (va_runV (As := [.ref (ad ((grC S x0 1).getD 0))]) (rest := []) ⟨hx, hb, hml, hown, hts⟩ (c_Y0_release l G K ad S x0 ((grC S x0 1).getD 0) _) (cwV 1 hts (wGV t_ (mw (.methodLink RX1 209 yX0_release) (List.mem_of_getElem? (i := 2) rfl)) (mw (.instanceMethod yX0_release) (List.mem_of_getElem? (i := 3) rfl)) (mw (.selects RX0 yX0_release yX0_release) (List.mem_of_getElem? (i := 4) rfl)) (mw (.initialized RX0) (List.mem_of_getElem? (i := 5) rfl)) j_Y0_release) rfl rfl rfl (by decide +kernel) ⟨Nat.le_of_ble_eq_true rfl, Nat.le_of_ble_eq_true rfl⟩) (cPV hK hTE hP hD 0 rfl (at_0 (k_x0.e hZ)) ⟨(k_x0.e hZ), hy2.2, hy3⟩) rfl rfl hl.1 rfl (lv_room (Nat.le_of_ble_eq_true rfl)) dX1_endSitting_13 ⟨Nat.le_of_ble_eq_true rfl, Nat.le_of_ble_eq_true rfl⟩) hP hD hS hA (fun u4 H locs hv hP hD hS => ?_)
    obtain ⟨hv, hz⟩ := hv
    have hZ := hZ.tr hz
    rw [← hv] at hE hp
    dsimp only at hE hp
    exact B_Y1_endSitting_16a u4 (giC S ((grC S x0 1).getD 0) 1) _ _ _ hE hp hZ hP hD hS (lv_sub hl [1, 0] rfl)
  exact B_M S0 _ _ _ hX hp (eK.rf S0) hP hD hS hl
theorem gdX2_become_0 : ckS (List.drop 0 cX2_become.data.toList) 0 [(0, .aload_n 0, 1), (1, .aload_n 1, 1), (2, .getfield 19, 3), (5, .putfield 19, 3), (8, .iconst 0, 1), (9, .istore_n 2, 1), (10, .iload_n 2, 1), (11, .aload_n 0, 1), (12, .getfield 9, 3), (15, .arraylength, 1), (16, .if_icmp .ge 21, 3), (19, .aload_n 0, 1), (20, .getfield 9, 3), (23, .iload_n 2, 1), (24, .aload_n 1, 1), (25, .getfield 9, 3), (28, .iload_n 2, 1), (29, .baload, 1), (30, .bastore, 1), (31, .iinc 2 1, 3), (34, .goto (-24), 3), (37, .aload_n 0, 1), (38, .aload_n 1, 1), (39, .getfield 41, 3), (42, .putfield 41, 3), (45, .aload_n 0, 1), (46, .aload_n 1, 1), (47, .getfield 29, 3), (50, .putfield 29, 3), (53, .aload_n 0, 1), (54, .aload_n 1, 1), (55, .getfield 23, 3), (58, .putfield 23, 3), (61, .aload_n 0, 1), (62, .aload_n 1, 1), (63, .getfield 26, 3), (66, .putfield 26, 3), (69, .aload_n 0, 1), (70, .aload_n 1, 1), (71, .getfield 44, 3)] = true := by decide +kernel
theorem dX2_become_0 : decode cX2_become 0 = .ok (.aload_n 0, 1) := ckS_g gdX2_become_0 0 rfl
theorem dX2_become_1 : decode cX2_become 1 = .ok (.aload_n 1, 1) := ckS_g gdX2_become_0 1 rfl
theorem dX2_become_2 : decode cX2_become 2 = .ok (.getfield 19, 3) := ckS_g gdX2_become_0 2 rfl
theorem dX2_become_5 : decode cX2_become 5 = .ok (.putfield 19, 3) := ckS_g gdX2_become_0 3 rfl
theorem dX2_become_8 : decode cX2_become 8 = .ok (.iconst 0, 1) := ckS_g gdX2_become_0 4 rfl
theorem dX2_become_9 : decode cX2_become 9 = .ok (.istore_n 2, 1) := ckS_g gdX2_become_0 5 rfl
theorem dX2_become_10 : decode cX2_become 10 = .ok (.iload_n 2, 1) := ckS_g gdX2_become_0 6 rfl
theorem dX2_become_11 : decode cX2_become 11 = .ok (.aload_n 0, 1) := ckS_g gdX2_become_0 7 rfl
theorem dX2_become_12 : decode cX2_become 12 = .ok (.getfield 9, 3) := ckS_g gdX2_become_0 8 rfl
theorem dX2_become_15 : decode cX2_become 15 = .ok (.arraylength, 1) := ckS_g gdX2_become_0 9 rfl
theorem dX2_become_16 : decode cX2_become 16 = .ok (.if_icmp .ge 21, 3) := ckS_g gdX2_become_0 10 rfl
theorem dX2_become_19 : decode cX2_become 19 = .ok (.aload_n 0, 1) := ckS_g gdX2_become_0 11 rfl
theorem dX2_become_20 : decode cX2_become 20 = .ok (.getfield 9, 3) := ckS_g gdX2_become_0 12 rfl
theorem dX2_become_23 : decode cX2_become 23 = .ok (.iload_n 2, 1) := ckS_g gdX2_become_0 13 rfl
theorem dX2_become_24 : decode cX2_become 24 = .ok (.aload_n 1, 1) := ckS_g gdX2_become_0 14 rfl
theorem dX2_become_25 : decode cX2_become 25 = .ok (.getfield 9, 3) := ckS_g gdX2_become_0 15 rfl
theorem dX2_become_28 : decode cX2_become 28 = .ok (.iload_n 2, 1) := ckS_g gdX2_become_0 16 rfl
theorem dX2_become_29 : decode cX2_become 29 = .ok (.baload, 1) := ckS_g gdX2_become_0 17 rfl
theorem dX2_become_30 : decode cX2_become 30 = .ok (.bastore, 1) := ckS_g gdX2_become_0 18 rfl
theorem dX2_become_31 : decode cX2_become 31 = .ok (.iinc 2 1, 3) := ckS_g gdX2_become_0 19 rfl
theorem dX2_become_34 : decode cX2_become 34 = .ok (.goto (-24), 3) := ckS_g gdX2_become_0 20 rfl
theorem dX2_become_37 : decode cX2_become 37 = .ok (.aload_n 0, 1) := ckS_g gdX2_become_0 21 rfl
theorem dX2_become_38 : decode cX2_become 38 = .ok (.aload_n 1, 1) := ckS_g gdX2_become_0 22 rfl
theorem dX2_become_39 : decode cX2_become 39 = .ok (.getfield 41, 3) := ckS_g gdX2_become_0 23 rfl
theorem dX2_become_42 : decode cX2_become 42 = .ok (.putfield 41, 3) := ckS_g gdX2_become_0 24 rfl
theorem dX2_become_45 : decode cX2_become 45 = .ok (.aload_n 0, 1) := ckS_g gdX2_become_0 25 rfl
theorem dX2_become_46 : decode cX2_become 46 = .ok (.aload_n 1, 1) := ckS_g gdX2_become_0 26 rfl
theorem dX2_become_47 : decode cX2_become 47 = .ok (.getfield 29, 3) := ckS_g gdX2_become_0 27 rfl
theorem dX2_become_50 : decode cX2_become 50 = .ok (.putfield 29, 3) := ckS_g gdX2_become_0 28 rfl
theorem dX2_become_53 : decode cX2_become 53 = .ok (.aload_n 0, 1) := ckS_g gdX2_become_0 29 rfl
theorem dX2_become_54 : decode cX2_become 54 = .ok (.aload_n 1, 1) := ckS_g gdX2_become_0 30 rfl
theorem dX2_become_55 : decode cX2_become 55 = .ok (.getfield 23, 3) := ckS_g gdX2_become_0 31 rfl
theorem dX2_become_58 : decode cX2_become 58 = .ok (.putfield 23, 3) := ckS_g gdX2_become_0 32 rfl
theorem dX2_become_61 : decode cX2_become 61 = .ok (.aload_n 0, 1) := ckS_g gdX2_become_0 33 rfl
theorem dX2_become_62 : decode cX2_become 62 = .ok (.aload_n 1, 1) := ckS_g gdX2_become_0 34 rfl
theorem dX2_become_63 : decode cX2_become 63 = .ok (.getfield 26, 3) := ckS_g gdX2_become_0 35 rfl
theorem dX2_become_66 : decode cX2_become 66 = .ok (.putfield 26, 3) := ckS_g gdX2_become_0 36 rfl
theorem dX2_become_69 : decode cX2_become 69 = .ok (.aload_n 0, 1) := ckS_g gdX2_become_0 37 rfl
theorem dX2_become_70 : decode cX2_become 70 = .ok (.aload_n 1, 1) := ckS_g gdX2_become_0 38 rfl
theorem dX2_become_71 : decode cX2_become 71 = .ok (.getfield 44, 3) := ckS_g gdX2_become_0 39 rfl
theorem gdX2_become_74 : ckS (List.drop 74 cX2_become.data.toList) 74 [(74, .putfield 44, 3), (77, .aload_n 1, 1), (78, .getfield 15, 3), (81, .iconst 0, 1), (82, .aload_n 0, 1), (83, .getfield 15, 3), (86, .iconst 0, 1), (87, .aload_n 0, 1), (88, .getfield 15, 3), (91, .arraylength, 1), (92, .invokestatic 47, 3), (95, .return_, 1)] = true := by decide +kernel
theorem dX2_become_74 : decode cX2_become 74 = .ok (.putfield 44, 3) := ckS_g gdX2_become_74 0 rfl
theorem dX2_become_77 : decode cX2_become 77 = .ok (.aload_n 1, 1) := ckS_g gdX2_become_74 1 rfl
theorem dX2_become_78 : decode cX2_become 78 = .ok (.getfield 15, 3) := ckS_g gdX2_become_74 2 rfl
theorem dX2_become_81 : decode cX2_become 81 = .ok (.iconst 0, 1) := ckS_g gdX2_become_74 3 rfl
theorem dX2_become_82 : decode cX2_become 82 = .ok (.aload_n 0, 1) := ckS_g gdX2_become_74 4 rfl
theorem dX2_become_83 : decode cX2_become 83 = .ok (.getfield 15, 3) := ckS_g gdX2_become_74 5 rfl
theorem dX2_become_86 : decode cX2_become 86 = .ok (.iconst 0, 1) := ckS_g gdX2_become_74 6 rfl
theorem dX2_become_87 : decode cX2_become 87 = .ok (.aload_n 0, 1) := ckS_g gdX2_become_74 7 rfl
theorem dX2_become_88 : decode cX2_become 88 = .ok (.getfield 15, 3) := ckS_g gdX2_become_74 8 rfl
theorem dX2_become_91 : decode cX2_become 91 = .ok (.arraylength, 1) := ckS_g gdX2_become_74 9 rfl
theorem dX2_become_92 : decode cX2_become 92 = .ok (.invokestatic 47, 3) := ckS_g gdX2_become_74 10 rfl
theorem dX2_become_95 : decode cX2_become 95 = .ok (.return_, 1) := ckS_g gdX2_become_74 11 rfl
set_option maxRecDepth 100000 in
theorem zc205 : wZ (.initialized "java/lang/System") := ⟨wT1 (List.mem_of_getElem? (i := 16) (by decide +kernel)), Or.inl rfl⟩
set_option maxRecDepth 100000 in
theorem zc206 : wZ (.static arraycopyName) := ⟨wT3 (List.mem_of_getElem? (i := 209) (by decide +kernel)), Or.inl rfl⟩
set_option maxRecDepth 100000 in
theorem zc207 : wZ (.native arraycopyName) := ⟨wT3 (List.mem_of_getElem? (i := 210) (by decide +kernel)), Or.inl rfl⟩
set_option maxRecDepth 100000 in
theorem zc208 : wZ (.methodLink RX2 47 arraycopyName) := ⟨wT4 (List.mem_of_getElem? (i := 238) (by decide +kernel)), Or.inl rfl⟩
set_option maxRecDepth 100000 in
theorem zc209 : wZ (.code yX2_become cX2_become 3 none) := ⟨wT4 (List.mem_of_getElem? (i := 237) rfl), Or.inl rfl⟩
def b_Y2_become_95a (S : Cst) (x0 : Nat) (x1 : Nat) (x2 : Int32) : Int32 × Cst := (0, S)
def q_Y2_become_95a (S : Cst) (x0 : Nat) (x1 : Nat) (x2 : Int32) : Prop := True
def b_Y2_become_69a (S : Cst) (x0 : Nat) (x1 : Nat) (x2 : Int32) : Int32 × Cst := (b_Y2_become_95a (sfC (siC S x0 6 (giC S x1 6)) ((grC (siC S x0 6 (giC S x1 6)) x0 7).getD 0) (va_cpy (giC (siC S x0 6 (giC S x1 6)) ((grC (siC S x0 6 (giC S x1 6)) x1 7).getD 0)) (giC (siC S x0 6 (giC S x1 6)) ((grC (siC S x0 6 (giC S x1 6)) x0 7).getD 0)) (0 : Int32).toNatClampNeg (0 : Int32).toNatClampNeg (Int32.ofNat (lnC (siC S x0 6 (giC S x1 6)) ((grC (siC S x0 6 (giC S x1 6)) x0 7).getD 0))).toNatClampNeg)) x0 x1 x2)
def q_Y2_become_69a (S : Cst) (x0 : Nat) (x1 : Nat) (x2 : Int32) : Prop := (iR (siC S x0 6 (giC S x1 6)) (grC (siC S x0 6 (giC S x1 6)) x0 7) 20) ∧ (iR (siC S x0 6 (giC S x1 6)) (grC (siC S x0 6 (giC S x1 6)) x1 7) 20) ∧ (iR (siC S x0 6 (giC S x1 6)) (grC (siC S x0 6 (giC S x1 6)) x0 7) 20) ∧ ((¬ (0 : Int32) < 0 ∧ ¬ (0 : Int32) < 0 ∧ ¬ (Int32.ofNat (lnC (siC S x0 6 (giC S x1 6)) ((grC (siC S x0 6 (giC S x1 6)) x0 7).getD 0))) < 0) ∧ (0 : Int32).toNatClampNeg + (Int32.ofNat (lnC (siC S x0 6 (giC S x1 6)) ((grC (siC S x0 6 (giC S x1 6)) x0 7).getD 0))).toNatClampNeg ≤ lnC (siC S x0 6 (giC S x1 6)) ((grC (siC S x0 6 (giC S x1 6)) x1 7).getD 0) ∧ (0 : Int32).toNatClampNeg + (Int32.ofNat (lnC (siC S x0 6 (giC S x1 6)) ((grC (siC S x0 6 (giC S x1 6)) x0 7).getD 0))).toNatClampNeg ≤ lnC (siC S x0 6 (giC S x1 6)) ((grC (siC S x0 6 (giC S x1 6)) x0 7).getD 0)) ∧ (q_Y2_become_95a (sfC (siC S x0 6 (giC S x1 6)) ((grC (siC S x0 6 (giC S x1 6)) x0 7).getD 0) (va_cpy (giC (siC S x0 6 (giC S x1 6)) ((grC (siC S x0 6 (giC S x1 6)) x1 7).getD 0)) (giC (siC S x0 6 (giC S x1 6)) ((grC (siC S x0 6 (giC S x1 6)) x0 7).getD 0)) (0 : Int32).toNatClampNeg (0 : Int32).toNatClampNeg (Int32.ofNat (lnC (siC S x0 6 (giC S x1 6)) ((grC (siC S x0 6 (giC S x1 6)) x0 7).getD 0))).toNatClampNeg)) x0 x1 x2)
def st_Y2_become_10 (S : Cst) (x0 : Nat) (x1 : Nat) (x2 : Int32) : (Int32 × Cst) ⊕ (Cst × Int32) := if (Int32.ofNat (lnC S ((grC S x0 1).getD 0))) ≤ x2 then Sum.inl ((b_Y2_become_69a (siC (siC (siC (siC S x0 2 (giC S x1 2)) x0 3 (giC (siC S x0 2 (giC S x1 2)) x1 3)) x0 4 (giC (siC (siC S x0 2 (giC S x1 2)) x0 3 (giC (siC S x0 2 (giC S x1 2)) x1 3)) x1 4)) x0 5 (giC (siC (siC (siC S x0 2 (giC S x1 2)) x0 3 (giC (siC S x0 2 (giC S x1 2)) x1 3)) x0 4 (giC (siC (siC S x0 2 (giC S x1 2)) x0 3 (giC (siC S x0 2 (giC S x1 2)) x1 3)) x1 4)) x1 5)) x0 x1 x2)) else Sum.inr ((siC S ((grC S x0 1).getD 0) x2.toNatClampNeg (vp_nar .boolean (giC S ((grC S x1 1).getD 0) x2.toNatClampNeg))), (x2 + 1))
def ps_Y2_become_10 (S : Cst) (x0 : Nat) (x1 : Nat) (x2 : Int32) : Prop := (iR S (grC S x0 1) 21) ∧ (if (Int32.ofNat (lnC S ((grC S x0 1).getD 0))) ≤ x2 then (q_Y2_become_69a (siC (siC (siC (siC S x0 2 (giC S x1 2)) x0 3 (giC (siC S x0 2 (giC S x1 2)) x1 3)) x0 4 (giC (siC (siC S x0 2 (giC S x1 2)) x0 3 (giC (siC S x0 2 (giC S x1 2)) x1 3)) x1 4)) x0 5 (giC (siC (siC (siC S x0 2 (giC S x1 2)) x0 3 (giC (siC S x0 2 (giC S x1 2)) x1 3)) x0 4 (giC (siC (siC S x0 2 (giC S x1 2)) x0 3 (giC (siC S x0 2 (giC S x1 2)) x1 3)) x1 4)) x1 5)) x0 x1 x2) else (iR S (grC S x1 1) 21) ∧ (vp_in x2 (lnC S ((grC S x1 1).getD 0))) ∧ (iR S (grC S x0 1) 21) ∧ (vp_in x2 (lnC S ((grC S x0 1).getD 0))) ∧ True)
def lp_Y2_become_10 (x0 : Nat) (x1 : Nat) : Nat → Cst → Int32 → Int32 × Cst
  | 0, S, _ => (0, S)
  | n + 1, S, x2 => match st_Y2_become_10 S x0 x1 x2 with
    | Sum.inl r => r
    | Sum.inr q => lp_Y2_become_10 x0 x1 n q.1 q.2
def lq_Y2_become_10 (x0 : Nat) (x1 : Nat) : Nat → Cst → Int32 → Prop
  | 0, _, _ => False
  | n + 1, S, x2 => ps_Y2_become_10 S x0 x1 x2 ∧ (match st_Y2_become_10 S x0 x1 x2 with
    | Sum.inl _ => True
    | Sum.inr q => lq_Y2_become_10 x0 x1 n q.1 q.2)
def f_Y2_become (S : Cst) (x0 : Nat) (x1 : Nat) : Int32 × Cst := (lp_Y2_become_10 x0 x1 100000 (siC S x0 0 (giC S x1 0)) 0)
def p_Y2_become (S : Cst) (x0 : Nat) (x1 : Nat) : Prop := (lq_Y2_become_10 x0 x1 100000 (siC S x0 0 (giC S x1 0)) 0)
def e_Y2_become : List Cond := [.fieldLink RX2 19 "MotionFloor$House" "seats" "I", .fieldLink RX2 9 "MotionFloor$House" "there" "[Z", .fieldLink RX2 41 "MotionFloor$House" "present" "I", .fieldLink RX2 29 "MotionFloor$House" "chair" "I", .fieldLink RX2 23 "MotionFloor$House" "quorum" "I", .fieldLink RX2 26 "MotionFloor$House" "limit" "I", .fieldLink RX2 44 "MotionFloor$House" "speaker" "I", .fieldLink RX2 15 "MotionFloor$House" "majorities" "[I", .methodLink RX2 47 arraycopyName, .native arraycopyName, .static arraycopyName, .initialized "java/lang/System"]
def v_Y2_become : List Cond := .code yX2_become cX2_become 3 none :: (e_Y2_become ++ (wsX20 ++ []))
theorem te_Y2_become : GoodIn lw_tbl e_Y2_become := wGc zc84 (wGc zc70 (wGc zc69 (wGc zc81 (wGc zc83 (wGc zc82 (wGc zc68 (wGc zc76 (wGc zc208 (wGc zc207 (wGc zc206 (wGc zc205 (wG0))))))))))))
theorem t_Y2_become : GoodIn lw_tbl v_Y2_become := wGc zc209 (wGa te_Y2_become (wGa zcX2 (wG0)))
set_option maxHeartbeats 4000000 in
set_option maxRecDepth 100000 in
theorem c_Y2_become (l : Launch) (G : va_G) (K : Nat → ClassId) (ad : Nat → Nat) (S0 : Cst) (x0 : Nat) (x1 : Nat)  (sz : Nat) : Met l yX2_become v_Y2_become ({ frames := 1, cells := 0, slots := 0, locals := 60 }) (va_Pc [.ref (ad x0), .ref (ad x1)] (cSt G K ad sz S0 (iK S0 x0 1 ∧ iK S0 x1 1 ∧ p_Y2_become S0 x0 x1))) (va_Qv (fun u : Cst => (0, u) = f_Y2_become S0 x0 x1 ∧ eK S0 u) (cBt G K ad (va_A (wsC K ad S0) sz)) (va_A (wsC K ad S0) sz)) 0 0 (va_A (wsC K ad S0) sz) := by
  refine Met.ofW (cc := cX2_become) (maxL := 3) (ret := none) (by decide) rfl ?_
  intro p e s m args below meth c s₁ B hml hv
  obtain ⟨rfl, ⟨hsz, hP, hK, hD0, hTE⟩, hp⟩ := hv
  obtain ⟨k_x0, hp⟩ := hp
  obtain ⟨k_x1, hp⟩ := hp
  have hx := B.exec
  have hb := B.bytes
  have hr := B.returns
  have hts := atoms_spec (ws := v_Y2_become) B.pre
  have t_ := t_Y2_become
  have mw : ∀ w ∈ e_Y2_become, w ∈ v_Y2_become := fun w h => List.mem_cons_of_mem _ (List.mem_append_left _ h)
  have hw := fun w (h : w ∈ e_Y2_become) => hts w (mw w h)
  have iX2 : ∀ w ∈ wsX20, w ∈ v_Y2_become := fun w h => List.mem_cons_of_mem _ (List.mem_append_right _ (List.mem_append_left _ h))
  have hown : s.vm.findClass RX2 = some m.cls := findClass_of_methodNamed B.named
  have hlocks := B.notSynchronized
  subst hsz
  have hD := hD0.self (sz := s.heap.size)
  generalize hAe : va_A (wsC K ad S0) s.heap.size = A at hD ⊢
  have hA : ∀ q : Nat, s.heap.size ≤ q → A q := fun q h => by rw [← hAe]; exact Or.inr h
  have hS : va_S A s.heap s.heap [] := va_S.rf
  have hl : lv_has (lg_sl ([.ref (ad x0), .ref (ad x1)]) ++ List.replicate (3 - (lg_sl ([.ref (ad x0), .ref (ad x1)])).length) Slot.unset).toArray 3 [(0, .ref (ad x0)), (1, .ref (ad x1))] := by
    exact lv_entry ([.ref (ad x0), .ref (ad x1)]) (n := 3) (Nat.le_of_ble_eq_true rfl)
  rw [lg_entry_eq]
  generalize (lg_sl ([.ref (ad x0), .ref (ad x1)]) ++ List.replicate (3 - (lg_sl ([.ref (ad x0), .ref (ad x1)])).length) Slot.unset).toArray = ls_ at hl ⊢
  refine wGen (fun Q hQ => ?_)
  obtain ⟨X, hX⟩ : ∃ X, f_Y2_become S0 x0 x1 = X := ⟨_, rfl⟩
  have B_Y2_become_95a : ∀ (S : Cst) (x2 : Int32) (H : Heap) (locs : List Loc) (ls_ : Array Slot), b_Y2_become_95a S x0 x1 x2 = X → q_Y2_become_95a S x0 x1 x2 → eK S0 S → va_P G vwCl (wsC K ad S) H → va_D A (wsC K ad S) → va_S A s.heap H locs → lv_has ls_ 3 [(0, .ref (ad x0)), (1, .ref (ad x1)), (2, .int x2)] → W p l e ({ frames := 1, cells := 0, slots := 0, locals := 60 } : Room) s m #[Value.ref (ad x0), Value.ref (ad x1)] below meth c H locs 0 0 Q (F0 m 95 ls_ []) := by
    intro S x2 H locs ls_ hE hp hZ hP hD hS hl
    unfold b_Y2_become_95a at hE
    unfold q_Y2_become_95a at hp
    subst hQ
    exact W.vret hx hb hr (fun t ht hW => ⟨⟨S, rfl, ⟨hE.trans hX.symm, hZ⟩, by rw [ht]; exact hP, hD⟩, hS.F ht⟩) hS.2.2 dX2_become_95
  have B_Y2_become_69a : ∀ (S : Cst) (x2 : Int32) (H : Heap) (locs : List Loc) (ls_ : Array Slot), b_Y2_become_69a S x0 x1 x2 = X → q_Y2_become_69a S x0 x1 x2 → eK S0 S → va_P G vwCl (wsC K ad S) H → va_D A (wsC K ad S) → va_S A s.heap H locs → lv_has ls_ 3 [(0, .ref (ad x0)), (1, .ref (ad x1)), (2, .int x2)] → W p l e ({ frames := 1, cells := 0, slots := 0, locals := 60 } : Room) s m #[Value.ref (ad x0), Value.ref (ad x1)] below meth c H locs 0 0 Q (F0 m 69 ls_ []) := by
    intro S x2 H locs ls_ hE hp hZ hP hD hS hl
    unfold b_Y2_become_69a at hE
    unfold q_Y2_become_69a at hp
    refine lv_aload_n hx hb dX2_become_69 rfl (lv_at hl 0 rfl) ?_
    refine lv_aload_n hx hb dX2_become_70 rfl (lv_at hl 1 rfl) ?_
    refine va_get (D := G) (ci := 1) (v := .int (giC S x1 6)) (C := RX2) (T := TX2) (N := 8) hx hb hts iX2 hown hK hP x1 (at_1 (k_x1.e hZ)) rfl 6 (by decide) (hw (.fieldLink RX2 44 "MotionFloor$House" "speaker" "I") (List.mem_of_getElem? (i := 6) rfl)) (fun _ h9 => h9) rfl dX2_become_71 ?_
    refine va_put (D := G) (ci := 1) (v := .int (giC S x1 6)) (ty := .int) (C := RX2) (T := TX2) (N := 8) hx hb hts iX2 tyX2 tyX2_ok nmX2 hown hK hP hD hS x0 (at_1 (k_x0.e hZ)) rfl 6 (by decide) (hw (.fieldLink RX2 44 "MotionFloor$House" "speaker" "I") (List.mem_of_getElem? (i := 6) rfl)) (fun _ h9 => h9) rfl (by decide +kernel) rfl rfl (Nat.le_of_ble_eq_true rfl) dX2_become_74 (fun H locs hP hD hS => ?_)
    rw [st_1_6 (k_x0.e hZ)] at hP hD
    have hZ := hZ.tr (eK.si S x0 6 (giC S x1 6))
    refine lv_aload_n hx hb dX2_become_77 rfl (lv_at hl 1 rfl) ?_
    refine va_get (D := G) (ci := 1) (v := va_re ad (grC (siC S x0 6 (giC S x1 6)) x1 7)) (C := RX2) (T := TX2) (N := 8) hx hb hts iX2 hown hK hP x1 (at_1 (k_x1.e hZ)) rfl 7 (by decide) (hw (.fieldLink RX2 15 "MotionFloor$House" "majorities" "[I") (List.mem_of_getElem? (i := 7) rfl)) (fun _ h9 => h9) rfl dX2_become_78 ?_
    refine lv_iconst (v := 0) hx hb dX2_become_81 (by decide) ?_
    refine lv_aload_n hx hb dX2_become_82 rfl (lv_at hl 0 rfl) ?_
    refine va_get (D := G) (ci := 1) (v := va_re ad (grC (siC S x0 6 (giC S x1 6)) x0 7)) (C := RX2) (T := TX2) (N := 8) hx hb hts iX2 hown hK hP x0 (at_1 (k_x0.e hZ)) rfl 7 (by decide) (hw (.fieldLink RX2 15 "MotionFloor$House" "majorities" "[I") (List.mem_of_getElem? (i := 7) rfl)) (fun _ h9 => h9) rfl dX2_become_83 ?_
    refine lv_iconst (v := 0) hx hb dX2_become_86 (by decide) ?_
    refine lv_aload_n hx hb dX2_become_87 rfl (lv_at hl 0 rfl) ?_
    refine va_get (D := G) (ci := 1) (v := va_re ad (grC (siC S x0 6 (giC S x1 6)) x0 7)) (C := RX2) (T := TX2) (N := 8) hx hb hts iX2 hown hK hP x0 (at_1 (k_x0.e hZ)) rfl 7 (by decide) (hw (.fieldLink RX2 15 "MotionFloor$House" "majorities" "[I") (List.mem_of_getElem? (i := 7) rfl)) (fun _ h9 => h9) rfl dX2_become_88 ?_
    obtain ⟨hy3, hp⟩ := hp
    refine cTop (r := (grC (siC S x0 6 (giC S x1 6)) x0 7)) hy3.1 ?_
    refine va_alen (v := (Int32.ofNat (lnC (siC S x0 6 (giC S x1 6)) ((grC (siC S x0 6 (giC S x1 6)) x0 7).getD 0)))) hx hb hK hP ((grC (siC S x0 6 (giC S x1 6)) x0 7).getD 0) 0 (at_20 hy3.2) rfl rfl dX2_become_91 ?_
    obtain ⟨hy4, hp⟩ := hp
    refine cTop5 (r := (grC (siC S x0 6 (giC S x1 6)) x1 7)) hy4.1 ?_
    obtain ⟨hy5, hp⟩ := hp
    refine cTop3 (r := (grC (siC S x0 6 (giC S x1 6)) x0 7)) hy5.1 ?_
    obtain ⟨hy6, hp⟩ := hp
    refine va_copyi hx hb (by rw [hml]; exact hl.1.symm) hown (hw (.methodLink RX2 47 arraycopyName) (List.mem_of_getElem? (i := 8) rfl)) (hw (.native arraycopyName) (List.mem_of_getElem? (i := 9) rfl)) (hw (.static arraycopyName) (List.mem_of_getElem? (i := 10) rfl)) (hw (.initialized "java/lang/System") (List.mem_of_getElem? (i := 11) rfl)) hK hP hD hS ((grC (siC S x0 6 (giC S x1 6)) x1 7).getD 0) ((grC (siC S x0 6 (giC S x1 6)) x0 7).getD 0) 0 0 (at_20 hy4.2) (at_20 hy5.2) rfl rfl rfl hy6.1.1 hy6.1.2.1 hy6.1.2.2 hy6.2.1 hy6.2.2 (fun i hi => rfl) (Nat.le_of_ble_eq_true rfl) (Nat.le_of_ble_eq_true rfl) dX2_become_92 (fun H locs hP hD hS => ?_)
    rw [sf_20 hy5.2] at hP hD
    have hZ := hZ.tr (eK.sf (siC S x0 6 (giC S x1 6)) ((grC (siC S x0 6 (giC S x1 6)) x0 7).getD 0) (va_cpy (giC (siC S x0 6 (giC S x1 6)) ((grC (siC S x0 6 (giC S x1 6)) x1 7).getD 0)) (giC (siC S x0 6 (giC S x1 6)) ((grC (siC S x0 6 (giC S x1 6)) x0 7).getD 0)) (0 : Int32).toNatClampNeg (0 : Int32).toNatClampNeg (Int32.ofNat (lnC (siC S x0 6 (giC S x1 6)) ((grC (siC S x0 6 (giC S x1 6)) x0 7).getD 0))).toNatClampNeg))
    exact B_Y2_become_95a (sfC (siC S x0 6 (giC S x1 6)) ((grC (siC S x0 6 (giC S x1 6)) x0 7).getD 0) (va_cpy (giC (siC S x0 6 (giC S x1 6)) ((grC (siC S x0 6 (giC S x1 6)) x1 7).getD 0)) (giC (siC S x0 6 (giC S x1 6)) ((grC (siC S x0 6 (giC S x1 6)) x0 7).getD 0)) (0 : Int32).toNatClampNeg (0 : Int32).toNatClampNeg (Int32.ofNat (lnC (siC S x0 6 (giC S x1 6)) ((grC (siC S x0 6 (giC S x1 6)) x0 7).getD 0))).toNatClampNeg)) x2 _ _ _ hE hp hZ hP hD hS (lv_sub hl [0, 1, 2] rfl)
  have L_10 : ∀ (n : Nat) (S : Cst) (x2 : Int32) (H : Heap) (locs : List Loc) (ls_ : Array Slot), lp_Y2_become_10 x0 x1 n S x2 = X → lq_Y2_become_10 x0 x1 n S x2 → eK S0 S → va_P G vwCl (wsC K ad S) H → va_D A (wsC K ad S) → va_S A s.heap H locs → lv_has ls_ 3 [(0, .ref (ad x0)), (1, .ref (ad x1)), (2, .int x2)] → W p l e ({ frames := 1, cells := 0, slots := 0, locals := 60 } : Room) s m #[Value.ref (ad x0), Value.ref (ad x1)] below meth c H locs 0 0 Q (F0 m 10 ls_ []) := by
    intro n1
    induction n1 with
    | zero => intro S x2 H locs ls_ hE hp; exact False.elim hp
    | succ n1 ih1 =>
      intro S x2 H locs ls_ hO1 hp hZ hP hD hS hl
      rw [lp_Y2_become_10] at hO1
      rw [lq_Y2_become_10] at hp
      obtain ⟨hp, hq1⟩ := hp
      generalize hE : st_Y2_become_10 S x0 x1 x2 = Y1 at hO1 hq1
      unfold st_Y2_become_10 at hE
      unfold ps_Y2_become_10 at hp
      refine lv_iload_n hx hb dX2_become_10 rfl (lv_at hl 2 rfl) ?_
      refine lv_aload_n hx hb dX2_become_11 rfl (lv_at hl 0 rfl) ?_
      refine va_get (D := G) (ci := 1) (v := va_re ad (grC S x0 1)) (C := RX2) (T := TX2) (N := 8) hx hb hts iX2 hown hK hP x0 (at_1 (k_x0.e hZ)) rfl 1 (by decide) (hw (.fieldLink RX2 9 "MotionFloor$House" "there" "[Z") (List.mem_of_getElem? (i := 1) rfl)) (fun _ h9 => h9) rfl dX2_become_12 ?_
      obtain ⟨hy1, hp⟩ := hp
      refine cTop (r := (grC S x0 1)) hy1.1 ?_
      refine va_alen (v := (Int32.ofNat (lnC S ((grC S x0 1).getD 0)))) hx hb hK hP ((grC S x0 1).getD 0) 1 (at_21 hy1.2) rfl rfl dX2_become_15 ?_
      refine lv_icmp_ge (tgt := 37) hx hb dX2_become_16 (by decide) (fun c2 => ?_) (fun c2 => ?_)
      · rw [if_pos c2] at hE hp
        subst hE
        have hE := hO1
        dsimp only at hE
        refine lv_aload_n hx hb dX2_become_37 rfl (lv_at hl 0 rfl) ?_
        refine lv_aload_n hx hb dX2_become_38 rfl (lv_at hl 1 rfl) ?_
        refine va_get (D := G) (ci := 1) (v := .int (giC S x1 2)) (C := RX2) (T := TX2) (N := 8) hx hb hts iX2 hown hK hP x1 (at_1 (k_x1.e hZ)) rfl 2 (by decide) (hw (.fieldLink RX2 41 "MotionFloor$House" "present" "I") (List.mem_of_getElem? (i := 2) rfl)) (fun _ h9 => h9) rfl dX2_become_39 ?_
        refine va_put (D := G) (ci := 1) (v := .int (giC S x1 2)) (ty := .int) (C := RX2) (T := TX2) (N := 8) hx hb hts iX2 tyX2 tyX2_ok nmX2 hown hK hP hD hS x0 (at_1 (k_x0.e hZ)) rfl 2 (by decide) (hw (.fieldLink RX2 41 "MotionFloor$House" "present" "I") (List.mem_of_getElem? (i := 2) rfl)) (fun _ h9 => h9) rfl (by decide +kernel) rfl rfl (Nat.le_of_ble_eq_true rfl) dX2_become_42 (fun H locs hP hD hS => ?_)
        rw [st_1_2 (k_x0.e hZ)] at hP hD
        have hZ := hZ.tr (eK.si S x0 2 (giC S x1 2))
        refine lv_aload_n hx hb dX2_become_45 rfl (lv_at hl 0 rfl) ?_
        refine lv_aload_n hx hb dX2_become_46 rfl (lv_at hl 1 rfl) ?_
        refine va_get (D := G) (ci := 1) (v := .int (giC (siC S x0 2 (giC S x1 2)) x1 3)) (C := RX2) (T := TX2) (N := 8) hx hb hts iX2 hown hK hP x1 (at_1 (k_x1.e hZ)) rfl 3 (by decide) (hw (.fieldLink RX2 29 "MotionFloor$House" "chair" "I") (List.mem_of_getElem? (i := 3) rfl)) (fun _ h9 => h9) rfl dX2_become_47 ?_
        refine va_put (D := G) (ci := 1) (v := .int (giC (siC S x0 2 (giC S x1 2)) x1 3)) (ty := .int) (C := RX2) (T := TX2) (N := 8) hx hb hts iX2 tyX2 tyX2_ok nmX2 hown hK hP hD hS x0 (at_1 (k_x0.e hZ)) rfl 3 (by decide) (hw (.fieldLink RX2 29 "MotionFloor$House" "chair" "I") (List.mem_of_getElem? (i := 3) rfl)) (fun _ h9 => h9) rfl (by decide +kernel) rfl rfl (Nat.le_of_ble_eq_true rfl) dX2_become_50 (fun H locs hP hD hS => ?_)
        rw [st_1_3 (k_x0.e hZ)] at hP hD
        have hZ := hZ.tr (eK.si (siC S x0 2 (giC S x1 2)) x0 3 (giC (siC S x0 2 (giC S x1 2)) x1 3))
        refine lv_aload_n hx hb dX2_become_53 rfl (lv_at hl 0 rfl) ?_
        refine lv_aload_n hx hb dX2_become_54 rfl (lv_at hl 1 rfl) ?_
        refine va_get (D := G) (ci := 1) (v := .int (giC (siC (siC S x0 2 (giC S x1 2)) x0 3 (giC (siC S x0 2 (giC S x1 2)) x1 3)) x1 4)) (C := RX2) (T := TX2) (N := 8) hx hb hts iX2 hown hK hP x1 (at_1 (k_x1.e hZ)) rfl 4 (by decide) (hw (.fieldLink RX2 23 "MotionFloor$House" "quorum" "I") (List.mem_of_getElem? (i := 4) rfl)) (fun _ h9 => h9) rfl dX2_become_55 ?_
        refine va_put (D := G) (ci := 1) (v := .int (giC (siC (siC S x0 2 (giC S x1 2)) x0 3 (giC (siC S x0 2 (giC S x1 2)) x1 3)) x1 4)) (ty := .int) (C := RX2) (T := TX2) (N := 8) hx hb hts iX2 tyX2 tyX2_ok nmX2 hown hK hP hD hS x0 (at_1 (k_x0.e hZ)) rfl 4 (by decide) (hw (.fieldLink RX2 23 "MotionFloor$House" "quorum" "I") (List.mem_of_getElem? (i := 4) rfl)) (fun _ h9 => h9) rfl (by decide +kernel) rfl rfl (Nat.le_of_ble_eq_true rfl) dX2_become_58 (fun H locs hP hD hS => ?_)
        rw [st_1_4 (k_x0.e hZ)] at hP hD
        have hZ := hZ.tr (eK.si (siC (siC S x0 2 (giC S x1 2)) x0 3 (giC (siC S x0 2 (giC S x1 2)) x1 3)) x0 4 (giC (siC (siC S x0 2 (giC S x1 2)) x0 3 (giC (siC S x0 2 (giC S x1 2)) x1 3)) x1 4))
        refine lv_aload_n hx hb dX2_become_61 rfl (lv_at hl 0 rfl) ?_
        refine lv_aload_n hx hb dX2_become_62 rfl (lv_at hl 1 rfl) ?_
        refine va_get (D := G) (ci := 1) (v := .int (giC (siC (siC (siC S x0 2 (giC S x1 2)) x0 3 (giC (siC S x0 2 (giC S x1 2)) x1 3)) x0 4 (giC (siC (siC S x0 2 (giC S x1 2)) x0 3 (giC (siC S x0 2 (giC S x1 2)) x1 3)) x1 4)) x1 5)) (C := RX2) (T := TX2) (N := 8) hx hb hts iX2 hown hK hP x1 (at_1 (k_x1.e hZ)) rfl 5 (by decide) (hw (.fieldLink RX2 26 "MotionFloor$House" "limit" "I") (List.mem_of_getElem? (i := 5) rfl)) (fun _ h9 => h9) rfl dX2_become_63 ?_
        refine va_put (D := G) (ci := 1) (v := .int (giC (siC (siC (siC S x0 2 (giC S x1 2)) x0 3 (giC (siC S x0 2 (giC S x1 2)) x1 3)) x0 4 (giC (siC (siC S x0 2 (giC S x1 2)) x0 3 (giC (siC S x0 2 (giC S x1 2)) x1 3)) x1 4)) x1 5)) (ty := .int) (C := RX2) (T := TX2) (N := 8) hx hb hts iX2 tyX2 tyX2_ok nmX2 hown hK hP hD hS x0 (at_1 (k_x0.e hZ)) rfl 5 (by decide) (hw (.fieldLink RX2 26 "MotionFloor$House" "limit" "I") (List.mem_of_getElem? (i := 5) rfl)) (fun _ h9 => h9) rfl (by decide +kernel) rfl rfl (Nat.le_of_ble_eq_true rfl) dX2_become_66 (fun H locs hP hD hS => ?_)
        rw [st_1_5 (k_x0.e hZ)] at hP hD
        have hZ := hZ.tr (eK.si (siC (siC (siC S x0 2 (giC S x1 2)) x0 3 (giC (siC S x0 2 (giC S x1 2)) x1 3)) x0 4 (giC (siC (siC S x0 2 (giC S x1 2)) x0 3 (giC (siC S x0 2 (giC S x1 2)) x1 3)) x1 4)) x0 5 (giC (siC (siC (siC S x0 2 (giC S x1 2)) x0 3 (giC (siC S x0 2 (giC S x1 2)) x1 3)) x0 4 (giC (siC (siC S x0 2 (giC S x1 2)) x0 3 (giC (siC S x0 2 (giC S x1 2)) x1 3)) x1 4)) x1 5))
        exact B_Y2_become_69a (siC (siC (siC (siC S x0 2 (giC S x1 2)) x0 3 (giC (siC S x0 2 (giC S x1 2)) x1 3)) x0 4 (giC (siC (siC S x0 2 (giC S x1 2)) x0 3 (giC (siC S x0 2 (giC S x1 2)) x1 3)) x1 4)) x0 5 (giC (siC (siC (siC S x0 2 (giC S x1 2)) x0 3 (giC (siC S x0 2 (giC S x1 2)) x1 3)) x0 4 (giC (siC (siC S x0 2 (giC S x1 2)) x0 3 (giC (siC S x0 2 (giC S x1 2)) x1 3)) x1 4)) x1 5)) x2 _ _ _ hE hp hZ hP hD hS (lv_sub hl [0, 1, 2] rfl)
      · rw [if_neg c2] at hE hp
        refine lv_aload_n hx hb dX2_become_19 rfl (lv_at hl 0 rfl) ?_
        refine va_get (D := G) (ci := 1) (v := va_re ad (grC S x0 1)) (C := RX2) (T := TX2) (N := 8) hx hb hts iX2 hown hK hP x0 (at_1 (k_x0.e hZ)) rfl 1 (by decide) (hw (.fieldLink RX2 9 "MotionFloor$House" "there" "[Z") (List.mem_of_getElem? (i := 1) rfl)) (fun _ h9 => h9) rfl dX2_become_20 ?_
        refine lv_iload_n hx hb dX2_become_23 rfl (lv_at hl 2 rfl) ?_
        refine lv_aload_n hx hb dX2_become_24 rfl (lv_at hl 1 rfl) ?_
        refine va_get (D := G) (ci := 1) (v := va_re ad (grC S x1 1)) (C := RX2) (T := TX2) (N := 8) hx hb hts iX2 hown hK hP x1 (at_1 (k_x1.e hZ)) rfl 1 (by decide) (hw (.fieldLink RX2 9 "MotionFloor$House" "there" "[Z") (List.mem_of_getElem? (i := 1) rfl)) (fun _ h9 => h9) rfl dX2_become_25 ?_
        refine lv_iload_n hx hb dX2_become_28 rfl (lv_at hl 2 rfl) ?_
        obtain ⟨hy7, hp⟩ := hp
        refine cTop2 (r := (grC S x1 1)) hy7.1 ?_
        obtain ⟨hy8, hp⟩ := hp
        refine va_zald hx hb hK hP ((grC S x1 1).getD 0) 1 (at_21 hy7.2) rfl hy8 dX2_become_29 ?_
        obtain ⟨hy9, hp⟩ := hp
        refine cTop3 (r := (grC S x0 1)) hy9.1 ?_
        obtain ⟨hy10, hp⟩ := hp
        refine va_zast hx hb hK hP hD hS ((grC S x0 1).getD 0) 1 (at_21 hy9.2) rfl hy10 dX2_become_30 (fun H locs hP hD hS => ?_)
        rw [sa_21 hy9.2] at hP hD
        have hZ := hZ.tr (eK.si S ((grC S x0 1).getD 0) x2.toNatClampNeg (vp_nar .boolean (giC S ((grC S x1 1).getD 0) x2.toNatClampNeg)))
        refine lv_iinc (i := 2) (v := (x2 + 1)) (lv' := [(2, .int (x2 + 1)), (0, .ref (ad x0)), (1, .ref (ad x1))]) hx hb dX2_become_31 hl (k := 2) rfl rfl (by decide) rfl (fun ls_ hl => ?_)
        refine lv_goto (tgt := 10) hx hb dX2_become_34 (by decide) ?_
        subst hE
        dsimp only at hO1 hq1
        exact ih1 (siC S ((grC S x0 1).getD 0) x2.toNatClampNeg (vp_nar .boolean (giC S ((grC S x1 1).getD 0) x2.toNatClampNeg))) (x2 + 1) _ _ _ hO1 hq1 hZ hP hD hS (lv_sub hl [1, 2, 0] rfl)
  have B_M : ∀ (S : Cst) (H : Heap) (locs : List Loc) (ls_ : Array Slot), f_Y2_become S x0 x1 = X → p_Y2_become S x0 x1 → eK S0 S → va_P G vwCl (wsC K ad S) H → va_D A (wsC K ad S) → va_S A s.heap H locs → lv_has ls_ 3 [(0, .ref (ad x0)), (1, .ref (ad x1))] → W p l e ({ frames := 1, cells := 0, slots := 0, locals := 60 } : Room) s m #[Value.ref (ad x0), Value.ref (ad x1)] below meth c H locs 0 0 Q (F0 m 0 ls_ []) := by
    intro S H locs ls_ hE hp hZ hP hD hS hl
    unfold f_Y2_become at hE
    unfold p_Y2_become at hp
    refine lv_aload_n hx hb dX2_become_0 rfl (lv_at hl 0 rfl) ?_
    refine lv_aload_n hx hb dX2_become_1 rfl (lv_at hl 1 rfl) ?_
    refine va_get (D := G) (ci := 1) (v := .int (giC S x1 0)) (C := RX2) (T := TX2) (N := 8) hx hb hts iX2 hown hK hP x1 (at_1 (k_x1.e hZ)) rfl 0 (by decide) (hw (.fieldLink RX2 19 "MotionFloor$House" "seats" "I") (List.mem_of_getElem? (i := 0) rfl)) (fun _ h9 => h9) rfl dX2_become_2 ?_
    refine va_put (D := G) (ci := 1) (v := .int (giC S x1 0)) (ty := .int) (C := RX2) (T := TX2) (N := 8) hx hb hts iX2 tyX2 tyX2_ok nmX2 hown hK hP hD hS x0 (at_1 (k_x0.e hZ)) rfl 0 (by decide) (hw (.fieldLink RX2 19 "MotionFloor$House" "seats" "I") (List.mem_of_getElem? (i := 0) rfl)) (fun _ h9 => h9) rfl (by decide +kernel) rfl rfl (Nat.le_of_ble_eq_true rfl) dX2_become_5 (fun H locs hP hD hS => ?_)
    rw [st_1_0 (k_x0.e hZ)] at hP hD
    have hZ := hZ.tr (eK.si S x0 0 (giC S x1 0))
    refine lv_iconst (v := 0) hx hb dX2_become_8 (by decide) ?_
    refine lv_istore_n (i := 2) (lv' := [(2, .int 0), (0, .ref (ad x0)), (1, .ref (ad x1))]) hx hb dX2_become_9 rfl hl (by decide) rfl (fun ls_ hl => ?_)
    exact L_10 100000 (siC S x0 0 (giC S x1 0)) 0 _ _ _ hE hp hZ hP hD hS (lv_sub hl [1, 2, 0] rfl)
  exact B_M S0 _ _ _ hX hp (eK.rf S0) hP hD hS hl
set_option maxRecDepth 100000 in
theorem zc210 : wZ (.code yX2_has cX2_has 2 (some .boolean)) := ⟨wT2 (List.mem_of_getElem? (i := 61) rfl), Or.inl rfl⟩
def b_Y2_has_26 (S : Cst) (x0 : Nat) (x1 : Int32) (y0 : Int32) : Int32 := y0
def q_Y2_has_26 (S : Cst) (x0 : Nat) (x1 : Int32) (y0 : Int32) : Prop := (narrow .boolean (.int y0) = .int y0) ∧ True
def b_Y2_has_25 (S : Cst) (x0 : Nat) (x1 : Int32) : Int32 := (b_Y2_has_26 S x0 x1 0)
def q_Y2_has_25 (S : Cst) (x0 : Nat) (x1 : Int32) : Prop := (q_Y2_has_26 S x0 x1 0)
def f_Y2_has (S : Cst) (x0 : Nat) (x1 : Int32) : Int32 := if x1 < 0 then (b_Y2_has_25 S x0 x1) else if (giC S x0 0) ≤ x1 then (b_Y2_has_25 S x0 x1) else if (Int32.ofNat (lnC S ((grC S x0 1).getD 0))) ≤ x1 then (b_Y2_has_25 S x0 x1) else (b_Y2_has_26 S x0 x1 1)
def p_Y2_has (S : Cst) (x0 : Nat) (x1 : Int32) : Prop := (if x1 < 0 then (q_Y2_has_25 S x0 x1) else (if (giC S x0 0) ≤ x1 then (q_Y2_has_25 S x0 x1) else (iR S (grC S x0 1) 21) ∧ (if (Int32.ofNat (lnC S ((grC S x0 1).getD 0))) ≤ x1 then (q_Y2_has_25 S x0 x1) else (q_Y2_has_26 S x0 x1 1))))
def e_Y2_has : List Cond := [.fieldLink RX2 19 "MotionFloor$House" "seats" "I", .fieldLink RX2 9 "MotionFloor$House" "there" "[Z"]
def v_Y2_has : List Cond := .code yX2_has cX2_has 2 (some .boolean) :: (e_Y2_has ++ (wsX20 ++ []))
theorem te_Y2_has : GoodIn lw_tbl e_Y2_has := wGc zc84 (wGc zc70 (wG0))
theorem t_Y2_has : GoodIn lw_tbl v_Y2_has := wGc zc210 (wGa te_Y2_has (wGa zcX2 (wG0)))
set_option maxHeartbeats 4000000 in
set_option maxRecDepth 100000 in
theorem c_Y2_has (l : Launch) (G : va_G) (K : Nat → ClassId) (ad : Nat → Nat) (S : Cst) (x0 : Nat) (a1 : Int32) (sz : Nat) : Met l yX2_has v_Y2_has ({ frames := 0, cells := 0, slots := 0, locals := 0 }) (va_Pc [.ref (ad x0), .int a1] (cSt G K ad sz S (iK S x0 1 ∧ p_Y2_has S x0 a1))) (va_Qi (fun (r : Int32) (u : Cst) => (r, u) = (f_Y2_has S x0 a1, S)) (cBt G K ad (va_A (wsC K ad S) sz)) (va_A (wsC K ad S) sz)) 0 0 (va_A (wsC K ad S) sz) := by
  refine Met.ofW (cc := cX2_has) (maxL := 2) (ret := (some .boolean)) (by decide) rfl ?_
  intro p e s m args below meth c s₁ B hml hv
  obtain ⟨rfl, ⟨hsz, hP, hK, hD0, hTE⟩, hp⟩ := hv
  obtain ⟨k_x0, hp⟩ := hp
  have hx := B.exec
  have hb := B.bytes
  have hr := B.returns
  have hts := atoms_spec (ws := v_Y2_has) B.pre
  have t_ := t_Y2_has
  have mw : ∀ w ∈ e_Y2_has, w ∈ v_Y2_has := fun w h => List.mem_cons_of_mem _ (List.mem_append_left _ h)
  have hw := fun w (h : w ∈ e_Y2_has) => hts w (mw w h)
  have iX2 : ∀ w ∈ wsX20, w ∈ v_Y2_has := fun w h => List.mem_cons_of_mem _ (List.mem_append_right _ (List.mem_append_left _ h))
  have hown : s.vm.findClass RX2 = some m.cls := findClass_of_methodNamed B.named
  have hlocks := B.notSynchronized
  subst hsz
  have hD := hD0.self (sz := s.heap.size)
  generalize hAe : va_A (wsC K ad S) s.heap.size = A at hD ⊢
  have hA : ∀ q : Nat, s.heap.size ≤ q → A q := fun q h => by rw [← hAe]; exact Or.inr h
  have hS : va_S A s.heap s.heap [] := va_S.rf
  have hl : lv_has (lg_sl ([.ref (ad x0), .int a1]) ++ List.replicate (2 - (lg_sl ([.ref (ad x0), .int a1])).length) Slot.unset).toArray 2 [(0, .ref (ad x0)), (1, .int a1)] := by
    exact lv_entry ([.ref (ad x0), .int a1]) (n := 2) (Nat.le_of_ble_eq_true rfl)
  rw [lg_entry_eq]
  generalize (lg_sl ([.ref (ad x0), .int a1]) ++ List.replicate (2 - (lg_sl ([.ref (ad x0), .int a1])).length) Slot.unset).toArray = ls_ at hl ⊢
  refine wGen (fun Q hQ => ?_)
  obtain ⟨X, hX⟩ : ∃ X, f_Y2_has S x0 a1 = X := ⟨_, rfl⟩
  have B_Y2_has_26 : ∀ (x1 : Int32) (y0 : Int32) (H : Heap) (locs : List Loc) (ls_ : Array Slot), b_Y2_has_26 S x0 x1 y0 = X → q_Y2_has_26 S x0 x1 y0 → va_P G vwCl (wsC K ad S) H → va_D A (wsC K ad S) → va_S A s.heap H locs → lv_has ls_ 2 [(0, .ref (ad x0)), (1, .int x1)] → W p l e ({ frames := 0, cells := 0, slots := 0, locals := 0 } : Room) s m #[Value.ref (ad x0), Value.int a1] below meth c H locs 0 0 Q (F0 m 26 ls_ [.int y0]) := by
    intro x1 y0 H locs ls_ hE hp hP hD hS hl
    unfold b_Y2_has_26 at hE
    unfold q_Y2_has_26 at hp
    obtain ⟨hy2, hp⟩ := hp
    subst hQ
    exact W.zret (v := y0) (ty := .boolean) hx hb hr hy2 (fun t ht hW => ⟨⟨y0, S, rfl, (pair_i (hE.trans hX.symm)), by rw [ht]; exact hP, hD⟩, hS.F ht⟩) hS.2.2 dX2_has_26
  have B_Y2_has_25 : ∀ (x1 : Int32) (H : Heap) (locs : List Loc) (ls_ : Array Slot), b_Y2_has_25 S x0 x1 = X → q_Y2_has_25 S x0 x1 → va_P G vwCl (wsC K ad S) H → va_D A (wsC K ad S) → va_S A s.heap H locs → lv_has ls_ 2 [(0, .ref (ad x0)), (1, .int x1)] → W p l e ({ frames := 0, cells := 0, slots := 0, locals := 0 } : Room) s m #[Value.ref (ad x0), Value.int a1] below meth c H locs 0 0 Q (F0 m 25 ls_ []) := by
    intro x1 H locs ls_ hE hp hP hD hS hl
    unfold b_Y2_has_25 at hE
    unfold q_Y2_has_25 at hp
    refine lv_iconst (v := 0) hx hb dX2_has_25 (by decide) ?_
    exact B_Y2_has_26 x1 0 _ _ _ hE hp hP hD hS (lv_sub hl [0, 1] rfl)
  have B_M : ∀ (x1 : Int32) (H : Heap) (locs : List Loc) (ls_ : Array Slot), f_Y2_has S x0 x1 = X → p_Y2_has S x0 x1 → va_P G vwCl (wsC K ad S) H → va_D A (wsC K ad S) → va_S A s.heap H locs → lv_has ls_ 2 [(0, .ref (ad x0)), (1, .int x1)] → W p l e ({ frames := 0, cells := 0, slots := 0, locals := 0 } : Room) s m #[Value.ref (ad x0), Value.int a1] below meth c H locs 0 0 Q (F0 m 0 ls_ []) := by
    intro x1 H locs ls_ hE hp hP hD hS hl
    unfold f_Y2_has at hE
    unfold p_Y2_has at hp
    refine lv_iload_n hx hb dX2_has_0 rfl (lv_at hl 1 rfl) ?_
    refine lv_if_lt (tgt := 25) hx hb dX2_has_1 (by decide) (fun c1 => ?_) (fun c1 => ?_)
    · rw [if_pos c1] at hE hp
      exact B_Y2_has_25 x1 _ _ _ hE hp hP hD hS (lv_sub hl [0, 1] rfl)
    · rw [if_neg c1] at hE hp
      refine lv_iload_n hx hb dX2_has_4 rfl (lv_at hl 1 rfl) ?_
      refine lv_aload_n hx hb dX2_has_5 rfl (lv_at hl 0 rfl) ?_
      refine va_get (D := G) (ci := 1) (v := .int (giC S x0 0)) (C := RX2) (T := TX2) (N := 8) hx hb hts iX2 hown hK hP x0 (at_1 k_x0) rfl 0 (by decide) (hw (.fieldLink RX2 19 "MotionFloor$House" "seats" "I") (List.mem_of_getElem? (i := 0) rfl)) (fun _ h9 => h9) rfl dX2_has_6 ?_
      refine lv_icmp_ge (tgt := 25) hx hb dX2_has_9 (by decide) (fun c3 => ?_) (fun c3 => ?_)
      · rw [if_pos c3] at hE hp
        exact B_Y2_has_25 x1 _ _ _ hE hp hP hD hS (lv_sub hl [0, 1] rfl)
      · rw [if_neg c3] at hE hp
        refine lv_iload_n hx hb dX2_has_12 rfl (lv_at hl 1 rfl) ?_
        refine lv_aload_n hx hb dX2_has_13 rfl (lv_at hl 0 rfl) ?_
        refine va_get (D := G) (ci := 1) (v := va_re ad (grC S x0 1)) (C := RX2) (T := TX2) (N := 8) hx hb hts iX2 hown hK hP x0 (at_1 k_x0) rfl 1 (by decide) (hw (.fieldLink RX2 9 "MotionFloor$House" "there" "[Z") (List.mem_of_getElem? (i := 1) rfl)) (fun _ h9 => h9) rfl dX2_has_14 ?_
        obtain ⟨hy4, hp⟩ := hp
        refine cTop (r := (grC S x0 1)) hy4.1 ?_
        refine va_alen (v := (Int32.ofNat (lnC S ((grC S x0 1).getD 0)))) hx hb hK hP ((grC S x0 1).getD 0) 1 (at_21 hy4.2) rfl rfl dX2_has_17 ?_
        refine lv_icmp_ge (tgt := 25) hx hb dX2_has_18 (by decide) (fun c5 => ?_) (fun c5 => ?_)
        · rw [if_pos c5] at hE hp
          exact B_Y2_has_25 x1 _ _ _ hE hp hP hD hS (lv_sub hl [0, 1] rfl)
        · rw [if_neg c5] at hE hp
          refine lv_iconst (v := 1) hx hb dX2_has_21 (by decide) ?_
          refine lv_goto (tgt := 26) hx hb dX2_has_22 (by decide) ?_
          exact B_Y2_has_26 x1 1 _ _ _ hE hp hP hD hS (lv_sub hl [0, 1] rfl)
  exact B_M a1 _ _ _ hX hp hP hD hS hl
set_option maxRecDepth 100000 in
theorem zc211 : wZ (.code yX2_isThere cX2_isThere 2 (some .boolean)) := ⟨wT2 (List.mem_of_getElem? (i := 65) rfl), Or.inl rfl⟩
def b_Y2_isThere_35 (S : Cst) (x0 : Nat) (x1 : Int32) (y0 : Int32) : Int32 := y0
def q_Y2_isThere_35 (S : Cst) (x0 : Nat) (x1 : Int32) (y0 : Int32) : Prop := (narrow .boolean (.int y0) = .int y0) ∧ True
def b_Y2_isThere_34 (S : Cst) (x0 : Nat) (x1 : Int32) : Int32 := (b_Y2_isThere_35 S x0 x1 0)
def q_Y2_isThere_34 (S : Cst) (x0 : Nat) (x1 : Int32) : Prop := (q_Y2_isThere_35 S x0 x1 0)
def f_Y2_isThere (S : Cst) (x0 : Nat) (x1 : Int32) : Int32 := if x1 < 0 then (b_Y2_isThere_34 S x0 x1) else if (giC S x0 0) ≤ x1 then (b_Y2_isThere_34 S x0 x1) else if (Int32.ofNat (lnC S ((grC S x0 1).getD 0))) ≤ x1 then (b_Y2_isThere_34 S x0 x1) else if (giC S ((grC S x0 1).getD 0) x1.toNatClampNeg) = 0 then (b_Y2_isThere_34 S x0 x1) else (b_Y2_isThere_35 S x0 x1 1)
def p_Y2_isThere (S : Cst) (x0 : Nat) (x1 : Int32) : Prop := (if x1 < 0 then (q_Y2_isThere_34 S x0 x1) else (if (giC S x0 0) ≤ x1 then (q_Y2_isThere_34 S x0 x1) else (iR S (grC S x0 1) 21) ∧ (if (Int32.ofNat (lnC S ((grC S x0 1).getD 0))) ≤ x1 then (q_Y2_isThere_34 S x0 x1) else (iR S (grC S x0 1) 21) ∧ (vp_in x1 (lnC S ((grC S x0 1).getD 0))) ∧ (if (giC S ((grC S x0 1).getD 0) x1.toNatClampNeg) = 0 then (q_Y2_isThere_34 S x0 x1) else (q_Y2_isThere_35 S x0 x1 1)))))
def e_Y2_isThere : List Cond := [.fieldLink RX2 19 "MotionFloor$House" "seats" "I", .fieldLink RX2 9 "MotionFloor$House" "there" "[Z"]
def v_Y2_isThere : List Cond := .code yX2_isThere cX2_isThere 2 (some .boolean) :: (e_Y2_isThere ++ (wsX20 ++ []))
theorem te_Y2_isThere : GoodIn lw_tbl e_Y2_isThere := wGc zc84 (wGc zc70 (wG0))
theorem t_Y2_isThere : GoodIn lw_tbl v_Y2_isThere := wGc zc211 (wGa te_Y2_isThere (wGa zcX2 (wG0)))
set_option maxHeartbeats 4000000 in
set_option maxRecDepth 100000 in
theorem c_Y2_isThere (l : Launch) (G : va_G) (K : Nat → ClassId) (ad : Nat → Nat) (S : Cst) (x0 : Nat) (a1 : Int32) (sz : Nat) : Met l yX2_isThere v_Y2_isThere ({ frames := 0, cells := 0, slots := 0, locals := 0 }) (va_Pc [.ref (ad x0), .int a1] (cSt G K ad sz S (iK S x0 1 ∧ p_Y2_isThere S x0 a1))) (va_Qi (fun (r : Int32) (u : Cst) => (r, u) = (f_Y2_isThere S x0 a1, S)) (cBt G K ad (va_A (wsC K ad S) sz)) (va_A (wsC K ad S) sz)) 0 0 (va_A (wsC K ad S) sz) := by
  refine Met.ofW (cc := cX2_isThere) (maxL := 2) (ret := (some .boolean)) (by decide) rfl ?_
  intro p e s m args below meth c s₁ B hml hv
  obtain ⟨rfl, ⟨hsz, hP, hK, hD0, hTE⟩, hp⟩ := hv
  obtain ⟨k_x0, hp⟩ := hp
  have hx := B.exec
  have hb := B.bytes
  have hr := B.returns
  have hts := atoms_spec (ws := v_Y2_isThere) B.pre
  have t_ := t_Y2_isThere
  have mw : ∀ w ∈ e_Y2_isThere, w ∈ v_Y2_isThere := fun w h => List.mem_cons_of_mem _ (List.mem_append_left _ h)
  have hw := fun w (h : w ∈ e_Y2_isThere) => hts w (mw w h)
  have iX2 : ∀ w ∈ wsX20, w ∈ v_Y2_isThere := fun w h => List.mem_cons_of_mem _ (List.mem_append_right _ (List.mem_append_left _ h))
  have hown : s.vm.findClass RX2 = some m.cls := findClass_of_methodNamed B.named
  have hlocks := B.notSynchronized
  subst hsz
  have hD := hD0.self (sz := s.heap.size)
  generalize hAe : va_A (wsC K ad S) s.heap.size = A at hD ⊢
  have hA : ∀ q : Nat, s.heap.size ≤ q → A q := fun q h => by rw [← hAe]; exact Or.inr h
  have hS : va_S A s.heap s.heap [] := va_S.rf
  have hl : lv_has (lg_sl ([.ref (ad x0), .int a1]) ++ List.replicate (2 - (lg_sl ([.ref (ad x0), .int a1])).length) Slot.unset).toArray 2 [(0, .ref (ad x0)), (1, .int a1)] := by
    exact lv_entry ([.ref (ad x0), .int a1]) (n := 2) (Nat.le_of_ble_eq_true rfl)
  rw [lg_entry_eq]
  generalize (lg_sl ([.ref (ad x0), .int a1]) ++ List.replicate (2 - (lg_sl ([.ref (ad x0), .int a1])).length) Slot.unset).toArray = ls_ at hl ⊢
  refine wGen (fun Q hQ => ?_)
  obtain ⟨X, hX⟩ : ∃ X, f_Y2_isThere S x0 a1 = X := ⟨_, rfl⟩
  have B_Y2_isThere_35 : ∀ (x1 : Int32) (y0 : Int32) (H : Heap) (locs : List Loc) (ls_ : Array Slot), b_Y2_isThere_35 S x0 x1 y0 = X → q_Y2_isThere_35 S x0 x1 y0 → va_P G vwCl (wsC K ad S) H → va_D A (wsC K ad S) → va_S A s.heap H locs → lv_has ls_ 2 [(0, .ref (ad x0)), (1, .int x1)] → W p l e ({ frames := 0, cells := 0, slots := 0, locals := 0 } : Room) s m #[Value.ref (ad x0), Value.int a1] below meth c H locs 0 0 Q (F0 m 35 ls_ [.int y0]) := by
    intro x1 y0 H locs ls_ hE hp hP hD hS hl
    unfold b_Y2_isThere_35 at hE
    unfold q_Y2_isThere_35 at hp
    obtain ⟨hy2, hp⟩ := hp
    subst hQ
    exact W.zret (v := y0) (ty := .boolean) hx hb hr hy2 (fun t ht hW => ⟨⟨y0, S, rfl, (pair_i (hE.trans hX.symm)), by rw [ht]; exact hP, hD⟩, hS.F ht⟩) hS.2.2 dX2_isThere_35
  have B_Y2_isThere_34 : ∀ (x1 : Int32) (H : Heap) (locs : List Loc) (ls_ : Array Slot), b_Y2_isThere_34 S x0 x1 = X → q_Y2_isThere_34 S x0 x1 → va_P G vwCl (wsC K ad S) H → va_D A (wsC K ad S) → va_S A s.heap H locs → lv_has ls_ 2 [(0, .ref (ad x0)), (1, .int x1)] → W p l e ({ frames := 0, cells := 0, slots := 0, locals := 0 } : Room) s m #[Value.ref (ad x0), Value.int a1] below meth c H locs 0 0 Q (F0 m 34 ls_ []) := by
    intro x1 H locs ls_ hE hp hP hD hS hl
    unfold b_Y2_isThere_34 at hE
    unfold q_Y2_isThere_34 at hp
    refine lv_iconst (v := 0) hx hb dX2_isThere_34 (by decide) ?_
    exact B_Y2_isThere_35 x1 0 _ _ _ hE hp hP hD hS (lv_sub hl [0, 1] rfl)
  have B_M : ∀ (x1 : Int32) (H : Heap) (locs : List Loc) (ls_ : Array Slot), f_Y2_isThere S x0 x1 = X → p_Y2_isThere S x0 x1 → va_P G vwCl (wsC K ad S) H → va_D A (wsC K ad S) → va_S A s.heap H locs → lv_has ls_ 2 [(0, .ref (ad x0)), (1, .int x1)] → W p l e ({ frames := 0, cells := 0, slots := 0, locals := 0 } : Room) s m #[Value.ref (ad x0), Value.int a1] below meth c H locs 0 0 Q (F0 m 0 ls_ []) := by
    intro x1 H locs ls_ hE hp hP hD hS hl
    unfold f_Y2_isThere at hE
    unfold p_Y2_isThere at hp
    refine lv_iload_n hx hb dX2_isThere_0 rfl (lv_at hl 1 rfl) ?_
    refine lv_if_lt (tgt := 34) hx hb dX2_isThere_1 (by decide) (fun c1 => ?_) (fun c1 => ?_)
    · rw [if_pos c1] at hE hp
      exact B_Y2_isThere_34 x1 _ _ _ hE hp hP hD hS (lv_sub hl [0, 1] rfl)
    · rw [if_neg c1] at hE hp
      refine lv_iload_n hx hb dX2_isThere_4 rfl (lv_at hl 1 rfl) ?_
      refine lv_aload_n hx hb dX2_isThere_5 rfl (lv_at hl 0 rfl) ?_
      refine va_get (D := G) (ci := 1) (v := .int (giC S x0 0)) (C := RX2) (T := TX2) (N := 8) hx hb hts iX2 hown hK hP x0 (at_1 k_x0) rfl 0 (by decide) (hw (.fieldLink RX2 19 "MotionFloor$House" "seats" "I") (List.mem_of_getElem? (i := 0) rfl)) (fun _ h9 => h9) rfl dX2_isThere_6 ?_
      refine lv_icmp_ge (tgt := 34) hx hb dX2_isThere_9 (by decide) (fun c3 => ?_) (fun c3 => ?_)
      · rw [if_pos c3] at hE hp
        exact B_Y2_isThere_34 x1 _ _ _ hE hp hP hD hS (lv_sub hl [0, 1] rfl)
      · rw [if_neg c3] at hE hp
        refine lv_iload_n hx hb dX2_isThere_12 rfl (lv_at hl 1 rfl) ?_
        refine lv_aload_n hx hb dX2_isThere_13 rfl (lv_at hl 0 rfl) ?_
        refine va_get (D := G) (ci := 1) (v := va_re ad (grC S x0 1)) (C := RX2) (T := TX2) (N := 8) hx hb hts iX2 hown hK hP x0 (at_1 k_x0) rfl 1 (by decide) (hw (.fieldLink RX2 9 "MotionFloor$House" "there" "[Z") (List.mem_of_getElem? (i := 1) rfl)) (fun _ h9 => h9) rfl dX2_isThere_14 ?_
        obtain ⟨hy4, hp⟩ := hp
        refine cTop (r := (grC S x0 1)) hy4.1 ?_
        refine va_alen (v := (Int32.ofNat (lnC S ((grC S x0 1).getD 0)))) hx hb hK hP ((grC S x0 1).getD 0) 1 (at_21 hy4.2) rfl rfl dX2_isThere_17 ?_
        refine lv_icmp_ge (tgt := 34) hx hb dX2_isThere_18 (by decide) (fun c5 => ?_) (fun c5 => ?_)
        · rw [if_pos c5] at hE hp
          exact B_Y2_isThere_34 x1 _ _ _ hE hp hP hD hS (lv_sub hl [0, 1] rfl)
        · rw [if_neg c5] at hE hp
          refine lv_aload_n hx hb dX2_isThere_21 rfl (lv_at hl 0 rfl) ?_
          refine va_get (D := G) (ci := 1) (v := va_re ad (grC S x0 1)) (C := RX2) (T := TX2) (N := 8) hx hb hts iX2 hown hK hP x0 (at_1 k_x0) rfl 1 (by decide) (hw (.fieldLink RX2 9 "MotionFloor$House" "there" "[Z") (List.mem_of_getElem? (i := 1) rfl)) (fun _ h9 => h9) rfl dX2_isThere_22 ?_
          refine lv_iload_n hx hb dX2_isThere_25 rfl (lv_at hl 1 rfl) ?_
          obtain ⟨hy6, hp⟩ := hp
          refine cTop2 (r := (grC S x0 1)) hy6.1 ?_
          obtain ⟨hy7, hp⟩ := hp
          refine va_zald hx hb hK hP ((grC S x0 1).getD 0) 1 (at_21 hy6.2) rfl hy7 dX2_isThere_26 ?_
          refine lv_if_eq (tgt := 34) hx hb dX2_isThere_27 (by decide) (fun c8 => ?_) (fun c8 => ?_)
          · rw [if_pos c8] at hE hp
            exact B_Y2_isThere_34 x1 _ _ _ hE hp hP hD hS (lv_sub hl [0, 1] rfl)
          · rw [if_neg c8] at hE hp
            refine lv_iconst (v := 1) hx hb dX2_isThere_30 (by decide) ?_
            refine lv_goto (tgt := 35) hx hb dX2_isThere_31 (by decide) ?_
            exact B_Y2_isThere_35 x1 1 _ _ _ hE hp hP hD hS (lv_sub hl [0, 1] rfl)
  exact B_M a1 _ _ _ hX hp hP hD hS hl
set_option maxRecDepth 100000 in
theorem zc212 : wZ (.code yX2_hasFloor cX2_hasFloor 2 (some .boolean)) := ⟨wT2 (List.mem_of_getElem? (i := 89) rfl), Or.inl rfl⟩
def b_Y2_hasFloor_18 (S : Cst) (x0 : Nat) (x1 : Int32) (y0 : Int32) : Int32 := y0
def q_Y2_hasFloor_18 (S : Cst) (x0 : Nat) (x1 : Int32) (y0 : Int32) : Prop := (narrow .boolean (.int y0) = .int y0) ∧ True
def b_Y2_hasFloor_17 (S : Cst) (x0 : Nat) (x1 : Int32) : Int32 := (b_Y2_hasFloor_18 S x0 x1 0)
def q_Y2_hasFloor_17 (S : Cst) (x0 : Nat) (x1 : Int32) : Prop := (q_Y2_hasFloor_18 S x0 x1 0)
def f_Y2_hasFloor (S : Cst) (x0 : Nat) (x1 : Int32) : Int32 := if x1 = (-1) then (b_Y2_hasFloor_17 S x0 x1) else if x1 = (giC S x0 6) then (b_Y2_hasFloor_18 S x0 x1 1) else (b_Y2_hasFloor_17 S x0 x1)
def p_Y2_hasFloor (S : Cst) (x0 : Nat) (x1 : Int32) : Prop := (if x1 = (-1) then (q_Y2_hasFloor_17 S x0 x1) else (if x1 = (giC S x0 6) then (q_Y2_hasFloor_18 S x0 x1 1) else (q_Y2_hasFloor_17 S x0 x1)))
def e_Y2_hasFloor : List Cond := [.fieldLink RX2 44 "MotionFloor$House" "speaker" "I"]
def v_Y2_hasFloor : List Cond := .code yX2_hasFloor cX2_hasFloor 2 (some .boolean) :: (e_Y2_hasFloor ++ (wsX20 ++ []))
theorem te_Y2_hasFloor : GoodIn lw_tbl e_Y2_hasFloor := wGc zc68 (wG0)
theorem t_Y2_hasFloor : GoodIn lw_tbl v_Y2_hasFloor := wGc zc212 (wGa te_Y2_hasFloor (wGa zcX2 (wG0)))
set_option maxHeartbeats 4000000 in
set_option maxRecDepth 100000 in
theorem c_Y2_hasFloor (l : Launch) (G : va_G) (K : Nat → ClassId) (ad : Nat → Nat) (S : Cst) (x0 : Nat) (a1 : Int32) (sz : Nat) : Met l yX2_hasFloor v_Y2_hasFloor ({ frames := 0, cells := 0, slots := 0, locals := 0 }) (va_Pc [.ref (ad x0), .int a1] (cSt G K ad sz S (iK S x0 1 ∧ p_Y2_hasFloor S x0 a1))) (va_Qi (fun (r : Int32) (u : Cst) => (r, u) = (f_Y2_hasFloor S x0 a1, S)) (cBt G K ad (va_A (wsC K ad S) sz)) (va_A (wsC K ad S) sz)) 0 0 (va_A (wsC K ad S) sz) := by
  refine Met.ofW (cc := cX2_hasFloor) (maxL := 2) (ret := (some .boolean)) (by decide) rfl ?_
  intro p e s m args below meth c s₁ B hml hv
  obtain ⟨rfl, ⟨hsz, hP, hK, hD0, hTE⟩, hp⟩ := hv
  obtain ⟨k_x0, hp⟩ := hp
  have hx := B.exec
  have hb := B.bytes
  have hr := B.returns
  have hts := atoms_spec (ws := v_Y2_hasFloor) B.pre
  have t_ := t_Y2_hasFloor
  have mw : ∀ w ∈ e_Y2_hasFloor, w ∈ v_Y2_hasFloor := fun w h => List.mem_cons_of_mem _ (List.mem_append_left _ h)
  have hw := fun w (h : w ∈ e_Y2_hasFloor) => hts w (mw w h)
  have iX2 : ∀ w ∈ wsX20, w ∈ v_Y2_hasFloor := fun w h => List.mem_cons_of_mem _ (List.mem_append_right _ (List.mem_append_left _ h))
  have hown : s.vm.findClass RX2 = some m.cls := findClass_of_methodNamed B.named
  have hlocks := B.notSynchronized
  subst hsz
  have hD := hD0.self (sz := s.heap.size)
  generalize hAe : va_A (wsC K ad S) s.heap.size = A at hD ⊢
  have hA : ∀ q : Nat, s.heap.size ≤ q → A q := fun q h => by rw [← hAe]; exact Or.inr h
  have hS : va_S A s.heap s.heap [] := va_S.rf
  have hl : lv_has (lg_sl ([.ref (ad x0), .int a1]) ++ List.replicate (2 - (lg_sl ([.ref (ad x0), .int a1])).length) Slot.unset).toArray 2 [(0, .ref (ad x0)), (1, .int a1)] := by
    exact lv_entry ([.ref (ad x0), .int a1]) (n := 2) (Nat.le_of_ble_eq_true rfl)
  rw [lg_entry_eq]
  generalize (lg_sl ([.ref (ad x0), .int a1]) ++ List.replicate (2 - (lg_sl ([.ref (ad x0), .int a1])).length) Slot.unset).toArray = ls_ at hl ⊢
  refine wGen (fun Q hQ => ?_)
  obtain ⟨X, hX⟩ : ∃ X, f_Y2_hasFloor S x0 a1 = X := ⟨_, rfl⟩
  have B_Y2_hasFloor_18 : ∀ (x1 : Int32) (y0 : Int32) (H : Heap) (locs : List Loc) (ls_ : Array Slot), b_Y2_hasFloor_18 S x0 x1 y0 = X → q_Y2_hasFloor_18 S x0 x1 y0 → va_P G vwCl (wsC K ad S) H → va_D A (wsC K ad S) → va_S A s.heap H locs → lv_has ls_ 2 [(0, .ref (ad x0)), (1, .int x1)] → W p l e ({ frames := 0, cells := 0, slots := 0, locals := 0 } : Room) s m #[Value.ref (ad x0), Value.int a1] below meth c H locs 0 0 Q (F0 m 18 ls_ [.int y0]) := by
    intro x1 y0 H locs ls_ hE hp hP hD hS hl
    unfold b_Y2_hasFloor_18 at hE
    unfold q_Y2_hasFloor_18 at hp
    obtain ⟨hy2, hp⟩ := hp
    subst hQ
    exact W.zret (v := y0) (ty := .boolean) hx hb hr hy2 (fun t ht hW => ⟨⟨y0, S, rfl, (pair_i (hE.trans hX.symm)), by rw [ht]; exact hP, hD⟩, hS.F ht⟩) hS.2.2 dX2_hasFloor_18
  have B_Y2_hasFloor_17 : ∀ (x1 : Int32) (H : Heap) (locs : List Loc) (ls_ : Array Slot), b_Y2_hasFloor_17 S x0 x1 = X → q_Y2_hasFloor_17 S x0 x1 → va_P G vwCl (wsC K ad S) H → va_D A (wsC K ad S) → va_S A s.heap H locs → lv_has ls_ 2 [(0, .ref (ad x0)), (1, .int x1)] → W p l e ({ frames := 0, cells := 0, slots := 0, locals := 0 } : Room) s m #[Value.ref (ad x0), Value.int a1] below meth c H locs 0 0 Q (F0 m 17 ls_ []) := by
    intro x1 H locs ls_ hE hp hP hD hS hl
    unfold b_Y2_hasFloor_17 at hE
    unfold q_Y2_hasFloor_17 at hp
    refine lv_iconst (v := 0) hx hb dX2_hasFloor_17 (by decide) ?_
    exact B_Y2_hasFloor_18 x1 0 _ _ _ hE hp hP hD hS (lv_sub hl [0, 1] rfl)
  have B_M : ∀ (x1 : Int32) (H : Heap) (locs : List Loc) (ls_ : Array Slot), f_Y2_hasFloor S x0 x1 = X → p_Y2_hasFloor S x0 x1 → va_P G vwCl (wsC K ad S) H → va_D A (wsC K ad S) → va_S A s.heap H locs → lv_has ls_ 2 [(0, .ref (ad x0)), (1, .int x1)] → W p l e ({ frames := 0, cells := 0, slots := 0, locals := 0 } : Room) s m #[Value.ref (ad x0), Value.int a1] below meth c H locs 0 0 Q (F0 m 0 ls_ []) := by
    intro x1 H locs ls_ hE hp hP hD hS hl
    unfold f_Y2_hasFloor at hE
    unfold p_Y2_hasFloor at hp
    refine lv_iload_n hx hb dX2_hasFloor_0 rfl (lv_at hl 1 rfl) ?_
    refine lv_iconst (v := (-1)) hx hb dX2_hasFloor_1 (by decide) ?_
    refine lv_icmp_eq (tgt := 17) hx hb dX2_hasFloor_2 (by decide) (fun c1 => ?_) (fun c1 => ?_)
    · rw [if_pos c1] at hE hp
      exact B_Y2_hasFloor_17 x1 _ _ _ hE hp hP hD hS (lv_sub hl [0, 1] rfl)
    · rw [if_neg c1] at hE hp
      refine lv_iload_n hx hb dX2_hasFloor_5 rfl (lv_at hl 1 rfl) ?_
      refine lv_aload_n hx hb dX2_hasFloor_6 rfl (lv_at hl 0 rfl) ?_
      refine va_get (D := G) (ci := 1) (v := .int (giC S x0 6)) (C := RX2) (T := TX2) (N := 8) hx hb hts iX2 hown hK hP x0 (at_1 k_x0) rfl 6 (by decide) (hw (.fieldLink RX2 44 "MotionFloor$House" "speaker" "I") (List.mem_of_getElem? (i := 0) rfl)) (fun _ h9 => h9) rfl dX2_hasFloor_7 ?_
      refine lv_icmp_ne (tgt := 17) hx hb dX2_hasFloor_10 (by decide) (fun c3 => ?_) (fun c3 => ?_)
      · rw [if_neg c3] at hE hp
        exact B_Y2_hasFloor_17 x1 _ _ _ hE hp hP hD hS (lv_sub hl [0, 1] rfl)
      · rw [if_pos c3] at hE hp
        refine lv_iconst (v := 1) hx hb dX2_hasFloor_13 (by decide) ?_
        refine lv_goto (tgt := 18) hx hb dX2_hasFloor_14 (by decide) ?_
        exact B_Y2_hasFloor_18 x1 1 _ _ _ hE hp hP hD hS (lv_sub hl [0, 1] rfl)
  exact B_M a1 _ _ _ hX hp hP hD hS hl
set_option maxRecDepth 100000 in
theorem zc213 : wZ (.code yX2_hasQuorum cX2_hasQuorum 1 (some .boolean)) := ⟨wT2 (List.mem_of_getElem? (i := 159) rfl), Or.inl rfl⟩
def b_Y2_hasQuorum_16 (S : Cst) (x0 : Nat) (y0 : Int32) : Int32 := y0
def q_Y2_hasQuorum_16 (S : Cst) (x0 : Nat) (y0 : Int32) : Prop := (narrow .boolean (.int y0) = .int y0) ∧ True
def f_Y2_hasQuorum (S : Cst) (x0 : Nat) : Int32 := if (giC S x0 2) < (giC S x0 4) then (b_Y2_hasQuorum_16 S x0 0) else (b_Y2_hasQuorum_16 S x0 1)
def p_Y2_hasQuorum (S : Cst) (x0 : Nat) : Prop := (if (giC S x0 2) < (giC S x0 4) then (q_Y2_hasQuorum_16 S x0 0) else (q_Y2_hasQuorum_16 S x0 1))
def e_Y2_hasQuorum : List Cond := [.fieldLink RX2 41 "MotionFloor$House" "present" "I", .fieldLink RX2 23 "MotionFloor$House" "quorum" "I"]
def v_Y2_hasQuorum : List Cond := .code yX2_hasQuorum cX2_hasQuorum 1 (some .boolean) :: (e_Y2_hasQuorum ++ (wsX20 ++ []))
theorem te_Y2_hasQuorum : GoodIn lw_tbl e_Y2_hasQuorum := wGc zc69 (wGc zc83 (wG0))
theorem t_Y2_hasQuorum : GoodIn lw_tbl v_Y2_hasQuorum := wGc zc213 (wGa te_Y2_hasQuorum (wGa zcX2 (wG0)))
set_option maxHeartbeats 4000000 in
set_option maxRecDepth 100000 in
theorem c_Y2_hasQuorum (l : Launch) (G : va_G) (K : Nat → ClassId) (ad : Nat → Nat) (S : Cst) (x0 : Nat)  (sz : Nat) : Met l yX2_hasQuorum v_Y2_hasQuorum ({ frames := 0, cells := 0, slots := 0, locals := 0 }) (va_Pc [.ref (ad x0)] (cSt G K ad sz S (iK S x0 1 ∧ p_Y2_hasQuorum S x0))) (va_Qi (fun (r : Int32) (u : Cst) => (r, u) = (f_Y2_hasQuorum S x0, S)) (cBt G K ad (va_A (wsC K ad S) sz)) (va_A (wsC K ad S) sz)) 0 0 (va_A (wsC K ad S) sz) := by
  refine Met.ofW (cc := cX2_hasQuorum) (maxL := 1) (ret := (some .boolean)) (by decide) rfl ?_
  intro p e s m args below meth c s₁ B hml hv
  obtain ⟨rfl, ⟨hsz, hP, hK, hD0, hTE⟩, hp⟩ := hv
  obtain ⟨k_x0, hp⟩ := hp
  have hx := B.exec
  have hb := B.bytes
  have hr := B.returns
  have hts := atoms_spec (ws := v_Y2_hasQuorum) B.pre
  have t_ := t_Y2_hasQuorum
  have mw : ∀ w ∈ e_Y2_hasQuorum, w ∈ v_Y2_hasQuorum := fun w h => List.mem_cons_of_mem _ (List.mem_append_left _ h)
  have hw := fun w (h : w ∈ e_Y2_hasQuorum) => hts w (mw w h)
  have iX2 : ∀ w ∈ wsX20, w ∈ v_Y2_hasQuorum := fun w h => List.mem_cons_of_mem _ (List.mem_append_right _ (List.mem_append_left _ h))
  have hown : s.vm.findClass RX2 = some m.cls := findClass_of_methodNamed B.named
  have hlocks := B.notSynchronized
  subst hsz
  have hD := hD0.self (sz := s.heap.size)
  generalize hAe : va_A (wsC K ad S) s.heap.size = A at hD ⊢
  have hA : ∀ q : Nat, s.heap.size ≤ q → A q := fun q h => by rw [← hAe]; exact Or.inr h
  have hS : va_S A s.heap s.heap [] := va_S.rf
  have hl : lv_has (lg_sl ([.ref (ad x0)]) ++ List.replicate (1 - (lg_sl ([.ref (ad x0)])).length) Slot.unset).toArray 1 [(0, .ref (ad x0))] := by
    exact lv_entry ([.ref (ad x0)]) (n := 1) (Nat.le_of_ble_eq_true rfl)
  rw [lg_entry_eq]
  generalize (lg_sl ([.ref (ad x0)]) ++ List.replicate (1 - (lg_sl ([.ref (ad x0)])).length) Slot.unset).toArray = ls_ at hl ⊢
  refine wGen (fun Q hQ => ?_)
  obtain ⟨X, hX⟩ : ∃ X, f_Y2_hasQuorum S x0 = X := ⟨_, rfl⟩
  have B_Y2_hasQuorum_16 : ∀ (y0 : Int32) (H : Heap) (locs : List Loc) (ls_ : Array Slot), b_Y2_hasQuorum_16 S x0 y0 = X → q_Y2_hasQuorum_16 S x0 y0 → va_P G vwCl (wsC K ad S) H → va_D A (wsC K ad S) → va_S A s.heap H locs → lv_has ls_ 1 [(0, .ref (ad x0))] → W p l e ({ frames := 0, cells := 0, slots := 0, locals := 0 } : Room) s m #[Value.ref (ad x0)] below meth c H locs 0 0 Q (F0 m 16 ls_ [.int y0]) := by
    intro y0 H locs ls_ hE hp hP hD hS hl
    unfold b_Y2_hasQuorum_16 at hE
    unfold q_Y2_hasQuorum_16 at hp
    obtain ⟨hy2, hp⟩ := hp
    subst hQ
    exact W.zret (v := y0) (ty := .boolean) hx hb hr hy2 (fun t ht hW => ⟨⟨y0, S, rfl, (pair_i (hE.trans hX.symm)), by rw [ht]; exact hP, hD⟩, hS.F ht⟩) hS.2.2 dX2_hasQuorum_16
  have B_M : ∀ (H : Heap) (locs : List Loc) (ls_ : Array Slot), f_Y2_hasQuorum S x0 = X → p_Y2_hasQuorum S x0 → va_P G vwCl (wsC K ad S) H → va_D A (wsC K ad S) → va_S A s.heap H locs → lv_has ls_ 1 [(0, .ref (ad x0))] → W p l e ({ frames := 0, cells := 0, slots := 0, locals := 0 } : Room) s m #[Value.ref (ad x0)] below meth c H locs 0 0 Q (F0 m 0 ls_ []) := by
    intro  H locs ls_ hE hp hP hD hS hl
    unfold f_Y2_hasQuorum at hE
    unfold p_Y2_hasQuorum at hp
    refine lv_aload_n hx hb dX2_hasQuorum_0 rfl (lv_at hl 0 rfl) ?_
    refine va_get (D := G) (ci := 1) (v := .int (giC S x0 2)) (C := RX2) (T := TX2) (N := 8) hx hb hts iX2 hown hK hP x0 (at_1 k_x0) rfl 2 (by decide) (hw (.fieldLink RX2 41 "MotionFloor$House" "present" "I") (List.mem_of_getElem? (i := 0) rfl)) (fun _ h9 => h9) rfl dX2_hasQuorum_1 ?_
    refine lv_aload_n hx hb dX2_hasQuorum_4 rfl (lv_at hl 0 rfl) ?_
    refine va_get (D := G) (ci := 1) (v := .int (giC S x0 4)) (C := RX2) (T := TX2) (N := 8) hx hb hts iX2 hown hK hP x0 (at_1 k_x0) rfl 4 (by decide) (hw (.fieldLink RX2 23 "MotionFloor$House" "quorum" "I") (List.mem_of_getElem? (i := 1) rfl)) (fun _ h9 => h9) rfl dX2_hasQuorum_5 ?_
    refine lv_icmp_lt (tgt := 15) hx hb dX2_hasQuorum_8 (by decide) (fun c1 => ?_) (fun c1 => ?_)
    · rw [if_pos c1] at hE hp
      refine lv_iconst (v := 0) hx hb dX2_hasQuorum_15 (by decide) ?_
      exact B_Y2_hasQuorum_16 0 _ _ _ hE hp hP hD hS (lv_sub hl [0] rfl)
    · rw [if_neg c1] at hE hp
      refine lv_iconst (v := 1) hx hb dX2_hasQuorum_11 (by decide) ?_
      refine lv_goto (tgt := 16) hx hb dX2_hasQuorum_12 (by decide) ?_
      exact B_Y2_hasQuorum_16 1 _ _ _ hE hp hP hD hS (lv_sub hl [0] rfl)
  exact B_M  _ _ _ hX hp hP hD hS hl
set_option maxRecDepth 100000 in
theorem zc214 : wZ (.selects RX2 yX2_has yX2_has) := ⟨wT2 (List.mem_of_getElem? (i := 60) (by decide +kernel)), Or.inl rfl⟩
set_option maxRecDepth 100000 in
theorem zc215 : wZ (.instanceMethod yX2_has) := ⟨wT2 (List.mem_of_getElem? (i := 59) (by decide +kernel)), Or.inl rfl⟩
set_option maxRecDepth 100000 in
theorem zc216 : wZ (.methodLink RX2 53 yX2_has) := ⟨wT2 (List.mem_of_getElem? (i := 202) (by decide +kernel)), Or.inl rfl⟩
set_option maxRecDepth 100000 in
theorem zc217 : wZ (.code yX2_arrive cX2_arrive 2 (some .int)) := ⟨wT2 (List.mem_of_getElem? (i := 201) rfl), Or.inl rfl⟩
def b_Y2_arrive_34 (S : Cst) (x0 : Nat) (x1 : Int32) : Int32 × Cst := ((giC S x0 2), S)
def q_Y2_arrive_34 (S : Cst) (x0 : Nat) (x1 : Int32) : Prop := True
def f_Y2_arrive (S : Cst) (x0 : Nat) (x1 : Int32) : Int32 × Cst := if (f_Y2_has S x0 x1) = 0 then (b_Y2_arrive_34 S x0 x1) else if (giC S ((grC S x0 1).getD 0) x1.toNatClampNeg) = 0 then (b_Y2_arrive_34 (siC (siC S ((grC S x0 1).getD 0) x1.toNatClampNeg (vp_nar .boolean (1 : Int32))) x0 2 ((giC (siC S ((grC S x0 1).getD 0) x1.toNatClampNeg (vp_nar .boolean (1 : Int32))) x0 2) + 1)) x0 x1) else (b_Y2_arrive_34 S x0 x1)
def p_Y2_arrive (S : Cst) (x0 : Nat) (x1 : Int32) : Prop := (p_Y2_has S x0 x1) ∧ (if (f_Y2_has S x0 x1) = 0 then (q_Y2_arrive_34 S x0 x1) else (iR S (grC S x0 1) 21) ∧ (vp_in x1 (lnC S ((grC S x0 1).getD 0))) ∧ (if (giC S ((grC S x0 1).getD 0) x1.toNatClampNeg) = 0 then (iR S (grC S x0 1) 21) ∧ (vp_in x1 (lnC S ((grC S x0 1).getD 0))) ∧ (q_Y2_arrive_34 (siC (siC S ((grC S x0 1).getD 0) x1.toNatClampNeg (vp_nar .boolean (1 : Int32))) x0 2 ((giC (siC S ((grC S x0 1).getD 0) x1.toNatClampNeg (vp_nar .boolean (1 : Int32))) x0 2) + 1)) x0 x1) else (q_Y2_arrive_34 S x0 x1)))
def e_Y2_arrive : List Cond := [.methodLink RX2 53 yX2_has, .instanceMethod yX2_has, .selects RX2 yX2_has yX2_has, .initialized RX2, .fieldLink RX2 41 "MotionFloor$House" "present" "I", .fieldLink RX2 9 "MotionFloor$House" "there" "[Z"]
def v_Y2_arrive : List Cond := .code yX2_arrive cX2_arrive 2 (some .int) :: (e_Y2_arrive ++ (wsX20 ++ (v_Y2_has ++ [])))
theorem te_Y2_arrive : GoodIn lw_tbl e_Y2_arrive := wGc zc216 (wGc zc215 (wGc zc214 (wGc zc77 (wGc zc69 (wGc zc70 (wG0))))))
theorem t_Y2_arrive : GoodIn lw_tbl v_Y2_arrive := wGc zc217 (wGa te_Y2_arrive (wGa zcX2 (wGa t_Y2_has (wG0))))
set_option maxHeartbeats 4000000 in
set_option maxRecDepth 100000 in
theorem c_Y2_arrive (l : Launch) (G : va_G) (K : Nat → ClassId) (ad : Nat → Nat) (S0 : Cst) (x0 : Nat) (a1 : Int32) (sz : Nat) : Met l yX2_arrive v_Y2_arrive ({ frames := 1, cells := 0, slots := 0, locals := 21 }) (va_Pc [.ref (ad x0), .int a1] (cSt G K ad sz S0 (iK S0 x0 1 ∧ p_Y2_arrive S0 x0 a1))) (va_Qi (fun (r : Int32) (u : Cst) => (r, u) = f_Y2_arrive S0 x0 a1 ∧ eK S0 u) (cBt G K ad (va_A (wsC K ad S0) sz)) (va_A (wsC K ad S0) sz)) 0 0 (va_A (wsC K ad S0) sz) := by
  refine Met.ofW (cc := cX2_arrive) (maxL := 2) (ret := (some .int)) (by decide) rfl ?_
  intro p e s m args below meth c s₁ B hml hv
  obtain ⟨rfl, ⟨hsz, hP, hK, hD0, hTE⟩, hp⟩ := hv
  obtain ⟨k_x0, hp⟩ := hp
  have hx := B.exec
  have hb := B.bytes
  have hr := B.returns
  have hts := atoms_spec (ws := v_Y2_arrive) B.pre
  have t_ := t_Y2_arrive
  have mw : ∀ w ∈ e_Y2_arrive, w ∈ v_Y2_arrive := fun w h => List.mem_cons_of_mem _ (List.mem_append_left _ h)
  have hw := fun w (h : w ∈ e_Y2_arrive) => hts w (mw w h)
  have iX2 : ∀ w ∈ wsX20, w ∈ v_Y2_arrive := fun w h => List.mem_cons_of_mem _ (List.mem_append_right _ (List.mem_append_left _ h))
  have j_Y2_has : ∀ w ∈ v_Y2_has, w ∈ v_Y2_arrive := fun w h => List.mem_cons_of_mem _ (List.mem_append_right _ (List.mem_append_right _ (List.mem_append_left _ h)))
  have hown : s.vm.findClass RX2 = some m.cls := findClass_of_methodNamed B.named
  have hlocks := B.notSynchronized
  subst hsz
  have hD := hD0.self (sz := s.heap.size)
  generalize hAe : va_A (wsC K ad S0) s.heap.size = A at hD ⊢
  have hA : ∀ q : Nat, s.heap.size ≤ q → A q := fun q h => by rw [← hAe]; exact Or.inr h
  have hS : va_S A s.heap s.heap [] := va_S.rf
  have hl : lv_has (lg_sl ([.ref (ad x0), .int a1]) ++ List.replicate (2 - (lg_sl ([.ref (ad x0), .int a1])).length) Slot.unset).toArray 2 [(0, .ref (ad x0)), (1, .int a1)] := by
    exact lv_entry ([.ref (ad x0), .int a1]) (n := 2) (Nat.le_of_ble_eq_true rfl)
  rw [lg_entry_eq]
  generalize (lg_sl ([.ref (ad x0), .int a1]) ++ List.replicate (2 - (lg_sl ([.ref (ad x0), .int a1])).length) Slot.unset).toArray = ls_ at hl ⊢
  refine wGen (fun Q hQ => ?_)
  obtain ⟨X, hX⟩ : ∃ X, f_Y2_arrive S0 x0 a1 = X := ⟨_, rfl⟩
  have B_Y2_arrive_34 : ∀ (S : Cst) (x1 : Int32) (H : Heap) (locs : List Loc) (ls_ : Array Slot), b_Y2_arrive_34 S x0 x1 = X → q_Y2_arrive_34 S x0 x1 → eK S0 S → va_P G vwCl (wsC K ad S) H → va_D A (wsC K ad S) → va_S A s.heap H locs → lv_has ls_ 2 [(0, .ref (ad x0)), (1, .int x1)] → W p l e ({ frames := 1, cells := 0, slots := 0, locals := 21 } : Room) s m #[Value.ref (ad x0), Value.int a1] below meth c H locs 0 0 Q (F0 m 34 ls_ []) := by
    intro S x1 H locs ls_ hE hp hZ hP hD hS hl
    unfold b_Y2_arrive_34 at hE
    unfold q_Y2_arrive_34 at hp
    refine lv_aload_n hx hb dX2_arrive_34 rfl (lv_at hl 0 rfl) ?_
    refine va_get (D := G) (ci := 1) (v := .int (giC S x0 2)) (C := RX2) (T := TX2) (N := 8) hx hb hts iX2 hown hK hP x0 (at_1 (k_x0.e hZ)) rfl 2 (by decide) (hw (.fieldLink RX2 41 "MotionFloor$House" "present" "I") (List.mem_of_getElem? (i := 4) rfl)) (fun _ h9 => h9) rfl dX2_arrive_35 ?_
    subst hQ
    exact W.iret (v := (giC S x0 2)) hx hb hr (fun t ht hW => ⟨⟨(giC S x0 2), S, rfl, ⟨hE.trans hX.symm, hZ⟩, by rw [ht]; exact hP, hD⟩, hS.F ht⟩) hS.2.2 dX2_arrive_38
  have B_M : ∀ (S : Cst) (x1 : Int32) (H : Heap) (locs : List Loc) (ls_ : Array Slot), f_Y2_arrive S x0 x1 = X → p_Y2_arrive S x0 x1 → eK S0 S → va_P G vwCl (wsC K ad S) H → va_D A (wsC K ad S) → va_S A s.heap H locs → lv_has ls_ 2 [(0, .ref (ad x0)), (1, .int x1)] → W p l e ({ frames := 1, cells := 0, slots := 0, locals := 21 } : Room) s m #[Value.ref (ad x0), Value.int a1] below meth c H locs 0 0 Q (F0 m 0 ls_ []) := by
    intro S x1 H locs ls_ hE hp hZ hP hD hS hl
    unfold f_Y2_arrive at hE
    unfold p_Y2_arrive at hp
    refine lv_aload_n hx hb dX2_arrive_0 rfl (lv_at hl 0 rfl) ?_
    refine lv_iload_n hx hb dX2_arrive_1 rfl (lv_at hl 1 rfl) ?_
    obtain ⟨hy1, hp⟩ := hp
    refine cGoi (va_runV (As := [.int x1]) (rest := []) ⟨hx, hb, hml, hown, hts⟩ (c_Y2_has l G K ad S x0 x1 _) (cwV 1 hts (wGV t_ (mw (.methodLink RX2 53 yX2_has) (List.mem_of_getElem? (i := 0) rfl)) (mw (.instanceMethod yX2_has) (List.mem_of_getElem? (i := 1) rfl)) (mw (.selects RX2 yX2_has yX2_has) (List.mem_of_getElem? (i := 2) rfl)) (mw (.initialized RX2) (List.mem_of_getElem? (i := 3) rfl)) j_Y2_has) rfl rfl rfl (by decide +kernel) ⟨Nat.le_of_ble_eq_true rfl, Nat.le_of_ble_eq_true rfl⟩) (cPV hK hTE hP hD 1 rfl (at_1 (k_x0.e hZ)) ⟨(k_x0.e hZ), hy1⟩) rfl rfl hl.1 rfl (lv_room (Nat.le_of_ble_eq_true rfl)) dX2_arrive_2 ⟨Nat.le_of_ble_eq_true rfl, Nat.le_of_ble_eq_true rfl⟩) hP hD hS hA (fun r3 u2 H locs hv hP hD hS => ?_)
    have h1 := congrArg Prod.fst hv
    have h2 := (congrArg Prod.snd hv).symm
    dsimp only at h1 h2
    subst h1
    subst h2
    refine lv_if_eq (tgt := 34) hx hb dX2_arrive_5 (by decide) (fun c4 => ?_) (fun c4 => ?_)
    · rw [if_pos c4] at hE hp
      exact B_Y2_arrive_34 S x1 _ _ _ hE hp hZ hP hD hS (lv_sub hl [0, 1] rfl)
    · rw [if_neg c4] at hE hp
      refine lv_aload_n hx hb dX2_arrive_8 rfl (lv_at hl 0 rfl) ?_
      refine va_get (D := G) (ci := 1) (v := va_re ad (grC S x0 1)) (C := RX2) (T := TX2) (N := 8) hx hb hts iX2 hown hK hP x0 (at_1 (k_x0.e hZ)) rfl 1 (by decide) (hw (.fieldLink RX2 9 "MotionFloor$House" "there" "[Z") (List.mem_of_getElem? (i := 5) rfl)) (fun _ h9 => h9) rfl dX2_arrive_9 ?_
      refine lv_iload_n hx hb dX2_arrive_12 rfl (lv_at hl 1 rfl) ?_
      obtain ⟨hy5, hp⟩ := hp
      refine cTop2 (r := (grC S x0 1)) hy5.1 ?_
      obtain ⟨hy6, hp⟩ := hp
      refine va_zald hx hb hK hP ((grC S x0 1).getD 0) 1 (at_21 hy5.2) rfl hy6 dX2_arrive_13 ?_
      refine lv_if_ne (tgt := 34) hx hb dX2_arrive_14 (by decide) (fun c7 => ?_) (fun c7 => ?_)
      · rw [if_neg c7] at hE hp
        exact B_Y2_arrive_34 S x1 _ _ _ hE hp hZ hP hD hS (lv_sub hl [0, 1] rfl)
      · rw [if_pos c7] at hE hp
        refine lv_aload_n hx hb dX2_arrive_17 rfl (lv_at hl 0 rfl) ?_
        refine va_get (D := G) (ci := 1) (v := va_re ad (grC S x0 1)) (C := RX2) (T := TX2) (N := 8) hx hb hts iX2 hown hK hP x0 (at_1 (k_x0.e hZ)) rfl 1 (by decide) (hw (.fieldLink RX2 9 "MotionFloor$House" "there" "[Z") (List.mem_of_getElem? (i := 5) rfl)) (fun _ h9 => h9) rfl dX2_arrive_18 ?_
        refine lv_iload_n hx hb dX2_arrive_21 rfl (lv_at hl 1 rfl) ?_
        refine lv_iconst (v := 1) hx hb dX2_arrive_22 (by decide) ?_
        obtain ⟨hy8, hp⟩ := hp
        refine cTop3 (r := (grC S x0 1)) hy8.1 ?_
        obtain ⟨hy9, hp⟩ := hp
        refine va_zast hx hb hK hP hD hS ((grC S x0 1).getD 0) 1 (at_21 hy8.2) rfl hy9 dX2_arrive_23 (fun H locs hP hD hS => ?_)
        rw [sa_21 hy8.2] at hP hD
        have hZ := hZ.tr (eK.si S ((grC S x0 1).getD 0) x1.toNatClampNeg (vp_nar .boolean (1 : Int32)))
        refine lv_aload_n hx hb dX2_arrive_24 rfl (lv_at hl 0 rfl) ?_
        refine lv_dup hx hb dX2_arrive_25 rfl ?_
        refine va_get (D := G) (ci := 1) (v := .int (giC (siC S ((grC S x0 1).getD 0) x1.toNatClampNeg (vp_nar .boolean (1 : Int32))) x0 2)) (C := RX2) (T := TX2) (N := 8) hx hb hts iX2 hown hK hP x0 (at_1 (k_x0.e hZ)) rfl 2 (by decide) (hw (.fieldLink RX2 41 "MotionFloor$House" "present" "I") (List.mem_of_getElem? (i := 4) rfl)) (fun _ h9 => h9) rfl dX2_arrive_26 ?_
        refine lv_iconst (v := 1) hx hb dX2_arrive_29 (by decide) ?_
        refine lv_iadd hx hb dX2_arrive_30 ?_
        refine va_put (D := G) (ci := 1) (v := .int ((giC (siC S ((grC S x0 1).getD 0) x1.toNatClampNeg (vp_nar .boolean (1 : Int32))) x0 2) + 1)) (ty := .int) (C := RX2) (T := TX2) (N := 8) hx hb hts iX2 tyX2 tyX2_ok nmX2 hown hK hP hD hS x0 (at_1 (k_x0.e hZ)) rfl 2 (by decide) (hw (.fieldLink RX2 41 "MotionFloor$House" "present" "I") (List.mem_of_getElem? (i := 4) rfl)) (fun _ h9 => h9) rfl (by decide +kernel) rfl rfl (Nat.le_of_ble_eq_true rfl) dX2_arrive_31 (fun H locs hP hD hS => ?_)
        rw [st_1_2 (k_x0.e hZ)] at hP hD
        have hZ := hZ.tr (eK.si (siC S ((grC S x0 1).getD 0) x1.toNatClampNeg (vp_nar .boolean (1 : Int32))) x0 2 ((giC (siC S ((grC S x0 1).getD 0) x1.toNatClampNeg (vp_nar .boolean (1 : Int32))) x0 2) + 1))
        exact B_Y2_arrive_34 (siC (siC S ((grC S x0 1).getD 0) x1.toNatClampNeg (vp_nar .boolean (1 : Int32))) x0 2 ((giC (siC S ((grC S x0 1).getD 0) x1.toNatClampNeg (vp_nar .boolean (1 : Int32))) x0 2) + 1)) x1 _ _ _ hE hp hZ hP hD hS (lv_sub hl [0, 1] rfl)
  exact B_M S0 a1 _ _ _ hX hp (eK.rf S0) hP hD hS hl
