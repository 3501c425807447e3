theorem dX0_begin_0 : decode cX0_begin 0 = .ok (.aload_n 0, 1) := by decide +kernel
theorem dX0_begin_1 : decode cX0_begin 1 = .ok (.invokevirtual 59, 3) := by decide +kernel
theorem gdX0_clear_0 : ckS (List.drop 0 cX0_clear.data.toList) 0 [(0, .aload_n 0, 1), (1, .aload_n 0, 1), (2, .getfield 21, 3), (5, .invokevirtual 115, 3)] = true := by decide +kernel
theorem dX0_clear_0 : decode cX0_clear 0 = .ok (.aload_n 0, 1) := ckS_g gdX0_clear_0 0 rfl
theorem dX0_clear_1 : decode cX0_clear 1 = .ok (.aload_n 0, 1) := ckS_g gdX0_clear_0 1 rfl
theorem dX0_clear_2 : decode cX0_clear 2 = .ok (.getfield 21, 3) := ckS_g gdX0_clear_0 2 rfl
theorem dX0_clear_5 : decode cX0_clear 5 = .ok (.invokevirtual 115, 3) := ckS_g gdX0_clear_0 3 rfl
theorem dX0_dropTop_0 : decode cX0_dropTop 0 = .ok (.aload_n 1, 1) := by decide +kernel
theorem dX0_dropTop_1 : decode cX0_dropTop 1 = .ok (.invokevirtual 126, 3) := by decide +kernel
theorem gdX0_release_0 : ckS (List.drop 0 cX0_release.data.toList) 0 [(0, .aload_n 1, 1), (1, .getfield 96, 3), (4, .istore_n 2, 1), (5, .iload_n 2, 1), (6, .ifCond .le 14, 3), (9, .aload_n 0, 1), (10, .aload_n 1, 1), (11, .invokevirtual 123, 3), (20, .return_, 1)] = true := by decide +kernel
theorem dX0_release_0 : decode cX0_release 0 = .ok (.aload_n 1, 1) := ckS_g gdX0_release_0 0 rfl
theorem dX0_release_1 : decode cX0_release 1 = .ok (.getfield 96, 3) := ckS_g gdX0_release_0 1 rfl
theorem dX0_release_4 : decode cX0_release 4 = .ok (.istore_n 2, 1) := ckS_g gdX0_release_0 2 rfl
theorem dX0_release_5 : decode cX0_release 5 = .ok (.iload_n 2, 1) := ckS_g gdX0_release_0 3 rfl
theorem dX0_release_6 : decode cX0_release 6 = .ok (.ifCond .le 14, 3) := ckS_g gdX0_release_0 4 rfl
theorem dX0_release_9 : decode cX0_release 9 = .ok (.aload_n 0, 1) := ckS_g gdX0_release_0 5 rfl
theorem dX0_release_10 : decode cX0_release 10 = .ok (.aload_n 1, 1) := ckS_g gdX0_release_0 6 rfl
theorem dX0_release_11 : decode cX0_release 11 = .ok (.invokevirtual 123, 3) := ckS_g gdX0_release_0 7 rfl
theorem dX0_release_20 : decode cX0_release 20 = .ok (.return_, 1) := ckS_g gdX0_release_0 8 rfl
theorem gdX5_pull_0 : ckS (List.drop 0 cX5_pull.data.toList) 0 [(0, .aload_n 0, 1), (1, .getfield 17, 3), (4, .iconst 1, 1), (5, .if_icmp .lt 15, 3), (8, .aload_n 0, 1), (9, .getfield 17, 3), (12, .aload_n 0, 1), (13, .getfield 11, 3), (16, .arraylength, 1), (17, .if_icmp .le 5, 3), (20, .aconst_null, 1), (21, .areturn, 1), (22, .aload_n 0, 1), (23, .dup, 1), (24, .getfield 17, 3), (27, .iconst 1, 1), (28, .isub, 1), (29, .putfield 17, 3), (32, .aload_n 0, 1), (33, .getfield 11, 3), (36, .aload_n 0, 1), (37, .getfield 17, 3), (40, .aaload, 1), (41, .astore_n 1, 1), (42, .aload_n 0, 1), (43, .getfield 11, 3), (46, .aload_n 0, 1), (47, .getfield 17, 3), (50, .aconst_null, 1), (51, .aastore, 1), (52, .aload_n 1, 1), (53, .areturn, 1)] = true := by decide +kernel
theorem dX5_pull_0 : decode cX5_pull 0 = .ok (.aload_n 0, 1) := ckS_g gdX5_pull_0 0 rfl
theorem dX5_pull_1 : decode cX5_pull 1 = .ok (.getfield 17, 3) := ckS_g gdX5_pull_0 1 rfl
theorem dX5_pull_4 : decode cX5_pull 4 = .ok (.iconst 1, 1) := ckS_g gdX5_pull_0 2 rfl
theorem dX5_pull_5 : decode cX5_pull 5 = .ok (.if_icmp .lt 15, 3) := ckS_g gdX5_pull_0 3 rfl
theorem dX5_pull_8 : decode cX5_pull 8 = .ok (.aload_n 0, 1) := ckS_g gdX5_pull_0 4 rfl
theorem dX5_pull_9 : decode cX5_pull 9 = .ok (.getfield 17, 3) := ckS_g gdX5_pull_0 5 rfl
theorem dX5_pull_12 : decode cX5_pull 12 = .ok (.aload_n 0, 1) := ckS_g gdX5_pull_0 6 rfl
theorem dX5_pull_13 : decode cX5_pull 13 = .ok (.getfield 11, 3) := ckS_g gdX5_pull_0 7 rfl
theorem dX5_pull_16 : decode cX5_pull 16 = .ok (.arraylength, 1) := ckS_g gdX5_pull_0 8 rfl
theorem dX5_pull_17 : decode cX5_pull 17 = .ok (.if_icmp .le 5, 3) := ckS_g gdX5_pull_0 9 rfl
theorem dX5_pull_20 : decode cX5_pull 20 = .ok (.aconst_null, 1) := ckS_g gdX5_pull_0 10 rfl
theorem dX5_pull_21 : decode cX5_pull 21 = .ok (.areturn, 1) := ckS_g gdX5_pull_0 11 rfl
theorem dX5_pull_22 : decode cX5_pull 22 = .ok (.aload_n 0, 1) := ckS_g gdX5_pull_0 12 rfl
theorem dX5_pull_23 : decode cX5_pull 23 = .ok (.dup, 1) := ckS_g gdX5_pull_0 13 rfl
theorem dX5_pull_24 : decode cX5_pull 24 = .ok (.getfield 17, 3) := ckS_g gdX5_pull_0 14 rfl
theorem dX5_pull_27 : decode cX5_pull 27 = .ok (.iconst 1, 1) := ckS_g gdX5_pull_0 15 rfl
theorem dX5_pull_28 : decode cX5_pull 28 = .ok (.isub, 1) := ckS_g gdX5_pull_0 16 rfl
theorem dX5_pull_29 : decode cX5_pull 29 = .ok (.putfield 17, 3) := ckS_g gdX5_pull_0 17 rfl
theorem dX5_pull_32 : decode cX5_pull 32 = .ok (.aload_n 0, 1) := ckS_g gdX5_pull_0 18 rfl
theorem dX5_pull_33 : decode cX5_pull 33 = .ok (.getfield 11, 3) := ckS_g gdX5_pull_0 19 rfl
theorem dX5_pull_36 : decode cX5_pull 36 = .ok (.aload_n 0, 1) := ckS_g gdX5_pull_0 20 rfl
theorem dX5_pull_37 : decode cX5_pull 37 = .ok (.getfield 17, 3) := ckS_g gdX5_pull_0 21 rfl
theorem dX5_pull_40 : decode cX5_pull 40 = .ok (.aaload, 1) := ckS_g gdX5_pull_0 22 rfl
theorem dX5_pull_41 : decode cX5_pull 41 = .ok (.astore_n 1, 1) := ckS_g gdX5_pull_0 23 rfl
theorem dX5_pull_42 : decode cX5_pull 42 = .ok (.aload_n 0, 1) := ckS_g gdX5_pull_0 24 rfl
theorem dX5_pull_43 : decode cX5_pull 43 = .ok (.getfield 11, 3) := ckS_g gdX5_pull_0 25 rfl
theorem dX5_pull_46 : decode cX5_pull 46 = .ok (.aload_n 0, 1) := ckS_g gdX5_pull_0 26 rfl
theorem dX5_pull_47 : decode cX5_pull 47 = .ok (.getfield 17, 3) := ckS_g gdX5_pull_0 27 rfl
theorem dX5_pull_50 : decode cX5_pull 50 = .ok (.aconst_null, 1) := ckS_g gdX5_pull_0 28 rfl
theorem dX5_pull_51 : decode cX5_pull 51 = .ok (.aastore, 1) := ckS_g gdX5_pull_0 29 rfl
theorem dX5_pull_52 : decode cX5_pull 52 = .ok (.aload_n 1, 1) := ckS_g gdX5_pull_0 30 rfl
theorem dX5_pull_53 : decode cX5_pull 53 = .ok (.areturn, 1) := ckS_g gdX5_pull_0 31 rfl
set_option maxRecDepth 100000 in
theorem zc0 : wZ (.laysFinal "MotionFloor$Pile" "MotionFloor$Pile" "motions" "[LMotionFloor$Motion;") := ⟨wT1 (List.mem_of_getElem? (i := 94) (by decide +kernel)), Or.inl rfl⟩
set_option maxRecDepth 100000 in
theorem zc1 : wZ (.lays "MotionFloor$Pile" "MotionFloor$Pile" "size" "I") := ⟨wT1 (List.mem_of_getElem? (i := 96) (by decide +kernel)), Or.inl rfl⟩
theorem zcX5 : GoodIn lw_tbl wsX50 := by
  show GoodIn lw_tbl [.laysFinal "MotionFloor$Pile" "MotionFloor$Pile" "motions" "[LMotionFloor$Motion;", .lays "MotionFloor$Pile" "MotionFloor$Pile" "size" "I"]
  exact wGc zc0 (wGc zc1 (wG0))
set_option maxRecDepth 100000 in
theorem zc2 : wZ (.fieldLink RX5 11 "MotionFloor$Pile" "motions" "[LMotionFloor$Motion;") := ⟨wT1 (List.mem_of_getElem? (i := 86) (by decide +kernel)), Or.inl rfl⟩
set_option maxRecDepth 100000 in
theorem zc3 : wZ (.fieldLink RX5 17 "MotionFloor$Pile" "size" "I") := ⟨wT1 (List.mem_of_getElem? (i := 87) (by decide +kernel)), Or.inl rfl⟩
set_option maxRecDepth 100000 in
theorem zc4 : wZ (.code yX5_pull cX5_pull 2 (some (.object "MotionFloor$Motion"))) := ⟨wT2 (List.mem_of_getElem? (i := 36) rfl), Or.inl rfl⟩
def b_Y5_pull_20 (S : Cst) (x0 : Nat)  : (Option Nat) × Cst := (none, S)
def q_Y5_pull_20 (S : Cst) (x0 : Nat)  : Prop := True
def f_Y5_pull (S : Cst) (x0 : Nat) : (Option Nat) × Cst := if (giC S x0 1) < 1 then (b_Y5_pull_20 S x0) else if (giC S x0 1) ≤ (Int32.ofNat (lnC S ((grC S x0 0).getD 0))) then ((grC (siC S x0 1 ((giC S x0 1) - 1)) ((grC (siC S x0 1 ((giC S x0 1) - 1)) x0 0).getD 0) (giC (siC S x0 1 ((giC S x0 1) - 1)) x0 1).toNatClampNeg), (srC (siC S x0 1 ((giC S x0 1) - 1)) ((grC (siC S x0 1 ((giC S x0 1) - 1)) x0 0).getD 0) (giC (siC S x0 1 ((giC S x0 1) - 1)) x0 1).toNatClampNeg none)) else (b_Y5_pull_20 S x0)
def p_Y5_pull (S : Cst) (x0 : Nat) : Prop := (if (giC S x0 1) < 1 then (q_Y5_pull_20 S x0) else (iR S (grC S x0 0) 23) ∧ (if (giC S x0 1) ≤ (Int32.ofNat (lnC S ((grC S x0 0).getD 0))) then (iR (siC S x0 1 ((giC S x0 1) - 1)) (grC (siC S x0 1 ((giC S x0 1) - 1)) x0 0) 23) ∧ (vp_in (giC (siC S x0 1 ((giC S x0 1) - 1)) x0 1) (lnC (siC S x0 1 ((giC S x0 1) - 1)) ((grC (siC S x0 1 ((giC S x0 1) - 1)) x0 0).getD 0))) ∧ (iR (siC S x0 1 ((giC S x0 1) - 1)) (grC (siC S x0 1 ((giC S x0 1) - 1)) x0 0) 23) ∧ (vp_in (giC (siC S x0 1 ((giC S x0 1) - 1)) x0 1) (lnC (siC S x0 1 ((giC S x0 1) - 1)) ((grC (siC S x0 1 ((giC S x0 1) - 1)) x0 0).getD 0))) ∧ True else (q_Y5_pull_20 S x0)))
def e_Y5_pull : List Cond := [.fieldLink RX5 17 "MotionFloor$Pile" "size" "I", .fieldLink RX5 11 "MotionFloor$Pile" "motions" "[LMotionFloor$Motion;"]
def v_Y5_pull : List Cond := .code yX5_pull cX5_pull 2 (some (.object "MotionFloor$Motion")) :: (e_Y5_pull ++ (wsX50 ++ []))
theorem te_Y5_pull : GoodIn lw_tbl e_Y5_pull := wGc zc3 (wGc zc2 (wG0))
theorem t_Y5_pull : GoodIn lw_tbl v_Y5_pull := wGc zc4 (wGa te_Y5_pull (wGa zcX5 (wG0)))
set_option maxHeartbeats 4000000 in
set_option maxRecDepth 100000 in
theorem c_Y5_pull (l : Launch) (G : va_G) (K : Nat → ClassId) (ad : Nat → Nat) (S0 : Cst) (x0 : Nat)  (sz : Nat) : Met l yX5_pull v_Y5_pull ({ frames := 0, cells := 0, slots := 0, locals := 0 }) (va_Pc [.ref (ad x0)] (cSt G K ad sz S0 (iK S0 x0 4 ∧ p_Y5_pull S0 x0))) (va_Qq (fun (r : Option Nat) (u : Cst) => ∃ r', r = r'.map ad ∧ ((r', u) = f_Y5_pull S0 x0 ∧ eK S0 u)) (cBt G K ad (va_A (wsC K ad S0) sz)) (va_A (wsC K ad S0) sz)) 0 0 (va_A (wsC K ad S0) sz) := by
  refine Met.ofW (cc := cX5_pull) (maxL := 2) (ret := (some (.object "MotionFloor$Motion"))) (by decide) rfl ?_
  intro p e s m args below meth c s₁ B hml hv
  obtain ⟨rfl, ⟨hsz, hP, hK, hD0, hTE⟩, hp⟩ := hv
  obtain ⟨k_x0, hp⟩ := hp
  have hx := B.exec
  have hb := B.bytes
  have hr := B.returns
  have hts := atoms_spec (ws := v_Y5_pull) B.pre
  have t_ := t_Y5_pull
  have mw : ∀ w ∈ e_Y5_pull, w ∈ v_Y5_pull := fun w h => List.mem_cons_of_mem _ (List.mem_append_left _ h)
  have hw := fun w (h : w ∈ e_Y5_pull) => hts w (mw w h)
  have iX5 : ∀ w ∈ wsX50, w ∈ v_Y5_pull := fun w h => List.mem_cons_of_mem _ (List.mem_append_right _ (List.mem_append_left _ h))
  have hown : s.vm.findClass RX5 = some m.cls := findClass_of_methodNamed B.named
  have hlocks := B.notSynchronized
  subst hsz
  have hD := hD0.self (sz := s.heap.size)
  generalize hAe : va_A (wsC K ad S0) s.heap.size = A at hD ⊢
  have hA : ∀ q : Nat, s.heap.size ≤ q → A q := fun q h => by rw [← hAe]; exact Or.inr h
  have hS : va_S A s.heap s.heap [] := va_S.rf
  have hl : lv_has (lg_sl ([.ref (ad x0)]) ++ List.replicate (2 - (lg_sl ([.ref (ad x0)])).length) Slot.unset).toArray 2 [(0, .ref (ad x0))] := by
    exact lv_entry ([.ref (ad x0)]) (n := 2) (Nat.le_of_ble_eq_true rfl)
  rw [lg_entry_eq]
  generalize (lg_sl ([.ref (ad x0)]) ++ List.replicate (2 - (lg_sl ([.ref (ad x0)])).length) Slot.unset).toArray = ls_ at hl ⊢
  refine wGen (fun Q hQ => ?_)
  obtain ⟨X, hX⟩ : ∃ X, f_Y5_pull S0 x0 = X := ⟨_, rfl⟩
  have B_Y5_pull_20 : ∀ (S : Cst)  (H : Heap) (locs : List Loc) (ls_ : Array Slot), b_Y5_pull_20 S x0 = X → q_Y5_pull_20 S x0 → eK S0 S → va_P G vwCl (wsC K ad S) H → va_D A (wsC K ad S) → va_S A s.heap H locs → lv_has ls_ 2 [(0, .ref (ad x0))] → W p l e ({ frames := 0, cells := 0, slots := 0, locals := 0 } : Room) s m #[Value.ref (ad x0)] below meth c H locs 0 0 Q (F0 m 20 ls_ []) := by
    intro S H locs ls_ hE hp hZ hP hD hS hl
    unfold b_Y5_pull_20 at hE
    unfold q_Y5_pull_20 at hp
    refine lv_null hx hb dX5_pull_20 ?_
    rw [← re_none (ad := ad) (r := none) rfl]
    subst hQ
    exact W.aret (v := va_re ad none) hx hb hr (Or.inl ⟨_, rfl⟩) (va_re_or ad _) (fun t ht hW => ⟨⟨none.map ad, S, rfl, ⟨none, rfl, ⟨hE.trans hX.symm, hZ⟩⟩, by rw [ht]; exact hP, hD⟩, hS.F ht⟩) hS.2.2 dX5_pull_21
  have B_M : ∀ (S : Cst) (H : Heap) (locs : List Loc) (ls_ : Array Slot), f_Y5_pull S x0 = X → p_Y5_pull S x0 → eK S0 S → va_P G vwCl (wsC K ad S) H → va_D A (wsC K ad S) → va_S A s.heap H locs → lv_has ls_ 2 [(0, .ref (ad x0))] → W p l e ({ frames := 0, cells := 0, slots := 0, locals := 0 } : Room) s m #[Value.ref (ad x0)] below meth c H locs 0 0 Q (F0 m 0 ls_ []) := by
    intro S H locs ls_ hE hp hZ hP hD hS hl
    unfold f_Y5_pull at hE
    unfold p_Y5_pull at hp
    refine lv_aload_n hx hb dX5_pull_0 rfl (lv_at hl 0 rfl) ?_
    refine va_get (D := G) (ci := 4) (v := .int (giC S x0 1)) (C := RX5) (T := TX5) (N := 2) hx hb hts iX5 hown hK hP x0 (at_4 (k_x0.e hZ)) rfl 1 (by decide) (hw (.fieldLink RX5 17 "MotionFloor$Pile" "size" "I") (List.mem_of_getElem? (i := 0) rfl)) (fun _ h9 => h9) rfl dX5_pull_1 ?_
    refine lv_iconst (v := 1) hx hb dX5_pull_4 (by decide) ?_
    refine lv_icmp_lt (tgt := 20) hx hb dX5_pull_5 (by decide) (fun c1 => ?_) (fun c1 => ?_)
    · rw [if_pos c1] at hE hp
      exact B_Y5_pull_20 S _ _ _ hE hp hZ hP hD hS (lv_sub hl [0] rfl)
    · rw [if_neg c1] at hE hp
      refine lv_aload_n hx hb dX5_pull_8 rfl (lv_at hl 0 rfl) ?_
      refine va_get (D := G) (ci := 4) (v := .int (giC S x0 1)) (C := RX5) (T := TX5) (N := 2) hx hb hts iX5 hown hK hP x0 (at_4 (k_x0.e hZ)) rfl 1 (by decide) (hw (.fieldLink RX5 17 "MotionFloor$Pile" "size" "I") (List.mem_of_getElem? (i := 0) rfl)) (fun _ h9 => h9) rfl dX5_pull_9 ?_
      refine lv_aload_n hx hb dX5_pull_12 rfl (lv_at hl 0 rfl) ?_
      refine va_get (D := G) (ci := 4) (v := va_re ad (grC S x0 0)) (C := RX5) (T := TX5) (N := 2) hx hb hts iX5 hown hK hP x0 (at_4 (k_x0.e hZ)) rfl 0 (by decide) (hw (.fieldLink RX5 11 "MotionFloor$Pile" "motions" "[LMotionFloor$Motion;") (List.mem_of_getElem? (i := 1) rfl)) (fun _ h9 => h9) rfl dX5_pull_13 ?_
      obtain ⟨hy2, hp⟩ := hp
      refine cTop (r := (grC S x0 0)) hy2.1 ?_
      refine va_alen (v := (Int32.ofNat (lnC S ((grC S x0 0).getD 0)))) hx hb hK hP ((grC S x0 0).getD 0) 3 (at_23 hy2.2) rfl rfl dX5_pull_16 ?_
      refine lv_icmp_le (tgt := 22) hx hb dX5_pull_17 (by decide) (fun c3 => ?_) (fun c3 => ?_)
      · rw [if_pos c3] at hE hp
        refine lv_aload_n hx hb dX5_pull_22 rfl (lv_at hl 0 rfl) ?_
        refine lv_dup hx hb dX5_pull_23 rfl ?_
        refine va_get (D := G) (ci := 4) (v := .int (giC S x0 1)) (C := RX5) (T := TX5) (N := 2) hx hb hts iX5 hown hK hP x0 (at_4 (k_x0.e hZ)) rfl 1 (by decide) (hw (.fieldLink RX5 17 "MotionFloor$Pile" "size" "I") (List.mem_of_getElem? (i := 0) rfl)) (fun _ h9 => h9) rfl dX5_pull_24 ?_
        refine lv_iconst (v := 1) hx hb dX5_pull_27 (by decide) ?_
        refine lv_isub hx hb dX5_pull_28 ?_
        refine va_put (D := G) (ci := 4) (v := .int ((giC S x0 1) - 1)) (ty := .int) (C := RX5) (T := TX5) (N := 2) hx hb hts iX5 tyX5 tyX5_ok nmX5 hown hK hP hD hS x0 (at_4 (k_x0.e hZ)) rfl 1 (by decide) (hw (.fieldLink RX5 17 "MotionFloor$Pile" "size" "I") (List.mem_of_getElem? (i := 0) rfl)) (fun _ h9 => h9) rfl (by decide +kernel) rfl rfl (Nat.le_of_ble_eq_true rfl) dX5_pull_29 (fun H locs hP hD hS => ?_)
        rw [st_4_1 (k_x0.e hZ)] at hP hD
        have hZ := hZ.tr (eK.si S x0 1 ((giC S x0 1) - 1))
        refine lv_aload_n hx hb dX5_pull_32 rfl (lv_at hl 0 rfl) ?_
        refine va_get (D := G) (ci := 4) (v := va_re ad (grC (siC S x0 1 ((giC S x0 1) - 1)) x0 0)) (C := RX5) (T := TX5) (N := 2) hx hb hts iX5 hown hK hP x0 (at_4 (k_x0.e hZ)) rfl 0 (by decide) (hw (.fieldLink RX5 11 "MotionFloor$Pile" "motions" "[LMotionFloor$Motion;") (List.mem_of_getElem? (i := 1) rfl)) (fun _ h9 => h9) rfl dX5_pull_33 ?_
        refine lv_aload_n hx hb dX5_pull_36 rfl (lv_at hl 0 rfl) ?_
        refine va_get (D := G) (ci := 4) (v := .int (giC (siC S x0 1 ((giC S x0 1) - 1)) x0 1)) (C := RX5) (T := TX5) (N := 2) hx hb hts iX5 hown hK hP x0 (at_4 (k_x0.e hZ)) rfl 1 (by decide) (hw (.fieldLink RX5 17 "MotionFloor$Pile" "size" "I") (List.mem_of_getElem? (i := 0) rfl)) (fun _ h9 => h9) rfl dX5_pull_37 ?_
        obtain ⟨hy4, hp⟩ := hp
        refine cTop2 (r := (grC (siC S x0 1 ((giC S x0 1) - 1)) x0 0)) hy4.1 ?_
        obtain ⟨hy5, hp⟩ := hp
        refine cAald hx hb hK hP ((grC (siC S x0 1 ((giC S x0 1) - 1)) x0 0).getD 0) 3 (at_23 hy4.2) rfl hy5 dX5_pull_40 ?_
        refine cAstore_n (ad := ad) (r := (grC (siC S x0 1 ((giC S x0 1) - 1)) ((grC (siC S x0 1 ((giC S x0 1) - 1)) x0 0).getD 0) (giC (siC S x0 1 ((giC S x0 1) - 1)) x0 1).toNatClampNeg)) (i := 1) (lv' := [(1, va_re ad (grC (siC S x0 1 ((giC S x0 1) - 1)) ((grC (siC S x0 1 ((giC S x0 1) - 1)) x0 0).getD 0) (giC (siC S x0 1 ((giC S x0 1) - 1)) x0 1).toNatClampNeg)), (0, .ref (ad x0))]) hx hb dX5_pull_41 rfl hl (by decide) rfl (fun ls_ hl => ?_)
        refine lv_aload_n hx hb dX5_pull_42 rfl (lv_at hl 1 rfl) ?_
        refine va_get (D := G) (ci := 4) (v := va_re ad (grC (siC S x0 1 ((giC S x0 1) - 1)) x0 0)) (C := RX5) (T := TX5) (N := 2) hx hb hts iX5 hown hK hP x0 (at_4 (k_x0.e hZ)) rfl 0 (by decide) (hw (.fieldLink RX5 11 "MotionFloor$Pile" "motions" "[LMotionFloor$Motion;") (List.mem_of_getElem? (i := 1) rfl)) (fun _ h9 => h9) rfl dX5_pull_43 ?_
        refine lv_aload_n hx hb dX5_pull_46 rfl (lv_at hl 1 rfl) ?_
        refine va_get (D := G) (ci := 4) (v := .int (giC (siC S x0 1 ((giC S x0 1) - 1)) x0 1)) (C := RX5) (T := TX5) (N := 2) hx hb hts iX5 hown hK hP x0 (at_4 (k_x0.e hZ)) rfl 1 (by decide) (hw (.fieldLink RX5 17 "MotionFloor$Pile" "size" "I") (List.mem_of_getElem? (i := 0) rfl)) (fun _ h9 => h9) rfl dX5_pull_47 ?_
        refine lv_null hx hb dX5_pull_50 ?_
        rw [← re_none (ad := ad) (r := none) rfl]
        obtain ⟨hy6, hp⟩ := hp
        refine cTop3 (r := (grC (siC S x0 1 ((giC S x0 1) - 1)) x0 0)) hy6.1 ?_
        rw [re_none (ad := ad) (r := none) rfl]
        obtain ⟨hy7, hp⟩ := hp
        refine va_astqN hx hb hK hP hD hS ((grC (siC S x0 1 ((giC S x0 1) - 1)) x0 0).getD 0) 3 (at_23 hy6.2) rfl hy7 dX5_pull_51 (fun H locs hP hD hS => ?_)
        rw [sn_23 hy6.2] at hP hD
        have hZ := hZ.tr (eK.sr (siC S x0 1 ((giC S x0 1) - 1)) ((grC (siC S x0 1 ((giC S x0 1) - 1)) x0 0).getD 0) (giC (siC S x0 1 ((giC S x0 1) - 1)) x0 1).toNatClampNeg none)
        refine cAload_n (ad := ad) (r := (grC (siC S x0 1 ((giC S x0 1) - 1)) ((grC (siC S x0 1 ((giC S x0 1) - 1)) x0 0).getD 0) (giC (siC S x0 1 ((giC S x0 1) - 1)) x0 1).toNatClampNeg)) hx hb dX5_pull_52 rfl (lv_at hl 0 rfl) ?_
        subst hQ
        exact W.aret (v := va_re ad (grC (siC S x0 1 ((giC S x0 1) - 1)) ((grC (siC S x0 1 ((giC S x0 1) - 1)) x0 0).getD 0) (giC (siC S x0 1 ((giC S x0 1) - 1)) x0 1).toNatClampNeg)) hx hb hr (Or.inl ⟨_, rfl⟩) (va_re_or ad _) (fun t ht hW => ⟨⟨(grC (siC S x0 1 ((giC S x0 1) - 1)) ((grC (siC S x0 1 ((giC S x0 1) - 1)) x0 0).getD 0) (giC (siC S x0 1 ((giC S x0 1) - 1)) x0 1).toNatClampNeg).map ad, (srC (siC S x0 1 ((giC S x0 1) - 1)) ((grC (siC S x0 1 ((giC S x0 1) - 1)) x0 0).getD 0) (giC (siC S x0 1 ((giC S x0 1) - 1)) x0 1).toNatClampNeg none), rfl, ⟨(grC (siC S x0 1 ((giC S x0 1) - 1)) ((grC (siC S x0 1 ((giC S x0 1) - 1)) x0 0).getD 0) (giC (siC S x0 1 ((giC S x0 1) - 1)) x0 1).toNatClampNeg), rfl, ⟨hE.trans hX.symm, hZ⟩⟩, by rw [ht]; exact hP, hD⟩, hS.F ht⟩) hS.2.2 dX5_pull_53
      · rw [if_neg c3] at hE hp
        exact B_Y5_pull_20 S _ _ _ hE hp hZ hP hD hS (lv_sub hl [0] rfl)
  exact B_M S0 _ _ _ hX hp (eK.rf S0) hP hD hS hl
theorem gdX0_dropTop_4 : ckS (List.drop 4 cX0_dropTop.data.toList) 4 [(4, .astore_n 2, 1), (5, .aload_n 2, 1), (6, .ifnull 16, 3), (9, .aload_n 2, 1), (10, .aload_n 0, 1), (11, .getfield 130, 3), (14, .putfield 134, 3), (17, .aload_n 0, 1), (18, .aload_n 2, 1), (19, .putfield 130, 3), (22, .return_, 1)] = true := by decide +kernel
theorem dX0_dropTop_4 : decode cX0_dropTop 4 = .ok (.astore_n 2, 1) := ckS_g gdX0_dropTop_4 0 rfl
theorem dX0_dropTop_5 : decode cX0_dropTop 5 = .ok (.aload_n 2, 1) := ckS_g gdX0_dropTop_4 1 rfl
theorem dX0_dropTop_6 : decode cX0_dropTop 6 = .ok (.ifnull 16, 3) := ckS_g gdX0_dropTop_4 2 rfl
theorem dX0_dropTop_9 : decode cX0_dropTop 9 = .ok (.aload_n 2, 1) := ckS_g gdX0_dropTop_4 3 rfl
theorem dX0_dropTop_10 : decode cX0_dropTop 10 = .ok (.aload_n 0, 1) := ckS_g gdX0_dropTop_4 4 rfl
theorem dX0_dropTop_11 : decode cX0_dropTop 11 = .ok (.getfield 130, 3) := ckS_g gdX0_dropTop_4 5 rfl
theorem dX0_dropTop_14 : decode cX0_dropTop 14 = .ok (.putfield 134, 3) := ckS_g gdX0_dropTop_4 6 rfl
theorem dX0_dropTop_17 : decode cX0_dropTop 17 = .ok (.aload_n 0, 1) := ckS_g gdX0_dropTop_4 7 rfl
theorem dX0_dropTop_18 : decode cX0_dropTop 18 = .ok (.aload_n 2, 1) := ckS_g gdX0_dropTop_4 8 rfl
theorem dX0_dropTop_19 : decode cX0_dropTop 19 = .ok (.putfield 130, 3) := ckS_g gdX0_dropTop_4 9 rfl
theorem dX0_dropTop_22 : decode cX0_dropTop 22 = .ok (.return_, 1) := ckS_g gdX0_dropTop_4 10 rfl
set_option maxRecDepth 100000 in
theorem zc5 : wZ (.lays "MotionFloor$Motion" "MotionFloor$Motion" "name" "I") := ⟨wT3 (List.mem_of_getElem? (i := 62) (by decide +kernel)), Or.inl rfl⟩
set_option maxRecDepth 100000 in
theorem zc6 : wZ (.lays "MotionFloor$Motion" "MotionFloor$Motion" "subject" "I") := ⟨wT3 (List.mem_of_getElem? (i := 64) (by decide +kernel)), Or.inl rfl⟩
set_option maxRecDepth 100000 in
theorem zc7 : wZ (.lays "MotionFloor$Motion" "MotionFloor$Motion" "kind" "I") := ⟨wT3 (List.mem_of_getElem? (i := 66) (by decide +kernel)), Or.inl rfl⟩
set_option maxRecDepth 100000 in
theorem zc8 : wZ (.lays "MotionFloor$Motion" "MotionFloor$Motion" "mover" "I") := ⟨wT3 (List.mem_of_getElem? (i := 68) (by decide +kernel)), Or.inl rfl⟩
set_option maxRecDepth 100000 in
theorem zc9 : wZ (.lays "MotionFloor$Motion" "MotionFloor$Motion" "seconder" "I") := ⟨wT3 (List.mem_of_getElem? (i := 70) (by decide +kernel)), Or.inl rfl⟩
set_option maxRecDepth 100000 in
theorem zc10 : wZ (.lays "MotionFloor$Motion" "MotionFloor$Motion" "floors" "I") := ⟨wT3 (List.mem_of_getElem? (i := 72) (by decide +kernel)), Or.inl rfl⟩
set_option maxRecDepth 100000 in
theorem zc11 : wZ (.lays "MotionFloor$Motion" "MotionFloor$Motion" "speeches" "I") := ⟨wT3 (List.mem_of_getElem? (i := 74) (by decide +kernel)), Or.inl rfl⟩
set_option maxRecDepth 100000 in
theorem zc12 : wZ (.lays "MotionFloor$Motion" "MotionFloor$Motion" "closed" "Z") := ⟨wT3 (List.mem_of_getElem? (i := 76) (by decide +kernel)), Or.inl rfl⟩
set_option maxRecDepth 100000 in
theorem zc13 : wZ (.lays "MotionFloor$Motion" "MotionFloor$Motion" "from" "I") := ⟨wT3 (List.mem_of_getElem? (i := 78) (by decide +kernel)), Or.inl rfl⟩
set_option maxRecDepth 100000 in
theorem zc14 : wZ (.lays "MotionFloor$Motion" "MotionFloor$Motion" "to" "I") := ⟨wT3 (List.mem_of_getElem? (i := 80) (by decide +kernel)), Or.inl rfl⟩
set_option maxRecDepth 100000 in
theorem zc15 : wZ (.lays "MotionFloor$Motion" "MotionFloor$Motion" "laid" "Z") := ⟨wT3 (List.mem_of_getElem? (i := 82) (by decide +kernel)), Or.inl rfl⟩
set_option maxRecDepth 100000 in
theorem zc16 : wZ (.lays "MotionFloor$Motion" "MotionFloor$Motion" "outOfOrder" "Z") := ⟨wT3 (List.mem_of_getElem? (i := 84) (by decide +kernel)), Or.inl rfl⟩
set_option maxRecDepth 100000 in
theorem zc17 : wZ (.laysFinal "MotionFloor$Motion" "MotionFloor$Motion" "text" "LMotionFloor$Text;") := ⟨wT3 (List.mem_of_getElem? (i := 86) (by decide +kernel)), Or.inl rfl⟩
set_option maxRecDepth 100000 in
theorem zc18 : wZ (.laysFinal "MotionFloor$Motion" "MotionFloor$Motion" "votes" "[B") := ⟨wT3 (List.mem_of_getElem? (i := 88) (by decide +kernel)), Or.inl rfl⟩
set_option maxRecDepth 100000 in
theorem zc19 : wZ (.lays "MotionFloor$Motion" "MotionFloor$Motion" "voters" "I") := ⟨wT3 (List.mem_of_getElem? (i := 90) (by decide +kernel)), Or.inl rfl⟩
set_option maxRecDepth 100000 in
theorem zc20 : wZ (.lays "MotionFloor$Motion" "MotionFloor$Motion" "nextSpare" "LMotionFloor$Motion;") := ⟨wT3 (List.mem_of_getElem? (i := 92) (by decide +kernel)), Or.inl rfl⟩
theorem zcX4 : GoodIn lw_tbl wsX40 := by
  show GoodIn lw_tbl [.lays "MotionFloor$Motion" "MotionFloor$Motion" "name" "I", .lays "MotionFloor$Motion" "MotionFloor$Motion" "subject" "I", .lays "MotionFloor$Motion" "MotionFloor$Motion" "kind" "I", .lays "MotionFloor$Motion" "MotionFloor$Motion" "mover" "I", .lays "MotionFloor$Motion" "MotionFloor$Motion" "seconder" "I", .lays "MotionFloor$Motion" "MotionFloor$Motion" "floors" "I", .lays "MotionFloor$Motion" "MotionFloor$Motion" "speeches" "I", .lays "MotionFloor$Motion" "MotionFloor$Motion" "closed" "Z", .lays "MotionFloor$Motion" "MotionFloor$Motion" "from" "I", .lays "MotionFloor$Motion" "MotionFloor$Motion" "to" "I", .lays "MotionFloor$Motion" "MotionFloor$Motion" "laid" "Z", .lays "MotionFloor$Motion" "MotionFloor$Motion" "outOfOrder" "Z", .laysFinal "MotionFloor$Motion" "MotionFloor$Motion" "text" "LMotionFloor$Text;", .laysFinal "MotionFloor$Motion" "MotionFloor$Motion" "votes" "[B", .lays "MotionFloor$Motion" "MotionFloor$Motion" "voters" "I", .lays "MotionFloor$Motion" "MotionFloor$Motion" "nextSpare" "LMotionFloor$Motion;"]
  exact wGc zc5 (wGc zc6 (wGc zc7 (wGc zc8 (wGc zc9 (wGc zc10 (wGc zc11 (wGc zc12 (wGc zc13 (wGc zc14 (wGc zc15 (wGc zc16 (wGc zc17 (wGc zc18 (wGc zc19 (wGc zc20 (wG0))))))))))))))))
set_option maxRecDepth 100000 in
theorem zc21 : wZ (.laysFinal "MotionFloor$Assembly" "MotionFloor$Assembly" "house" "LMotionFloor$House;") := ⟨wT1 (List.mem_of_getElem? (i := 212) (by decide +kernel)), Or.inl rfl⟩
set_option maxRecDepth 100000 in
theorem zc22 : wZ (.laysFinal "MotionFloor$Assembly" "MotionFloor$Assembly" "pending" "LMotionFloor$Pile;") := ⟨wT1 (List.mem_of_getElem? (i := 214) (by decide +kernel)), Or.inl rfl⟩
set_option maxRecDepth 100000 in
theorem zc23 : wZ (.laysFinal "MotionFloor$Assembly" "MotionFloor$Assembly" "draft" "LMotionFloor$Place;") := ⟨wT1 (List.mem_of_getElem? (i := 216) (by decide +kernel)), Or.inl rfl⟩
set_option maxRecDepth 100000 in
theorem zc24 : wZ (.laysFinal "MotionFloor$Assembly" "MotionFloor$Assembly" "desk" "[LMotionFloor$Place;") := ⟨wT1 (List.mem_of_getElem? (i := 218) (by decide +kernel)), Or.inl rfl⟩
set_option maxRecDepth 100000 in
theorem zc25 : wZ (.laysFinal "MotionFloor$Assembly" "MotionFloor$Assembly" "minutes" "LMotionFloor$Ledger;") := ⟨wT1 (List.mem_of_getElem? (i := 220) (by decide +kernel)), Or.inl rfl⟩
set_option maxRecDepth 100000 in
theorem zc26 : wZ (.laysFinal "MotionFloor$Assembly" "MotionFloor$Assembly" "results" "LMotionFloor$Ledger;") := ⟨wT1 (List.mem_of_getElem? (i := 222) (by decide +kernel)), Or.inl rfl⟩
set_option maxRecDepth 100000 in
theorem zc27 : wZ (.laysFinal "MotionFloor$Assembly" "MotionFloor$Assembly" "adopted" "LMotionFloor$Text;") := ⟨wT1 (List.mem_of_getElem? (i := 224) (by decide +kernel)), Or.inl rfl⟩
set_option maxRecDepth 100000 in
theorem zc28 : wZ (.lays "MotionFloor$Assembly" "MotionFloor$Assembly" "adoptions" "I") := ⟨wT1 (List.mem_of_getElem? (i := 226) (by decide +kernel)), Or.inl rfl⟩
set_option maxRecDepth 100000 in
theorem zc29 : wZ (.lays "MotionFloor$Assembly" "MotionFloor$Assembly" "names" "I") := ⟨wT1 (List.mem_of_getElem? (i := 228) (by decide +kernel)), Or.inl rfl⟩
set_option maxRecDepth 100000 in
theorem zc30 : wZ (.lays "MotionFloor$Assembly" "MotionFloor$Assembly" "reason" "I") := ⟨wT1 (List.mem_of_getElem? (i := 230) (by decide +kernel)), Or.inl rfl⟩
set_option maxRecDepth 100000 in
theorem zc31 : wZ (.lays "MotionFloor$Assembly" "MotionFloor$Assembly" "spare" "LMotionFloor$Motion;") := ⟨wT1 (List.mem_of_getElem? (i := 232) (by decide +kernel)), Or.inl rfl⟩
theorem zcX0 : GoodIn lw_tbl wsX00 := by
  show GoodIn lw_tbl [.laysFinal "MotionFloor$Assembly" "MotionFloor$Assembly" "house" "LMotionFloor$House;", .laysFinal "MotionFloor$Assembly" "MotionFloor$Assembly" "pending" "LMotionFloor$Pile;", .laysFinal "MotionFloor$Assembly" "MotionFloor$Assembly" "draft" "LMotionFloor$Place;", .laysFinal "MotionFloor$Assembly" "MotionFloor$Assembly" "desk" "[LMotionFloor$Place;", .laysFinal "MotionFloor$Assembly" "MotionFloor$Assembly" "minutes" "LMotionFloor$Ledger;", .laysFinal "MotionFloor$Assembly" "MotionFloor$Assembly" "results" "LMotionFloor$Ledger;", .laysFinal "MotionFloor$Assembly" "MotionFloor$Assembly" "adopted" "LMotionFloor$Text;", .lays "MotionFloor$Assembly" "MotionFloor$Assembly" "adoptions" "I", .lays "MotionFloor$Assembly" "MotionFloor$Assembly" "names" "I", .lays "MotionFloor$Assembly" "MotionFloor$Assembly" "reason" "I", .lays "MotionFloor$Assembly" "MotionFloor$Assembly" "spare" "LMotionFloor$Motion;"]
  exact wGc zc21 (wGc zc22 (wGc zc23 (wGc zc24 (wGc zc25 (wGc zc26 (wGc zc27 (wGc zc28 (wGc zc29 (wGc zc30 (wGc zc31 (wG0)))))))))))
set_option maxRecDepth 100000 in
theorem zc32 : wZ (.fieldLink RX0 134 "MotionFloor$Motion" "nextSpare" "LMotionFloor$Motion;") := ⟨wT3 (List.mem_of_getElem? (i := 61) (by decide +kernel)), Or.inl rfl⟩
set_option maxRecDepth 100000 in
theorem zc33 : wZ (.fieldLink RX0 130 "MotionFloor$Assembly" "spare" "LMotionFloor$Motion;") := ⟨wT1 (List.mem_of_getElem? (i := 211) (by decide +kernel)), Or.inl rfl⟩
set_option maxRecDepth 100000 in
theorem zc34 : wZ (.initialized RX5) := ⟨wT1 (List.mem_of_getElem? (i := 4) (by decide +kernel)), Or.inl rfl⟩
set_option maxRecDepth 100000 in
theorem zc35 : wZ (.selects RX5 yX5_pull yX5_pull) := ⟨wT2 (List.mem_of_getElem? (i := 35) (by decide +kernel)), Or.inl rfl⟩
set_option maxRecDepth 100000 in
theorem zc36 : wZ (.instanceMethod yX5_pull) := ⟨wT2 (List.mem_of_getElem? (i := 34) (by decide +kernel)), Or.inl rfl⟩
set_option maxRecDepth 100000 in
theorem zc37 : wZ (.methodLink RX0 126 yX5_pull) := ⟨wT2 (List.mem_of_getElem? (i := 33) (by decide +kernel)), Or.inl rfl⟩
set_option maxRecDepth 100000 in
theorem zc38 : wZ (.code yX0_dropTop cX0_dropTop 3 none) := ⟨wT2 (List.mem_of_getElem? (i := 32) rfl), Or.inl rfl⟩
def b_Y0_dropTop_22 (S : Cst) (x0 : Nat) (x1 : Nat) (x2 : Option Nat) : Int32 × Cst := (0, S)
def q_Y0_dropTop_22 (S : Cst) (x0 : Nat) (x1 : Nat) (x2 : Option Nat) : Prop := True
def b_Y0_dropTop_4a (S : Cst) (x0 : Nat) (x1 : Nat) (o0 : Option Nat) : Int32 × Cst := if o0 = none then (b_Y0_dropTop_22 S x0 x1 o0) else (b_Y0_dropTop_22 (srC (srC S (o0.getD 0) 15 (grC S x0 10)) x0 10 o0) x0 x1 o0)
def q_Y0_dropTop_4a (S : Cst) (x0 : Nat) (x1 : Nat) (o0 : Option Nat) : Prop := (if o0 = none then (q_Y0_dropTop_22 S x0 x1 o0) else (iR S o0 3) ∧ (q_Y0_dropTop_22 (srC (srC S (o0.getD 0) 15 (grC S x0 10)) x0 10 o0) x0 x1 o0))
def f_Y0_dropTop (S : Cst) (x0 : Nat) (x1 : Nat) : Int32 × Cst := (b_Y0_dropTop_4a ((f_Y5_pull S x1).2) x0 x1 ((f_Y5_pull S x1).1))
def p_Y0_dropTop (S : Cst) (x0 : Nat) (x1 : Nat) : Prop := (p_Y5_pull S x1) ∧ (q_Y0_dropTop_4a ((f_Y5_pull S x1).2) x0 x1 ((f_Y5_pull S x1).1))
def e_Y0_dropTop : List Cond := [.methodLink RX0 126 yX5_pull, .instanceMethod yX5_pull, .selects RX5 yX5_pull yX5_pull, .initialized RX5, .fieldLink RX0 130 "MotionFloor$Assembly" "spare" "LMotionFloor$Motion;", .fieldLink RX0 134 "MotionFloor$Motion" "nextSpare" "LMotionFloor$Motion;"]
def v_Y0_dropTop : List Cond := .code yX0_dropTop cX0_dropTop 3 none :: (e_Y0_dropTop ++ (wsX00 ++ (wsX40 ++ (v_Y5_pull ++ []))))
theorem te_Y0_dropTop : GoodIn lw_tbl e_Y0_dropTop := wGc zc37 (wGc zc36 (wGc zc35 (wGc zc34 (wGc zc33 (wGc zc32 (wG0))))))
theorem t_Y0_dropTop : GoodIn lw_tbl v_Y0_dropTop := wGc zc38 (wGa te_Y0_dropTop (wGa zcX0 (wGa zcX4 (wGa t_Y5_pull (wG0)))))
set_option maxHeartbeats 4000000 in
set_option maxRecDepth 100000 in
theorem c_Y0_dropTop (l : Launch) (G : va_G) (K : Nat → ClassId) (ad : Nat → Nat) (S0 : Cst) (x0 : Nat) (x1 : Nat)  (sz : Nat) : Met l yX0_dropTop v_Y0_dropTop ({ frames := 1, cells := 0, slots := 0, locals := 21 }) (va_Pc [.ref (ad x0), .ref (ad x1)] (cSt G K ad sz S0 (iK S0 x0 0 ∧ iK S0 x1 4 ∧ p_Y0_dropTop S0 x0 x1))) (va_Qv (fun u : Cst => (0, u) = f_Y0_dropTop S0 x0 x1 ∧ eK S0 u) (cBt G K ad (va_A (wsC K ad S0) sz)) (va_A (wsC K ad S0) sz)) 0 0 (va_A (wsC K ad S0) sz) := by
  refine Met.ofW (cc := cX0_dropTop) (maxL := 3) (ret := none) (by decide) rfl ?_
  intro p e s m args below meth c s₁ B hml hv
  obtain ⟨rfl, ⟨hsz, hP, hK, hD0, hTE⟩, hp⟩ := hv
  obtain ⟨k_x0, hp⟩ := hp
  obtain ⟨k_x1, hp⟩ := hp
  have hx := B.exec
  have hb := B.bytes
  have hr := B.returns
  have hts := atoms_spec (ws := v_Y0_dropTop) B.pre
  have t_ := t_Y0_dropTop
  have mw : ∀ w ∈ e_Y0_dropTop, w ∈ v_Y0_dropTop := fun w h => List.mem_cons_of_mem _ (List.mem_append_left _ h)
  have hw := fun w (h : w ∈ e_Y0_dropTop) => hts w (mw w h)
  have iX0 : ∀ w ∈ wsX00, w ∈ v_Y0_dropTop := fun w h => List.mem_cons_of_mem _ (List.mem_append_right _ (List.mem_append_left _ h))
  have iX4 : ∀ w ∈ wsX40, w ∈ v_Y0_dropTop := fun w h => List.mem_cons_of_mem _ (List.mem_append_right _ (List.mem_append_right _ (List.mem_append_left _ h)))
  have j_Y5_pull : ∀ w ∈ v_Y5_pull, w ∈ v_Y0_dropTop := fun w h => List.mem_cons_of_mem _ (List.mem_append_right _ (List.mem_append_right _ (List.mem_append_right _ (List.mem_append_left _ h))))
  have hown : s.vm.findClass RX0 = some m.cls := findClass_of_methodNamed B.named
  have hlocks := B.notSynchronized
  subst hsz
  have hD := hD0.self (sz := s.heap.size)
  generalize hAe : va_A (wsC K ad S0) s.heap.size = A at hD ⊢
  have hA : ∀ q : Nat, s.heap.size ≤ q → A q := fun q h => by rw [← hAe]; exact Or.inr h
  have hS : va_S A s.heap s.heap [] := va_S.rf
  have hl : lv_has (lg_sl ([.ref (ad x0), .ref (ad x1)]) ++ List.replicate (3 - (lg_sl ([.ref (ad x0), .ref (ad x1)])).length) Slot.unset).toArray 3 [(0, .ref (ad x0)), (1, .ref (ad x1))] := by
    exact lv_entry ([.ref (ad x0), .ref (ad x1)]) (n := 3) (Nat.le_of_ble_eq_true rfl)
  rw [lg_entry_eq]
  generalize (lg_sl ([.ref (ad x0), .ref (ad x1)]) ++ List.replicate (3 - (lg_sl ([.ref (ad x0), .ref (ad x1)])).length) Slot.unset).toArray = ls_ at hl ⊢
  refine wGen (fun Q hQ => ?_)
  obtain ⟨X, hX⟩ : ∃ X, f_Y0_dropTop S0 x0 x1 = X := ⟨_, rfl⟩
  have B_Y0_dropTop_22 : ∀ (S : Cst) (x2 : Option Nat) (H : Heap) (locs : List Loc) (ls_ : Array Slot), b_Y0_dropTop_22 S x0 x1 x2 = X → q_Y0_dropTop_22 S x0 x1 x2 → eK S0 S → va_P G vwCl (wsC K ad S) H → va_D A (wsC K ad S) → va_S A s.heap H locs → lv_has ls_ 3 [(0, .ref (ad x0)), (1, .ref (ad x1)), (2, va_re ad x2)] → W p l e ({ frames := 1, cells := 0, slots := 0, locals := 21 } : Room) s m #[Value.ref (ad x0), Value.ref (ad x1)] below meth c H locs 0 0 Q (F0 m 22 ls_ []) := by
    intro S x2 H locs ls_ hE hp hZ hP hD hS hl
    unfold b_Y0_dropTop_22 at hE
    unfold q_Y0_dropTop_22 at hp
    subst hQ
    exact W.vret hx hb hr (fun t ht hW => ⟨⟨S, rfl, ⟨hE.trans hX.symm, hZ⟩, by rw [ht]; exact hP, hD⟩, hS.F ht⟩) hS.2.2 dX0_dropTop_22
  have B_Y0_dropTop_4a : ∀ (S : Cst) (o0 : Option Nat) (H : Heap) (locs : List Loc) (ls_ : Array Slot), b_Y0_dropTop_4a S x0 x1 o0 = X → q_Y0_dropTop_4a S x0 x1 o0 → eK S0 S → va_P G vwCl (wsC K ad S) H → va_D A (wsC K ad S) → va_S A s.heap H locs → lv_has ls_ 3 [(0, .ref (ad x0)), (1, .ref (ad x1))] → W p l e ({ frames := 1, cells := 0, slots := 0, locals := 21 } : Room) s m #[Value.ref (ad x0), Value.ref (ad x1)] below meth c H locs 0 0 Q (F0 m 4 ls_ [va_re ad o0]) := by
    intro S o0 H locs ls_ hE hp hZ hP hD hS hl
    unfold b_Y0_dropTop_4a at hE
    unfold q_Y0_dropTop_4a at hp
    refine cAstore_n (ad := ad) (r := o0) (i := 2) (lv' := [(2, va_re ad o0), (0, .ref (ad x0)), (1, .ref (ad x1))]) hx hb dX0_dropTop_4 rfl hl (by decide) rfl (fun ls_ hl => ?_)
    refine cAload_n (ad := ad) (r := o0) hx hb dX0_dropTop_5 rfl (lv_at hl 0 rfl) ?_
    refine cIfnull (ad := ad) (r := o0) (tgt := 22) hx hb dX0_dropTop_6 (by decide) (fun c4 => ?_) (fun c4 => ?_)
    · rw [if_pos c4] at hE hp
      exact B_Y0_dropTop_22 S o0 _ _ _ hE hp hZ hP hD hS (lv_sub hl [1, 2, 0] rfl)
    · rw [if_neg c4] at hE hp
      refine cAload_n (ad := ad) (r := o0) hx hb dX0_dropTop_9 rfl (lv_at hl 0 rfl) ?_
      refine lv_aload_n hx hb dX0_dropTop_10 rfl (lv_at hl 1 rfl) ?_
      refine va_get (D := G) (ci := 0) (v := va_re ad (grC S x0 10)) (C := RX0) (T := TX0) (N := 11) hx hb hts iX0 hown hK hP x0 (at_0 (k_x0.e hZ)) rfl 10 (by decide) (hw (.fieldLink RX0 130 "MotionFloor$Assembly" "spare" "LMotionFloor$Motion;") (List.mem_of_getElem? (i := 4) rfl)) (fun _ h9 => h9) rfl dX0_dropTop_11 ?_
      obtain ⟨hy5, hp⟩ := hp
      refine cTop2 (r := o0) hy5.1 ?_
      refine va_put (D := G) (ci := 3) (v := va_re ad (grC S x0 10)) (ty := .object "MotionFloor$Motion") (C := RX4) (T := TX4) (N := 16) hx hb hts iX4 tyX4 tyX4_ok nmX4 hown hK hP hD hS (o0.getD 0) (at_3 hy5.2) rfl 15 (by decide) (hw (.fieldLink RX0 134 "MotionFloor$Motion" "nextSpare" "LMotionFloor$Motion;") (List.mem_of_getElem? (i := 5) rfl)) (fun _ h9 => h9) rfl (by decide +kernel) (re_nar ad _ _) (re_fit ad _ _) (Nat.le_of_ble_eq_true rfl) dX0_dropTop_14 (fun H locs hP hD hS => ?_)
      rw [st_3_15 hy5.2] at hP hD
      have hZ := hZ.tr (eK.sr S (o0.getD 0) 15 (grC S x0 10))
      refine lv_aload_n hx hb dX0_dropTop_17 rfl (lv_at hl 1 rfl) ?_
      refine cAload_n (ad := ad) (r := o0) hx hb dX0_dropTop_18 rfl (lv_at hl 0 rfl) ?_
      refine va_put (D := G) (ci := 0) (v := va_re ad o0) (ty := .object "MotionFloor$Motion") (C := RX0) (T := TX0) (N := 11) hx hb hts iX0 tyX0 tyX0_ok nmX0 hown hK hP hD hS x0 (at_0 (k_x0.e hZ)) rfl 10 (by decide) (hw (.fieldLink RX0 130 "MotionFloor$Assembly" "spare" "LMotionFloor$Motion;") (List.mem_of_getElem? (i := 4) rfl)) (fun _ h9 => h9) rfl (by decide +kernel) (re_nar ad _ _) (re_fit ad _ _) (Nat.le_of_ble_eq_true rfl) dX0_dropTop_19 (fun H locs hP hD hS => ?_)
      rw [st_0_10 (k_x0.e hZ)] at hP hD
      have hZ := hZ.tr (eK.sr (srC S (o0.getD 0) 15 (grC S x0 10)) x0 10 o0)
      exact B_Y0_dropTop_22 (srC (srC S (o0.getD 0) 15 (grC S x0 10)) x0 10 o0) o0 _ _ _ hE hp hZ hP hD hS (lv_sub hl [1, 2, 0] rfl)
  have B_M : ∀ (S : Cst) (H : Heap) (locs : List Loc) (ls_ : Array Slot), f_Y0_dropTop S x0 x1 = X → p_Y0_dropTop S x0 x1 → eK S0 S → va_P G vwCl (wsC K ad S) H → va_D A (wsC K ad S) → va_S A s.heap H locs → lv_has ls_ 3 [(0, .ref (ad x0)), (1, .ref (ad x1))] → W p l e ({ frames := 1, cells := 0, slots := 0, locals := 21 } : Room) s m #[Value.ref (ad x0), Value.ref (ad x1)] below meth c H locs 0 0 Q (F0 m 0 ls_ []) := by
    intro S H locs ls_ hE hp hZ hP hD hS hl
    unfold f_Y0_dropTop at hE
    unfold p_Y0_dropTop at hp
    refine lv_aload_n hx hb dX0_dropTop_0 rfl (lv_at hl 1 rfl) ?_
    obtain ⟨hy1, hp⟩ := hp
    refine cGoq (va_runV (As := []) (rest := []) ⟨hx, hb, hml, hown, hts⟩ (c_Y5_pull l G K ad S x1 _) (cwV 0 hts (wGV t_ (mw (.methodLink RX0 126 yX5_pull) (List.mem_of_getElem? (i := 0) rfl)) (mw (.instanceMethod yX5_pull) (List.mem_of_getElem? (i := 1) rfl)) (mw (.selects RX5 yX5_pull yX5_pull) (List.mem_of_getElem? (i := 2) rfl)) (mw (.initialized RX5) (List.mem_of_getElem? (i := 3) rfl)) j_Y5_pull) rfl rfl rfl (by decide +kernel) ⟨Nat.le_of_ble_eq_true rfl, Nat.le_of_ble_eq_true rfl⟩) (cPV hK hTE hP hD 4 rfl (at_4 (k_x1.e hZ)) ⟨(k_x1.e hZ), hy1⟩) rfl rfl hl.1 rfl (lv_room (Nat.le_of_ble_eq_true rfl)) dX0_dropTop_1 ⟨Nat.le_of_ble_eq_true rfl, Nat.le_of_ble_eq_true rfl⟩) hP hD hS hA (fun r3 u2 H locs hv hP hD hS => ?_)
    obtain ⟨hv, hz⟩ := hv
    have hZ := hZ.tr hz
    rw [← hv] at hE hp
    dsimp only at hE hp
    exact B_Y0_dropTop_4a u2 r3 _ _ _ hE hp hZ hP hD hS (lv_sub hl [0, 1] rfl)
  exact B_M S0 _ _ _ hX hp (eK.rf S0) hP hD hS hl
theorem dX0_release_14 : decode cX0_release 14 = .ok (.iinc 2 (-1), 3) := by decide +kernel
theorem dX0_release_17 : decode cX0_release 17 = .ok (.goto (-12), 3) := by decide +kernel
set_option maxRecDepth 100000 in
theorem zc39 : wZ (.initialized RX0) := ⟨wT1 (List.mem_of_getElem? (i := 2) (by decide +kernel)), Or.inl rfl⟩
set_option maxRecDepth 100000 in
theorem zc40 : wZ (.selects RX0 yX0_dropTop yX0_dropTop) := ⟨wT2 (List.mem_of_getElem? (i := 31) (by decide +kernel)), Or.inl rfl⟩
set_option maxRecDepth 100000 in
theorem zc41 : wZ (.instanceMethod yX0_dropTop) := ⟨wT2 (List.mem_of_getElem? (i := 30) (by decide +kernel)), Or.inl rfl⟩
set_option maxRecDepth 100000 in
theorem zc42 : wZ (.methodLink RX0 123 yX0_dropTop) := ⟨wT2 (List.mem_of_getElem? (i := 29) (by decide +kernel)), Or.inl rfl⟩
set_option maxRecDepth 100000 in
theorem zc43 : wZ (.fieldLink RX0 96 "MotionFloor$Pile" "size" "I") := ⟨wT1 (List.mem_of_getElem? (i := 89) (by decide +kernel)), Or.inl rfl⟩
set_option maxRecDepth 100000 in
theorem zc44 : wZ (.code yX0_release cX0_release 3 none) := ⟨wT2 (List.mem_of_getElem? (i := 28) rfl), Or.inl rfl⟩
def b_Y0_release_14a (S : Cst) (x0 : Nat) (x1 : Nat) (x2 : Int32) : (Int32 × Cst) ⊕ (Cst × Int32) := Sum.inr (S, (x2 + (-1)))
def q_Y0_release_14a (S : Cst) (x0 : Nat) (x1 : Nat) (x2 : Int32) : Prop := True
def st_Y0_release_5 (S : Cst) (x0 : Nat) (x1 : Nat) (x2 : Int32) : (Int32 × Cst) ⊕ (Cst × Int32) := if x2 ≤ 0 then Sum.inl ((0, S)) else (b_Y0_release_14a ((f_Y0_dropTop S x0 x1).2) x0 x1 x2)
def ps_Y0_release_5 (S : Cst) (x0 : Nat) (x1 : Nat) (x2 : Int32) : Prop := (if x2 ≤ 0 then True else (p_Y0_dropTop S x0 x1) ∧ (q_Y0_release_14a ((f_Y0_dropTop S x0 x1).2) x0 x1 x2))
def lp_Y0_release_5 (x0 : Nat) (x1 : Nat) : Nat → Cst → Int32 → Int32 × Cst
  | 0, S, _ => (0, S)
  | n + 1, S, x2 => match st_Y0_release_5 S x0 x1 x2 with
    | Sum.inl r => r
    | Sum.inr q => lp_Y0_release_5 x0 x1 n q.1 q.2
def lq_Y0_release_5 (x0 : Nat) (x1 : Nat) : Nat → Cst → Int32 → Prop
  | 0, _, _ => False
  | n + 1, S, x2 => ps_Y0_release_5 S x0 x1 x2 ∧ (match st_Y0_release_5 S x0 x1 x2 with
    | Sum.inl _ => True
    | Sum.inr q => lq_Y0_release_5 x0 x1 n q.1 q.2)
def f_Y0_release (S : Cst) (x0 : Nat) (x1 : Nat) : Int32 × Cst := (lp_Y0_release_5 x0 x1 100000 S (giC S x1 1))
def p_Y0_release (S : Cst) (x0 : Nat) (x1 : Nat) : Prop := (lq_Y0_release_5 x0 x1 100000 S (giC S x1 1))
def e_Y0_release : List Cond := [.fieldLink RX0 96 "MotionFloor$Pile" "size" "I", .methodLink RX0 123 yX0_dropTop, .instanceMethod yX0_dropTop, .selects RX0 yX0_dropTop yX0_dropTop, .initialized RX0]
def v_Y0_release : List Cond := .code yX0_release cX0_release 3 none :: (e_Y0_release ++ (wsX50 ++ (v_Y0_dropTop ++ [])))
theorem te_Y0_release : GoodIn lw_tbl e_Y0_release := wGc zc43 (wGc zc42 (wGc zc41 (wGc zc40 (wGc zc39 (wG0)))))
theorem t_Y0_release : GoodIn lw_tbl v_Y0_release := wGc zc44 (wGa te_Y0_release (wGa zcX5 (wGa t_Y0_dropTop (wG0))))
set_option maxHeartbeats 4000000 in
set_option maxRecDepth 100000 in
theorem c_Y0_release (l : Launch) (G : va_G) (K : Nat → ClassId) (ad : Nat → Nat) (S0 : Cst) (x0 : Nat) (x1 : Nat)  (sz : Nat) : Met l yX0_release v_Y0_release ({ frames := 2, cells := 0, slots := 0, locals := 43 }) (va_Pc [.ref (ad x0), .ref (ad x1)] (cSt G K ad sz S0 (iK S0 x0 0 ∧ iK S0 x1 4 ∧ p_Y0_release S0 x0 x1))) (va_Qv (fun u : Cst => (0, u) = f_Y0_release S0 x0 x1 ∧ eK S0 u) (cBt G K ad (va_A (wsC K ad S0) sz)) (va_A (wsC K ad S0) sz)) 0 0 (va_A (wsC K ad S0) sz) := by
  refine Met.ofW (cc := cX0_release) (maxL := 3) (ret := none) (by decide) rfl ?_
  intro p e s m args below meth c s₁ B hml hv
  obtain ⟨rfl, ⟨hsz, hP, hK, hD0, hTE⟩, hp⟩ := hv
  obtain ⟨k_x0, hp⟩ := hp
  obtain ⟨k_x1, hp⟩ := hp
  have hx := B.exec
  have hb := B.bytes
  have hr := B.returns
  have hts := atoms_spec (ws := v_Y0_release) B.pre
  have t_ := t_Y0_release
  have mw : ∀ w ∈ e_Y0_release, w ∈ v_Y0_release := fun w h => List.mem_cons_of_mem _ (List.mem_append_left _ h)
  have hw := fun w (h : w ∈ e_Y0_release) => hts w (mw w h)
  have iX5 : ∀ w ∈ wsX50, w ∈ v_Y0_release := fun w h => List.mem_cons_of_mem _ (List.mem_append_right _ (List.mem_append_left _ h))
  have j_Y0_dropTop : ∀ w ∈ v_Y0_dropTop, w ∈ v_Y0_release := fun w h => List.mem_cons_of_mem _ (List.mem_append_right _ (List.mem_append_right _ (List.mem_append_left _ h)))
  have hown : s.vm.findClass RX0 = some m.cls := findClass_of_methodNamed B.named
  have hlocks := B.notSynchronized
  subst hsz
  have hD := hD0.self (sz := s.heap.size)
  generalize hAe : va_A (wsC K ad S0) s.heap.size = A at hD ⊢
  have hA : ∀ q : Nat, s.heap.size ≤ q → A q := fun q h => by rw [← hAe]; exact Or.inr h
  have hS : va_S A s.heap s.heap [] := va_S.rf
  have hl : lv_has (lg_sl ([.ref (ad x0), .ref (ad x1)]) ++ List.replicate (3 - (lg_sl ([.ref (ad x0), .ref (ad x1)])).length) Slot.unset).toArray 3 [(0, .ref (ad x0)), (1, .ref (ad x1))] := by
    exact lv_entry ([.ref (ad x0), .ref (ad x1)]) (n := 3) (Nat.le_of_ble_eq_true rfl)
  rw [lg_entry_eq]
  generalize (lg_sl ([.ref (ad x0), .ref (ad x1)]) ++ List.replicate (3 - (lg_sl ([.ref (ad x0), .ref (ad x1)])).length) Slot.unset).toArray = ls_ at hl ⊢
  refine wGen (fun Q hQ => ?_)
  obtain ⟨X, hX⟩ : ∃ X, f_Y0_release S0 x0 x1 = X := ⟨_, rfl⟩
  have L_5 : ∀ (n : Nat) (S : Cst) (x2 : Int32) (H : Heap) (locs : List Loc) (ls_ : Array Slot), lp_Y0_release_5 x0 x1 n S x2 = X → lq_Y0_release_5 x0 x1 n S x2 → eK S0 S → va_P G vwCl (wsC K ad S) H → va_D A (wsC K ad S) → va_S A s.heap H locs → lv_has ls_ 3 [(0, .ref (ad x0)), (1, .ref (ad x1)), (2, .int x2)] → W p l e ({ frames := 2, cells := 0, slots := 0, locals := 43 } : Room) s m #[Value.ref (ad x0), Value.ref (ad x1)] below meth c H locs 0 0 Q (F0 m 5 ls_ []) := by
    intro n1
    induction n1 with
    | zero => intro S x2 H locs ls_ hE hp; exact False.elim hp
    | succ n1 ih1 =>
      intro S x2 H locs ls_ hO1 hp hZ hP hD hS hl
      rw [lp_Y0_release_5] at hO1
      rw [lq_Y0_release_5] at hp
      obtain ⟨hp, hq1⟩ := hp
      generalize hE : st_Y0_release_5 S x0 x1 x2 = Y1 at hO1 hq1
      unfold st_Y0_release_5 at hE
      unfold ps_Y0_release_5 at hp
      have B_Y0_release_14a : ∀ (S : Cst) (x2 : Int32) (H : Heap) (locs : List Loc) (ls_ : Array Slot), b_Y0_release_14a S x0 x1 x2 = Y1 → q_Y0_release_14a S x0 x1 x2 → eK S0 S → va_P G vwCl (wsC K ad S) H → va_D A (wsC K ad S) → va_S A s.heap H locs → lv_has ls_ 3 [(0, .ref (ad x0)), (1, .ref (ad x1)), (2, .int x2)] → W p l e ({ frames := 2, cells := 0, slots := 0, locals := 43 } : Room) s m #[Value.ref (ad x0), Value.ref (ad x1)] below meth c H locs 0 0 Q (F0 m 14 ls_ []) := by
        intro S x2 H locs ls_ hE hp hZ hP hD hS hl
        unfold b_Y0_release_14a at hE
        unfold q_Y0_release_14a at hp
        refine lv_iinc (i := 2) (v := (x2 + (-1))) (lv' := [(2, .int (x2 + (-1))), (0, .ref (ad x0)), (1, .ref (ad x1))]) hx hb dX0_release_14 hl (k := 2) rfl rfl (by decide) rfl (fun ls_ hl => ?_)
        refine lv_goto (tgt := 5) hx hb dX0_release_17 (by decide) ?_
        subst hE
        dsimp only at hO1 hq1
        exact ih1 S (x2 + (-1)) _ _ _ hO1 hq1 hZ hP hD hS (lv_sub hl [1, 2, 0] rfl)
      refine lv_iload_n hx hb dX0_release_5 rfl (lv_at hl 2 rfl) ?_
      refine lv_if_le (tgt := 20) hx hb dX0_release_6 (by decide) (fun c1 => ?_) (fun c1 => ?_)
      · rw [if_pos c1] at hE hp
        subst hE
        have hE := hO1
        dsimp only at hE
        subst hQ
        exact W.vret hx hb hr (fun t ht hW => ⟨⟨S, rfl, ⟨hE.trans hX.symm, hZ⟩, by rw [ht]; exact hP, hD⟩, hS.F ht⟩) hS.2.2 dX0_release_20
      · rw [if_neg c1] at hE hp
        refine lv_aload_n hx hb dX0_release_9 rfl (lv_at hl 0 rfl) ?_
        refine lv_aload_n hx hb dX0_release_10 rfl (lv_at hl 1 rfl) ?_
        obtain ⟨hy2, hp⟩ := hp
        refine cGov (va_runV (As := [.ref (ad x1)]) (rest := []) ⟨hx, hb, hml, hown, hts⟩ (c_Y0_dropTop l G K ad S x0 x1 _) (cwV 1 hts (wGV t_ (mw (.methodLink RX0 123 yX0_dropTop) (List.mem_of_getElem? (i := 1) rfl)) (mw (.instanceMethod yX0_dropTop) (List.mem_of_getElem? (i := 2) rfl)) (mw (.selects RX0 yX0_dropTop yX0_dropTop) (List.mem_of_getElem? (i := 3) rfl)) (mw (.initialized RX0) (List.mem_of_getElem? (i := 4) rfl)) j_Y0_dropTop) rfl rfl rfl (by decide +kernel) ⟨Nat.le_of_ble_eq_true rfl, Nat.le_of_ble_eq_true rfl⟩) (cPV hK hTE hP hD 0 rfl (at_0 (k_x0.e hZ)) ⟨(k_x0.e hZ), (k_x1.e hZ), hy2⟩) rfl rfl hl.1 rfl (lv_room (Nat.le_of_ble_eq_true rfl)) dX0_release_11 ⟨Nat.le_of_ble_eq_true rfl, Nat.le_of_ble_eq_true rfl⟩) hP hD hS hA (fun u3 H locs hv hP hD hS => ?_)
        obtain ⟨hv, hz⟩ := hv
        have hZ := hZ.tr hz
        rw [← hv] at hE hp
        dsimp only at hE hp
        exact B_Y0_release_14a u3 x2 _ _ _ hE hp hZ hP hD hS (lv_sub hl [0, 1, 2] rfl)
  have B_M : ∀ (S : Cst) (H : Heap) (locs : List Loc) (ls_ : Array Slot), f_Y0_release S x0 x1 = X → p_Y0_release S x0 x1 → eK S0 S → va_P G vwCl (wsC K ad S) H → va_D A (wsC K ad S) → va_S A s.heap H locs → lv_has ls_ 3 [(0, .ref (ad x0)), (1, .ref (ad x1))] → W p l e ({ frames := 2, cells := 0, slots := 0, locals := 43 } : Room) s m #[Value.ref (ad x0), Value.ref (ad x1)] below meth c H locs 0 0 Q (F0 m 0 ls_ []) := by
    intro S H locs ls_ hE hp hZ hP hD hS hl
    unfold f_Y0_release at hE
    unfold p_Y0_release at hp
    refine lv_aload_n hx hb dX0_release_0 rfl (lv_at hl 1 rfl) ?_
    refine va_get (D := G) (ci := 4) (v := .int (giC S x1 1)) (C := RX5) (T := TX5) (N := 2) hx hb hts iX5 hown hK hP x1 (at_4 (k_x1.e hZ)) rfl 1 (by decide) (hw (.fieldLink RX0 96 "MotionFloor$Pile" "size" "I") (List.mem_of_getElem? (i := 0) rfl)) (fun _ h9 => h9) rfl dX0_release_1 ?_
    refine lv_istore_n (i := 2) (lv' := [(2, .int (giC S x1 1)), (0, .ref (ad x0)), (1, .ref (ad x1))]) hx hb dX0_release_4 rfl hl (by decide) rfl (fun ls_ hl => ?_)
    exact L_5 100000 S (giC S x1 1) _ _ _ hE hp hZ hP hD hS (lv_sub hl [1, 2, 0] rfl)
  exact B_M S0 _ _ _ hX hp (eK.rf S0) hP hD hS hl
theorem gdX0_clear_8 : ckS (List.drop 8 cX0_clear.data.toList) 8 [(8, .aload_n 0, 1), (9, .aload_n 0, 1), (10, .getfield 28, 3), (13, .invokevirtual 119, 3)] = true := by decide +kernel
theorem dX0_clear_8 : decode cX0_clear 8 = .ok (.aload_n 0, 1) := ckS_g gdX0_clear_8 0 rfl
theorem dX0_clear_9 : decode cX0_clear 9 = .ok (.aload_n 0, 1) := ckS_g gdX0_clear_8 1 rfl
theorem dX0_clear_10 : decode cX0_clear 10 = .ok (.getfield 28, 3) := ckS_g gdX0_clear_8 2 rfl
theorem dX0_clear_13 : decode cX0_clear 13 = .ok (.invokevirtual 119, 3) := ckS_g gdX0_clear_8 3 rfl
theorem gdX0_discard_0 : ckS (List.drop 0 cX0_discard.data.toList) 0 [(0, .aload_n 0, 1), (1, .aload_n 1, 1), (2, .getfield 87, 3), (5, .invokevirtual 115, 3), (8, .aload_n 1, 1), (9, .iconst 0, 1), (10, .putfield 84, 3), (13, .return_, 1)] = true := by decide +kernel
theorem dX0_discard_0 : decode cX0_discard 0 = .ok (.aload_n 0, 1) := ckS_g gdX0_discard_0 0 rfl
theorem dX0_discard_1 : decode cX0_discard 1 = .ok (.aload_n 1, 1) := ckS_g gdX0_discard_0 1 rfl
theorem dX0_discard_2 : decode cX0_discard 2 = .ok (.getfield 87, 3) := ckS_g gdX0_discard_0 2 rfl
theorem dX0_discard_5 : decode cX0_discard 5 = .ok (.invokevirtual 115, 3) := ckS_g gdX0_discard_0 3 rfl
theorem dX0_discard_8 : decode cX0_discard 8 = .ok (.aload_n 1, 1) := ckS_g gdX0_discard_0 4 rfl
theorem dX0_discard_9 : decode cX0_discard 9 = .ok (.iconst 0, 1) := ckS_g gdX0_discard_0 5 rfl
theorem dX0_discard_10 : decode cX0_discard 10 = .ok (.putfield 84, 3) := ckS_g gdX0_discard_0 6 rfl
theorem dX0_discard_13 : decode cX0_discard 13 = .ok (.return_, 1) := ckS_g gdX0_discard_0 7 rfl
set_option maxRecDepth 100000 in
theorem zc45 : wZ (.lays "MotionFloor$Place" "MotionFloor$Place" "sort" "I") := ⟨wT1 (List.mem_of_getElem? (i := 115) (by decide +kernel)), Or.inl rfl⟩
set_option maxRecDepth 100000 in
theorem zc46 : wZ (.laysFinal "MotionFloor$Place" "MotionFloor$Place" "pile" "LMotionFloor$Pile;") := ⟨wT1 (List.mem_of_getElem? (i := 117) (by decide +kernel)), Or.inl rfl⟩
theorem zcX6 : GoodIn lw_tbl wsX60 := by
  show GoodIn lw_tbl [.lays "MotionFloor$Place" "MotionFloor$Place" "sort" "I", .laysFinal "MotionFloor$Place" "MotionFloor$Place" "pile" "LMotionFloor$Pile;"]
  exact wGc zc45 (wGc zc46 (wG0))
set_option maxRecDepth 100000 in
theorem zc47 : wZ (.fieldLink RX0 84 "MotionFloor$Place" "sort" "I") := ⟨wT1 (List.mem_of_getElem? (i := 108) (by decide +kernel)), Or.inl rfl⟩
set_option maxRecDepth 100000 in
theorem zc48 : wZ (.selects RX0 yX0_release yX0_release) := ⟨wT2 (List.mem_of_getElem? (i := 27) (by decide +kernel)), Or.inl rfl⟩
set_option maxRecDepth 100000 in
theorem zc49 : wZ (.instanceMethod yX0_release) := ⟨wT2 (List.mem_of_getElem? (i := 26) (by decide +kernel)), Or.inl rfl⟩
set_option maxRecDepth 100000 in
theorem zc50 : wZ (.methodLink RX0 115 yX0_release) := ⟨wT2 (List.mem_of_getElem? (i := 25) (by decide +kernel)), Or.inl rfl⟩
set_option maxRecDepth 100000 in
theorem zc51 : wZ (.fieldLink RX0 87 "MotionFloor$Place" "pile" "LMotionFloor$Pile;") := ⟨wT1 (List.mem_of_getElem? (i := 112) (by decide +kernel)), Or.inl rfl⟩
set_option maxRecDepth 100000 in
theorem zc52 : wZ (.code yX0_discard cX0_discard 2 none) := ⟨wT2 (List.mem_of_getElem? (i := 40) rfl), Or.inl rfl⟩
def b_Y0_discard_8a (S : Cst) (x0 : Nat) (x1 : Nat)  : Int32 × Cst := (0, (siC S x1 0 (0 : Int32)))
def q_Y0_discard_8a (S : Cst) (x0 : Nat) (x1 : Nat)  : Prop := True
def f_Y0_discard (S : Cst) (x0 : Nat) (x1 : Nat) : Int32 × Cst := (b_Y0_discard_8a ((f_Y0_release S x0 ((grC S x1 1).getD 0)).2) x0 x1)
def p_Y0_discard (S : Cst) (x0 : Nat) (x1 : Nat) : Prop := (iR S (grC S x1 1) 4) ∧ (p_Y0_release S x0 ((grC S x1 1).getD 0)) ∧ (q_Y0_discard_8a ((f_Y0_release S x0 ((grC S x1 1).getD 0)).2) x0 x1)
def e_Y0_discard : List Cond := [.fieldLink RX0 87 "MotionFloor$Place" "pile" "LMotionFloor$Pile;", .methodLink RX0 115 yX0_release, .instanceMethod yX0_release, .selects RX0 yX0_release yX0_release, .initialized RX0, .fieldLink RX0 84 "MotionFloor$Place" "sort" "I"]
def v_Y0_discard : List Cond := .code yX0_discard cX0_discard 2 none :: (e_Y0_discard ++ (wsX60 ++ (v_Y0_release ++ [])))
theorem te_Y0_discard : GoodIn lw_tbl e_Y0_discard := wGc zc51 (wGc zc50 (wGc zc49 (wGc zc48 (wGc zc39 (wGc zc47 (wG0))))))
theorem t_Y0_discard : GoodIn lw_tbl v_Y0_discard := wGc zc52 (wGa te_Y0_discard (wGa zcX6 (wGa t_Y0_release (wG0))))
set_option maxHeartbeats 4000000 in
set_option maxRecDepth 100000 in
theorem c_Y0_discard (l : Launch) (G : va_G) (K : Nat → ClassId) (ad : Nat → Nat) (S0 : Cst) (x0 : Nat) (x1 : Nat)  (sz : Nat) : Met l yX0_discard v_Y0_discard ({ frames := 3, cells := 0, slots := 0, locals := 65 }) (va_Pc [.ref (ad x0), .ref (ad x1)] (cSt G K ad sz S0 (iK S0 x0 0 ∧ iK S0 x1 5 ∧ p_Y0_discard S0 x0 x1))) (va_Qv (fun u : Cst => (0, u) = f_Y0_discard S0 x0 x1 ∧ eK S0 u) (cBt G K ad (va_A (wsC K ad S0) sz)) (va_A (wsC K ad S0) sz)) 0 0 (va_A (wsC K ad S0) sz) := by
  refine Met.ofW (cc := cX0_discard) (maxL := 2) (ret := none) (by decide) rfl ?_
  intro p e s m args below meth c s₁ B hml hv
  obtain ⟨rfl, ⟨hsz, hP, hK, hD0, hTE⟩, hp⟩ := hv
  obtain ⟨k_x0, hp⟩ := hp
  obtain ⟨k_x1, hp⟩ := hp
  have hx := B.exec
  have hb := B.bytes
  have hr := B.returns
  have hts := atoms_spec (ws := v_Y0_discard) B.pre
  have t_ := t_Y0_discard
  have mw : ∀ w ∈ e_Y0_discard, w ∈ v_Y0_discard := fun w h => List.mem_cons_of_mem _ (List.mem_append_left _ h)
  have hw := fun w (h : w ∈ e_Y0_discard) => hts w (mw w h)
  have iX6 : ∀ w ∈ wsX60, w ∈ v_Y0_discard := fun w h => List.mem_cons_of_mem _ (List.mem_append_right _ (List.mem_append_left _ h))
  have j_Y0_release : ∀ w ∈ v_Y0_release, w ∈ v_Y0_discard := fun w h => List.mem_cons_of_mem _ (List.mem_append_right _ (List.mem_append_right _ (List.mem_append_left _ h)))
  have hown : s.vm.findClass RX0 = some m.cls := findClass_of_methodNamed B.named
  have hlocks := B.notSynchronized
  subst hsz
  have hD := hD0.self (sz := s.heap.size)
  generalize hAe : va_A (wsC K ad S0) s.heap.size = A at hD ⊢
  have hA : ∀ q : Nat, s.heap.size ≤ q → A q := fun q h => by rw [← hAe]; exact Or.inr h
  have hS : va_S A s.heap s.heap [] := va_S.rf
  have hl : lv_has (lg_sl ([.ref (ad x0), .ref (ad x1)]) ++ List.replicate (2 - (lg_sl ([.ref (ad x0), .ref (ad x1)])).length) Slot.unset).toArray 2 [(0, .ref (ad x0)), (1, .ref (ad x1))] := by
    exact lv_entry ([.ref (ad x0), .ref (ad x1)]) (n := 2) (Nat.le_of_ble_eq_true rfl)
  rw [lg_entry_eq]
  generalize (lg_sl ([.ref (ad x0), .ref (ad x1)]) ++ List.replicate (2 - (lg_sl ([.ref (ad x0), .ref (ad x1)])).length) Slot.unset).toArray = ls_ at hl ⊢
  refine wGen (fun Q hQ => ?_)
  obtain ⟨X, hX⟩ : ∃ X, f_Y0_discard S0 x0 x1 = X := ⟨_, rfl⟩
  have B_Y0_discard_8a : ∀ (S : Cst)  (H : Heap) (locs : List Loc) (ls_ : Array Slot), b_Y0_discard_8a S x0 x1 = X → q_Y0_discard_8a S x0 x1 → eK S0 S → va_P G vwCl (wsC K ad S) H → va_D A (wsC K ad S) → va_S A s.heap H locs → lv_has ls_ 2 [(0, .ref (ad x0)), (1, .ref (ad x1))] → W p l e ({ frames := 3, cells := 0, slots := 0, locals := 65 } : Room) s m #[Value.ref (ad x0), Value.ref (ad x1)] below meth c H locs 0 0 Q (F0 m 8 ls_ []) := by
    intro S H locs ls_ hE hp hZ hP hD hS hl
    unfold b_Y0_discard_8a at hE
    unfold q_Y0_discard_8a at hp
    refine lv_aload_n hx hb dX0_discard_8 rfl (lv_at hl 1 rfl) ?_
    refine lv_iconst (v := 0) hx hb dX0_discard_9 (by decide) ?_
    refine va_put (D := G) (ci := 5) (v := .int 0) (ty := .int) (C := RX6) (T := TX6) (N := 2) hx hb hts iX6 tyX6 tyX6_ok nmX6 hown hK hP hD hS x1 (at_5 (k_x1.e hZ)) rfl 0 (by decide) (hw (.fieldLink RX0 84 "MotionFloor$Place" "sort" "I") (List.mem_of_getElem? (i := 5) rfl)) (fun _ h9 => h9) rfl (by decide +kernel) rfl rfl (Nat.le_of_ble_eq_true rfl) dX0_discard_10 (fun H locs hP hD hS => ?_)
    rw [st_5_0 (k_x1.e hZ)] at hP hD
    have hZ := hZ.tr (eK.si S x1 0 (0 : Int32))
    subst hQ
    exact W.vret hx hb hr (fun t ht hW => ⟨⟨(siC S x1 0 (0 : Int32)), rfl, ⟨hE.trans hX.symm, hZ⟩, by rw [ht]; exact hP, hD⟩, hS.F ht⟩) hS.2.2 dX0_discard_13
  have B_M : ∀ (S : Cst) (H : Heap) (locs : List Loc) (ls_ : Array Slot), f_Y0_discard S x0 x1 = X → p_Y0_discard S x0 x1 → eK S0 S → va_P G vwCl (wsC K ad S) H → va_D A (wsC K ad S) → va_S A s.heap H locs → lv_has ls_ 2 [(0, .ref (ad x0)), (1, .ref (ad x1))] → W p l e ({ frames := 3, cells := 0, slots := 0, locals := 65 } : Room) s m #[Value.ref (ad x0), Value.ref (ad x1)] below meth c H locs 0 0 Q (F0 m 0 ls_ []) := by
    intro S H locs ls_ hE hp hZ hP hD hS hl
    unfold f_Y0_discard at hE
    unfold p_Y0_discard at hp
    refine lv_aload_n hx hb dX0_discard_0 rfl (lv_at hl 0 rfl) ?_
    refine lv_aload_n hx hb dX0_discard_1 rfl (lv_at hl 1 rfl) ?_
    refine va_get (D := G) (ci := 5) (v := va_re ad (grC S x1 1)) (C := RX6) (T := TX6) (N := 2) hx hb hts iX6 hown hK hP x1 (at_5 (k_x1.e hZ)) rfl 1 (by decide) (hw (.fieldLink RX0 87 "MotionFloor$Place" "pile" "LMotionFloor$Pile;") (List.mem_of_getElem? (i := 0) rfl)) (fun _ h9 => h9) rfl dX0_discard_2 ?_
    obtain ⟨hy1, hp⟩ := hp
    refine cTop (r := (grC S x1 1)) hy1.1 ?_
    obtain ⟨hy2, hp⟩ := hp
    refine cGov (va_runV (As := [.ref (ad ((grC S x1 1).getD 0))]) (rest := []) ⟨hx, hb, hml, hown, hts⟩ (c_Y0_release l G K ad S x0 ((grC S x1 1).getD 0) _) (cwV 1 hts (wGV t_ (mw (.methodLink RX0 115 yX0_release) (List.mem_of_getElem? (i := 1) rfl)) (mw (.instanceMethod yX0_release) (List.mem_of_getElem? (i := 2) rfl)) (mw (.selects RX0 yX0_release yX0_release) (List.mem_of_getElem? (i := 3) rfl)) (mw (.initialized RX0) (List.mem_of_getElem? (i := 4) rfl)) j_Y0_release) rfl rfl rfl (by decide +kernel) ⟨Nat.le_of_ble_eq_true rfl, Nat.le_of_ble_eq_true rfl⟩) (cPV hK hTE hP hD 0 rfl (at_0 (k_x0.e hZ)) ⟨(k_x0.e hZ), hy1.2, hy2⟩) rfl rfl hl.1 rfl (lv_room (Nat.le_of_ble_eq_true rfl)) dX0_discard_5 ⟨Nat.le_of_ble_eq_true rfl, Nat.le_of_ble_eq_true rfl⟩) hP hD hS hA (fun u3 H locs hv hP hD hS => ?_)
    obtain ⟨hv, hz⟩ := hv
    have hZ := hZ.tr hz
    rw [← hv] at hE hp
    dsimp only at hE hp
    exact B_Y0_discard_8a u3 _ _ _ hE hp hZ hP hD hS (lv_sub hl [0, 1] rfl)
  exact B_M S0 _ _ _ hX hp (eK.rf S0) hP hD hS hl
theorem gdX0_clear_16 : ckS (List.drop 16 cX0_clear.data.toList) 16 [(16, .iconst 0, 1), (17, .istore_n 1, 1), (18, .iload_n 1, 1), (19, .bipush 8, 2), (21, .if_icmp .ge 19, 3), (24, .aload_n 0, 1), (25, .aload_n 0, 1), (26, .getfield 32, 3), (29, .iload_n 1, 1), (30, .aaload, 1), (31, .invokevirtual 119, 3), (34, .iinc 1 1, 3), (37, .goto (-19), 3), (40, .return_, 1)] = true := by decide +kernel
theorem dX0_clear_16 : decode cX0_clear 16 = .ok (.iconst 0, 1) := ckS_g gdX0_clear_16 0 rfl
theorem dX0_clear_17 : decode cX0_clear 17 = .ok (.istore_n 1, 1) := ckS_g gdX0_clear_16 1 rfl
theorem dX0_clear_18 : decode cX0_clear 18 = .ok (.iload_n 1, 1) := ckS_g gdX0_clear_16 2 rfl
theorem dX0_clear_19 : decode cX0_clear 19 = .ok (.bipush 8, 2) := ckS_g gdX0_clear_16 3 rfl
theorem dX0_clear_21 : decode cX0_clear 21 = .ok (.if_icmp .ge 19, 3) := ckS_g gdX0_clear_16 4 rfl
theorem dX0_clear_24 : decode cX0_clear 24 = .ok (.aload_n 0, 1) := ckS_g gdX0_clear_16 5 rfl
theorem dX0_clear_25 : decode cX0_clear 25 = .ok (.aload_n 0, 1) := ckS_g gdX0_clear_16 6 rfl
theorem dX0_clear_26 : decode cX0_clear 26 = .ok (.getfield 32, 3) := ckS_g gdX0_clear_16 7 rfl
theorem dX0_clear_29 : decode cX0_clear 29 = .ok (.iload_n 1, 1) := ckS_g gdX0_clear_16 8 rfl
theorem dX0_clear_30 : decode cX0_clear 30 = .ok (.aaload, 1) := ckS_g gdX0_clear_16 9 rfl
theorem dX0_clear_31 : decode cX0_clear 31 = .ok (.invokevirtual 119, 3) := ckS_g gdX0_clear_16 10 rfl
theorem dX0_clear_34 : decode cX0_clear 34 = .ok (.iinc 1 1, 3) := ckS_g gdX0_clear_16 11 rfl
theorem dX0_clear_37 : decode cX0_clear 37 = .ok (.goto (-19), 3) := ckS_g gdX0_clear_16 12 rfl
theorem dX0_clear_40 : decode cX0_clear 40 = .ok (.return_, 1) := ckS_g gdX0_clear_16 13 rfl
set_option maxRecDepth 100000 in
theorem zc53 : wZ (.fieldLink RX0 32 "MotionFloor$Assembly" "desk" "[LMotionFloor$Place;") := ⟨wT1 (List.mem_of_getElem? (i := 192) (by decide +kernel)), Or.inl rfl⟩
set_option maxRecDepth 100000 in
theorem zc54 : wZ (.selects RX0 yX0_discard yX0_discard) := ⟨wT2 (List.mem_of_getElem? (i := 39) (by decide +kernel)), Or.inl rfl⟩
set_option maxRecDepth 100000 in
theorem zc55 : wZ (.instanceMethod yX0_discard) := ⟨wT2 (List.mem_of_getElem? (i := 38) (by decide +kernel)), Or.inl rfl⟩
set_option maxRecDepth 100000 in
theorem zc56 : wZ (.methodLink RX0 119 yX0_discard) := ⟨wT2 (List.mem_of_getElem? (i := 37) (by decide +kernel)), Or.inl rfl⟩
set_option maxRecDepth 100000 in
theorem zc57 : wZ (.fieldLink RX0 28 "MotionFloor$Assembly" "draft" "LMotionFloor$Place;") := ⟨wT1 (List.mem_of_getElem? (i := 187) (by decide +kernel)), Or.inl rfl⟩
set_option maxRecDepth 100000 in
theorem zc58 : wZ (.fieldLink RX0 21 "MotionFloor$Assembly" "pending" "LMotionFloor$Pile;") := ⟨wT1 (List.mem_of_getElem? (i := 182) (by decide +kernel)), Or.inl rfl⟩
set_option maxRecDepth 100000 in
theorem zc59 : wZ (.code yX0_clear cX0_clear 2 none) := ⟨wT2 (List.mem_of_getElem? (i := 24) rfl), Or.inl rfl⟩
def b_Y0_clear_34a (S : Cst) (x0 : Nat) (x1 : Int32) : (Int32 × Cst) ⊕ (Cst × Int32) := Sum.inr (S, (x1 + 1))
def q_Y0_clear_34a (S : Cst) (x0 : Nat) (x1 : Int32) : Prop := True
def st_Y0_clear_18 (S : Cst) (x0 : Nat) (x1 : Int32) : (Int32 × Cst) ⊕ (Cst × Int32) := if 8 ≤ x1 then Sum.inl ((0, S)) else (b_Y0_clear_34a ((f_Y0_discard S x0 ((grC S ((grC S x0 3).getD 0) x1.toNatClampNeg).getD 0)).2) x0 x1)
def ps_Y0_clear_18 (S : Cst) (x0 : Nat) (x1 : Int32) : Prop := (if 8 ≤ x1 then True else (iR S (grC S x0 3) 24) ∧ (vp_in x1 (lnC S ((grC S x0 3).getD 0))) ∧ (iR S (grC S ((grC S x0 3).getD 0) x1.toNatClampNeg) 5) ∧ (p_Y0_discard S x0 ((grC S ((grC S x0 3).getD 0) x1.toNatClampNeg).getD 0)) ∧ (q_Y0_clear_34a ((f_Y0_discard S x0 ((grC S ((grC S x0 3).getD 0) x1.toNatClampNeg).getD 0)).2) x0 x1))
def lp_Y0_clear_18 (x0 : Nat) : Nat → Cst → Int32 → Int32 × Cst
  | 0, S, _ => (0, S)
  | n + 1, S, x1 => match st_Y0_clear_18 S x0 x1 with
    | Sum.inl r => r
    | Sum.inr q => lp_Y0_clear_18 x0 n q.1 q.2
def lq_Y0_clear_18 (x0 : Nat) : Nat → Cst → Int32 → Prop
  | 0, _, _ => False
  | n + 1, S, x1 => ps_Y0_clear_18 S x0 x1 ∧ (match st_Y0_clear_18 S x0 x1 with
    | Sum.inl _ => True
    | Sum.inr q => lq_Y0_clear_18 x0 n q.1 q.2)
def b_Y0_clear_16a (S : Cst) (x0 : Nat)  : Int32 × Cst := (lp_Y0_clear_18 x0 100000 S 0)
def q_Y0_clear_16a (S : Cst) (x0 : Nat)  : Prop := (lq_Y0_clear_18 x0 100000 S 0)
def b_Y0_clear_8a (S : Cst) (x0 : Nat)  : Int32 × Cst := (b_Y0_clear_16a ((f_Y0_discard S x0 ((grC S x0 2).getD 0)).2) x0)
def q_Y0_clear_8a (S : Cst) (x0 : Nat)  : Prop := (iR S (grC S x0 2) 5) ∧ (p_Y0_discard S x0 ((grC S x0 2).getD 0)) ∧ (q_Y0_clear_16a ((f_Y0_discard S x0 ((grC S x0 2).getD 0)).2) x0)
def f_Y0_clear (S : Cst) (x0 : Nat) : Int32 × Cst := (b_Y0_clear_8a ((f_Y0_release S x0 ((grC S x0 1).getD 0)).2) x0)
def p_Y0_clear (S : Cst) (x0 : Nat) : Prop := (iR S (grC S x0 1) 4) ∧ (p_Y0_release S x0 ((grC S x0 1).getD 0)) ∧ (q_Y0_clear_8a ((f_Y0_release S x0 ((grC S x0 1).getD 0)).2) x0)
def e_Y0_clear : List Cond := [.fieldLink RX0 21 "MotionFloor$Assembly" "pending" "LMotionFloor$Pile;", .methodLink RX0 115 yX0_release, .instanceMethod yX0_release, .selects RX0 yX0_release yX0_release, .initialized RX0, .fieldLink RX0 28 "MotionFloor$Assembly" "draft" "LMotionFloor$Place;", .methodLink RX0 119 yX0_discard, .instanceMethod yX0_discard, .selects RX0 yX0_discard yX0_discard, .fieldLink RX0 32 "MotionFloor$Assembly" "desk" "[LMotionFloor$Place;"]
def v_Y0_clear : List Cond := .code yX0_clear cX0_clear 2 none :: (e_Y0_clear ++ (wsX00 ++ (v_Y0_release ++ (v_Y0_discard ++ []))))
theorem te_Y0_clear : GoodIn lw_tbl e_Y0_clear := wGc zc58 (wGc zc50 (wGc zc49 (wGc zc48 (wGc zc39 (wGc zc57 (wGc zc56 (wGc zc55 (wGc zc54 (wGc zc53 (wG0))))))))))
theorem t_Y0_clear : GoodIn lw_tbl v_Y0_clear := wGc zc59 (wGa te_Y0_clear (wGa zcX0 (wGa t_Y0_release (wGa t_Y0_discard (wG0)))))
set_option maxHeartbeats 4000000 in
set_option maxRecDepth 100000 in
theorem c_Y0_clear (l : Launch) (G : va_G) (K : Nat → ClassId) (ad : Nat → Nat) (S0 : Cst) (x0 : Nat)  (sz : Nat) : Met l yX0_clear v_Y0_clear ({ frames := 4, cells := 0, slots := 0, locals := 86 }) (va_Pc [.ref (ad x0)] (cSt G K ad sz S0 (iK S0 x0 0 ∧ p_Y0_clear S0 x0))) (va_Qv (fun u : Cst => (0, u) = f_Y0_clear S0 x0 ∧ eK S0 u) (cBt G K ad (va_A (wsC K ad S0) sz)) (va_A (wsC K ad S0) sz)) 0 0 (va_A (wsC K ad S0) sz) := by
  refine Met.ofW (cc := cX0_clear) (maxL := 2) (ret := none) (by decide) rfl ?_
  intro p e s m args below meth c s₁ B hml hv
  obtain ⟨rfl, ⟨hsz, hP, hK, hD0, hTE⟩, hp⟩ := hv
  obtain ⟨k_x0, hp⟩ := hp
  have hx := B.exec
  have hb := B.bytes
  have hr := B.returns
  have hts := atoms_spec (ws := v_Y0_clear) B.pre
  have t_ := t_Y0_clear
  have mw : ∀ w ∈ e_Y0_clear, w ∈ v_Y0_clear := fun w h => List.mem_cons_of_mem _ (List.mem_append_left _ h)
  have hw := fun w (h : w ∈ e_Y0_clear) => hts w (mw w h)
  have iX0 : ∀ w ∈ wsX00, w ∈ v_Y0_clear := fun w h => List.mem_cons_of_mem _ (List.mem_append_right _ (List.mem_append_left _ h))
  have j_Y0_release : ∀ w ∈ v_Y0_release, w ∈ v_Y0_clear := fun w h => List.mem_cons_of_mem _ (List.mem_append_right _ (List.mem_append_right _ (List.mem_append_left _ h)))
  have j_Y0_discard : ∀ w ∈ v_Y0_discard, w ∈ v_Y0_clear := fun w h => List.mem_cons_of_mem _ (List.mem_append_right _ (List.mem_append_right _ (List.mem_append_right _ (List.mem_append_left _ h))))
  have hown : s.vm.findClass RX0 = some m.cls := findClass_of_methodNamed B.named
  have hlocks := B.notSynchronized
  subst hsz
  have hD := hD0.self (sz := s.heap.size)
  generalize hAe : va_A (wsC K ad S0) s.heap.size = A at hD ⊢
  have hA : ∀ q : Nat, s.heap.size ≤ q → A q := fun q h => by rw [← hAe]; exact Or.inr h
  have hS : va_S A s.heap s.heap [] := va_S.rf
  have hl : lv_has (lg_sl ([.ref (ad x0)]) ++ List.replicate (2 - (lg_sl ([.ref (ad x0)])).length) Slot.unset).toArray 2 [(0, .ref (ad x0))] := by
    exact lv_entry ([.ref (ad x0)]) (n := 2) (Nat.le_of_ble_eq_true rfl)
  rw [lg_entry_eq]
  generalize (lg_sl ([.ref (ad x0)]) ++ List.replicate (2 - (lg_sl ([.ref (ad x0)])).length) Slot.unset).toArray = ls_ at hl ⊢
  refine wGen (fun Q hQ => ?_)
  obtain ⟨X, hX⟩ : ∃ X, f_Y0_clear S0 x0 = X := ⟨_, rfl⟩
  have L_18 : ∀ (n : Nat) (S : Cst) (x1 : Int32) (H : Heap) (locs : List Loc) (ls_ : Array Slot), lp_Y0_clear_18 x0 n S x1 = X → lq_Y0_clear_18 x0 n S x1 → eK S0 S → va_P G vwCl (wsC K ad S) H → va_D A (wsC K ad S) → va_S A s.heap H locs → lv_has ls_ 2 [(0, .ref (ad x0)), (1, .int x1)] → W p l e ({ frames := 4, cells := 0, slots := 0, locals := 86 } : Room) s m #[Value.ref (ad x0)] below meth c H locs 0 0 Q (F0 m 18 ls_ []) := by
    intro n1
    induction n1 with
    | zero => intro S x1 H locs ls_ hE hp; exact False.elim hp
    | succ n1 ih1 =>
      intro S x1 H locs ls_ hO1 hp hZ hP hD hS hl
      rw [lp_Y0_clear_18] at hO1
      rw [lq_Y0_clear_18] at hp
      obtain ⟨hp, hq1⟩ := hp
      generalize hE : st_Y0_clear_18 S x0 x1 = Y1 at hO1 hq1
      unfold st_Y0_clear_18 at hE
      unfold ps_Y0_clear_18 at hp
      have B_Y0_clear_34a : ∀ (S : Cst) (x1 : Int32) (H : Heap) (locs : List Loc) (ls_ : Array Slot), b_Y0_clear_34a S x0 x1 = Y1 → q_Y0_clear_34a S x0 x1 → eK S0 S → va_P G vwCl (wsC K ad S) H → va_D A (wsC K ad S) → va_S A s.heap H locs → lv_has ls_ 2 [(0, .ref (ad x0)), (1, .int x1)] → W p l e ({ frames := 4, cells := 0, slots := 0, locals := 86 } : Room) s m #[Value.ref (ad x0)] below meth c H locs 0 0 Q (F0 m 34 ls_ []) := by
        intro S x1 H locs ls_ hE hp hZ hP hD hS hl
        unfold b_Y0_clear_34a at hE
        unfold q_Y0_clear_34a at hp
        refine lv_iinc (i := 1) (v := (x1 + 1)) (lv' := [(1, .int (x1 + 1)), (0, .ref (ad x0))]) hx hb dX0_clear_34 hl (k := 1) rfl rfl (by decide) rfl (fun ls_ hl => ?_)
        refine lv_goto (tgt := 18) hx hb dX0_clear_37 (by decide) ?_
        subst hE
        dsimp only at hO1 hq1
        exact ih1 S (x1 + 1) _ _ _ hO1 hq1 hZ hP hD hS (lv_sub hl [1, 0] rfl)
      refine lv_iload_n hx hb dX0_clear_18 rfl (lv_at hl 1 rfl) ?_
      refine lv_bipush (v := 8) hx hb dX0_clear_19 (by decide) ?_
      refine lv_icmp_ge (tgt := 40) hx hb dX0_clear_21 (by decide) (fun c9 => ?_) (fun c9 => ?_)
      · rw [if_pos c9] at hE hp
        subst hE
        have hE := hO1
        dsimp only at hE
        subst hQ
        exact W.vret hx hb hr (fun t ht hW => ⟨⟨S, rfl, ⟨hE.trans hX.symm, hZ⟩, by rw [ht]; exact hP, hD⟩, hS.F ht⟩) hS.2.2 dX0_clear_40
      · rw [if_neg c9] at hE hp
        refine lv_aload_n hx hb dX0_clear_24 rfl (lv_at hl 0 rfl) ?_
        refine lv_aload_n hx hb dX0_clear_25 rfl (lv_at hl 0 rfl) ?_
        refine va_get (D := G) (ci := 0) (v := va_re ad (grC S x0 3)) (C := RX0) (T := TX0) (N := 11) hx hb hts iX0 hown hK hP x0 (at_0 (k_x0.e hZ)) rfl 3 (by decide) (hw (.fieldLink RX0 32 "MotionFloor$Assembly" "desk" "[LMotionFloor$Place;") (List.mem_of_getElem? (i := 9) rfl)) (fun _ h9 => h9) rfl dX0_clear_26 ?_
        refine lv_iload_n hx hb dX0_clear_29 rfl (lv_at hl 1 rfl) ?_
        obtain ⟨hy10, hp⟩ := hp
        refine cTop2 (r := (grC S x0 3)) hy10.1 ?_
        obtain ⟨hy11, hp⟩ := hp
        refine cAald hx hb hK hP ((grC S x0 3).getD 0) 4 (at_24 hy10.2) rfl hy11 dX0_clear_30 ?_
        obtain ⟨hy12, hp⟩ := hp
        refine cTop (r := (grC S ((grC S x0 3).getD 0) x1.toNatClampNeg)) hy12.1 ?_
        obtain ⟨hy13, hp⟩ := hp
        refine cGov (va_runV (As := [.ref (ad ((grC S ((grC S x0 3).getD 0) x1.toNatClampNeg).getD 0))]) (rest := []) ⟨hx, hb, hml, hown, hts⟩ (c_Y0_discard l G K ad S x0 ((grC S ((grC S x0 3).getD 0) x1.toNatClampNeg).getD 0) _) (cwV 1 hts (wGV t_ (mw (.methodLink RX0 119 yX0_discard) (List.mem_of_getElem? (i := 6) rfl)) (mw (.instanceMethod yX0_discard) (List.mem_of_getElem? (i := 7) rfl)) (mw (.selects RX0 yX0_discard yX0_discard) (List.mem_of_getElem? (i := 8) rfl)) (mw (.initialized RX0) (List.mem_of_getElem? (i := 4) rfl)) j_Y0_discard) rfl rfl rfl (by decide +kernel) ⟨Nat.le_of_ble_eq_true rfl, Nat.le_of_ble_eq_true rfl⟩) (cPV hK hTE hP hD 0 rfl (at_0 (k_x0.e hZ)) ⟨(k_x0.e hZ), hy12.2, hy13⟩) rfl rfl hl.1 rfl (lv_room (Nat.le_of_ble_eq_true rfl)) dX0_clear_31 ⟨Nat.le_of_ble_eq_true rfl, Nat.le_of_ble_eq_true rfl⟩) hP hD hS hA (fun u14 H locs hv hP hD hS => ?_)
        obtain ⟨hv, hz⟩ := hv
        have hZ := hZ.tr hz
        rw [← hv] at hE hp
        dsimp only at hE hp
        exact B_Y0_clear_34a u14 x1 _ _ _ hE hp hZ hP hD hS (lv_sub hl [0, 1] rfl)
  have B_Y0_clear_16a : ∀ (S : Cst)  (H : Heap) (locs : List Loc) (ls_ : Array Slot), b_Y0_clear_16a S x0 = X → q_Y0_clear_16a S x0 → eK S0 S → va_P G vwCl (wsC K ad S) H → va_D A (wsC K ad S) → va_S A s.heap H locs → lv_has ls_ 2 [(0, .ref (ad x0))] → W p l e ({ frames := 4, cells := 0, slots := 0, locals := 86 } : Room) s m #[Value.ref (ad x0)] below meth c H locs 0 0 Q (F0 m 16 ls_ []) := by
    intro S H locs ls_ hE hp hZ hP hD hS hl
    unfold b_Y0_clear_16a at hE
    unfold q_Y0_clear_16a at hp
    refine lv_iconst (v := 0) hx hb dX0_clear_16 (by decide) ?_
    refine lv_istore_n (i := 1) (lv' := [(1, .int 0), (0, .ref (ad x0))]) hx hb dX0_clear_17 rfl hl (by decide) rfl (fun ls_ hl => ?_)
    exact L_18 100000 S 0 _ _ _ hE hp hZ hP hD hS (lv_sub hl [1, 0] rfl)
  have B_Y0_clear_8a : ∀ (S : Cst)  (H : Heap) (locs : List Loc) (ls_ : Array Slot), b_Y0_clear_8a S x0 = X → q_Y0_clear_8a S x0 → eK S0 S → va_P G vwCl (wsC K ad S) H → va_D A (wsC K ad S) → va_S A s.heap H locs → lv_has ls_ 2 [(0, .ref (ad x0))] → W p l e ({ frames := 4, cells := 0, slots := 0, locals := 86 } : Room) s m #[Value.ref (ad x0)] below meth c H locs 0 0 Q (F0 m 8 ls_ []) := by
    intro S H locs ls_ hE hp hZ hP hD hS hl
    unfold b_Y0_clear_8a at hE
    unfold q_Y0_clear_8a at hp
    refine lv_aload_n hx hb dX0_clear_8 rfl (lv_at hl 0 rfl) ?_
    refine lv_aload_n hx hb dX0_clear_9 rfl (lv_at hl 0 rfl) ?_
    refine va_get (D := G) (ci := 0) (v := va_re ad (grC S x0 2)) (C := RX0) (T := TX0) (N := 11) hx hb hts iX0 hown hK hP x0 (at_0 (k_x0.e hZ)) rfl 2 (by decide) (hw (.fieldLink RX0 28 "MotionFloor$Assembly" "draft" "LMotionFloor$Place;") (List.mem_of_getElem? (i := 5) rfl)) (fun _ h9 => h9) rfl dX0_clear_10 ?_
    obtain ⟨hy5, hp⟩ := hp
    refine cTop (r := (grC S x0 2)) hy5.1 ?_
    obtain ⟨hy6, hp⟩ := hp
    refine cGov (va_runV (As := [.ref (ad ((grC S x0 2).getD 0))]) (rest := []) ⟨hx, hb, hml, hown, hts⟩ (c_Y0_discard l G K ad S x0 ((grC S x0 2).getD 0) _) (cwV 1 hts (wGV t_ (mw (.methodLink RX0 119 yX0_discard) (List.mem_of_getElem? (i := 6) rfl)) (mw (.instanceMethod yX0_discard) (List.mem_of_getElem? (i := 7) rfl)) (mw (.selects RX0 yX0_discard yX0_discard) (List.mem_of_getElem? (i := 8) rfl)) (mw (.initialized RX0) (List.mem_of_getElem? (i := 4) rfl)) j_Y0_discard) rfl rfl rfl (by decide +kernel) ⟨Nat.le_of_ble_eq_true rfl, Nat.le_of_ble_eq_true rfl⟩) (cPV hK hTE hP hD 0 rfl (at_0 (k_x0.e hZ)) ⟨(k_x0.e hZ), hy5.2, hy6⟩) rfl rfl hl.1 rfl (lv_room (Nat.le_of_ble_eq_true rfl)) dX0_clear_13 ⟨Nat.le_of_ble_eq_true rfl, Nat.le_of_ble_eq_true rfl⟩) hP hD hS hA (fun u7 H locs hv hP hD hS => ?_)
    obtain ⟨hv, hz⟩ := hv
    have hZ := hZ.tr hz
    rw [← hv] at hE hp
    dsimp only at hE hp
    exact B_Y0_clear_16a u7 _ _ _ hE hp hZ hP hD hS (lv_sub hl [0] rfl)
  have B_M : ∀ (S : Cst) (H : Heap) (locs : List Loc) (ls_ : Array Slot), f_Y0_clear S x0 = X → p_Y0_clear S x0 → eK S0 S → va_P G vwCl (wsC K ad S) H → va_D A (wsC K ad S) → va_S A s.heap H locs → lv_has ls_ 2 [(0, .ref (ad x0))] → W p l e ({ frames := 4, cells := 0, slots := 0, locals := 86 } : Room) s m #[Value.ref (ad x0)] below meth c H locs 0 0 Q (F0 m 0 ls_ []) := by
    intro S H locs ls_ hE hp hZ hP hD hS hl
    unfold f_Y0_clear at hE
    unfold p_Y0_clear at hp
    refine lv_aload_n hx hb dX0_clear_0 rfl (lv_at hl 0 rfl) ?_
    refine lv_aload_n hx hb dX0_clear_1 rfl (lv_at hl 0 rfl) ?_
    refine va_get (D := G) (ci := 0) (v := va_re ad (grC S x0 1)) (C := RX0) (T := TX0) (N := 11) hx hb hts iX0 hown hK hP x0 (at_0 (k_x0.e hZ)) rfl 1 (by decide) (hw (.fieldLink RX0 21 "MotionFloor$Assembly" "pending" "LMotionFloor$Pile;") (List.mem_of_getElem? (i := 0) rfl)) (fun _ h9 => h9) rfl dX0_clear_2 ?_
    obtain ⟨hy1, hp⟩ := hp
    refine cTop (r := (grC S x0 1)) hy1.1 ?_
    obtain ⟨hy2, hp⟩ := hp
    refine cGov (va_runV (As := [.ref (ad ((grC S x0 1).getD 0))]) (rest := []) ⟨hx, hb, hml, hown, hts⟩ (c_Y0_release l G K ad S x0 ((grC S x0 1).getD 0) _) (cwV 1 hts (wGV t_ (mw (.methodLink RX0 115 yX0_release) (List.mem_of_getElem? (i := 1) rfl)) (mw (.instanceMethod yX0_release) (List.mem_of_getElem? (i := 2) rfl)) (mw (.selects RX0 yX0_release yX0_release) (List.mem_of_getElem? (i := 3) rfl)) (mw (.initialized RX0) (List.mem_of_getElem? (i := 4) rfl)) j_Y0_release) rfl rfl rfl (by decide +kernel) ⟨Nat.le_of_ble_eq_true rfl, Nat.le_of_ble_eq_true rfl⟩) (cPV hK hTE hP hD 0 rfl (at_0 (k_x0.e hZ)) ⟨(k_x0.e hZ), hy1.2, hy2⟩) rfl rfl hl.1 rfl (lv_room (Nat.le_of_ble_eq_true rfl)) dX0_clear_5 ⟨Nat.le_of_ble_eq_true rfl, Nat.le_of_ble_eq_true rfl⟩) hP hD hS hA (fun u3 H locs hv hP hD hS => ?_)
    obtain ⟨hv, hz⟩ := hv
    have hZ := hZ.tr hz
    rw [← hv] at hE hp
    dsimp only at hE hp
    exact B_Y0_clear_8a u3 _ _ _ hE hp hZ hP hD hS (lv_sub hl [0] rfl)
  exact B_M S0 _ _ _ hX hp (eK.rf S0) hP hD hS hl
theorem gdX0_begin_4 : ckS (List.drop 4 cX0_begin.data.toList) 4 [(4, .aload_n 0, 1), (5, .getfield 12, 3), (8, .iload_n 1, 1), (9, .invokevirtual 55, 3)] = true := by decide +kernel
theorem dX0_begin_4 : decode cX0_begin 4 = .ok (.aload_n 0, 1) := ckS_g gdX0_begin_4 0 rfl
theorem dX0_begin_5 : decode cX0_begin 5 = .ok (.getfield 12, 3) := ckS_g gdX0_begin_4 1 rfl
theorem dX0_begin_8 : decode cX0_begin 8 = .ok (.iload_n 1, 1) := ckS_g gdX0_begin_4 2 rfl
theorem dX0_begin_9 : decode cX0_begin 9 = .ok (.invokevirtual 55, 3) := ckS_g gdX0_begin_4 3 rfl
theorem gdX2_begin_0 : ckS (List.drop 0 cX2_begin.data.toList) 0 [(0, .aload_n 0, 1), (1, .iload_n 1, 1), (2, .putfield 19, 3), (5, .aload_n 0, 1), (6, .iconst 0, 1), (7, .putfield 23, 3), (10, .aload_n 0, 1), (11, .iconst 0, 1), (12, .putfield 26, 3), (15, .aload_n 0, 1), (16, .iconst (-1), 1), (17, .putfield 29, 3), (20, .aload_n 0, 1), (21, .invokevirtual 32, 3)] = true := by decide +kernel
theorem dX2_begin_0 : decode cX2_begin 0 = .ok (.aload_n 0, 1) := ckS_g gdX2_begin_0 0 rfl
theorem dX2_begin_1 : decode cX2_begin 1 = .ok (.iload_n 1, 1) := ckS_g gdX2_begin_0 1 rfl
theorem dX2_begin_2 : decode cX2_begin 2 = .ok (.putfield 19, 3) := ckS_g gdX2_begin_0 2 rfl
theorem dX2_begin_5 : decode cX2_begin 5 = .ok (.aload_n 0, 1) := ckS_g gdX2_begin_0 3 rfl
theorem dX2_begin_6 : decode cX2_begin 6 = .ok (.iconst 0, 1) := ckS_g gdX2_begin_0 4 rfl
theorem dX2_begin_7 : decode cX2_begin 7 = .ok (.putfield 23, 3) := ckS_g gdX2_begin_0 5 rfl
theorem dX2_begin_10 : decode cX2_begin 10 = .ok (.aload_n 0, 1) := ckS_g gdX2_begin_0 6 rfl
theorem dX2_begin_11 : decode cX2_begin 11 = .ok (.iconst 0, 1) := ckS_g gdX2_begin_0 7 rfl
theorem dX2_begin_12 : decode cX2_begin 12 = .ok (.putfield 26, 3) := ckS_g gdX2_begin_0 8 rfl
theorem dX2_begin_15 : decode cX2_begin 15 = .ok (.aload_n 0, 1) := ckS_g gdX2_begin_0 9 rfl
theorem dX2_begin_16 : decode cX2_begin 16 = .ok (.iconst (-1), 1) := ckS_g gdX2_begin_0 10 rfl
theorem dX2_begin_17 : decode cX2_begin 17 = .ok (.putfield 29, 3) := ckS_g gdX2_begin_0 11 rfl
theorem dX2_begin_20 : decode cX2_begin 20 = .ok (.aload_n 0, 1) := ckS_g gdX2_begin_0 12 rfl
theorem dX2_begin_21 : decode cX2_begin 21 = .ok (.invokevirtual 32, 3) := ckS_g gdX2_begin_0 13 rfl
set_option maxRecDepth 100000 in
theorem zc60 : wZ (.lays "MotionFloor$House" "MotionFloor$House" "seats" "I") := ⟨wT1 (List.mem_of_getElem? (i := 59) (by decide +kernel)), Or.inl rfl⟩
set_option maxRecDepth 100000 in
theorem zc61 : wZ (.laysFinal "MotionFloor$House" "MotionFloor$House" "there" "[Z") := ⟨wT1 (List.mem_of_getElem? (i := 61) (by decide +kernel)), Or.inl rfl⟩
set_option maxRecDepth 100000 in
theorem zc62 : wZ (.lays "MotionFloor$House" "MotionFloor$House" "present" "I") := ⟨wT1 (List.mem_of_getElem? (i := 63) (by decide +kernel)), Or.inl rfl⟩
set_option maxRecDepth 100000 in
theorem zc63 : wZ (.lays "MotionFloor$House" "MotionFloor$House" "chair" "I") := ⟨wT1 (List.mem_of_getElem? (i := 65) (by decide +kernel)), Or.inl rfl⟩
set_option maxRecDepth 100000 in
theorem zc64 : wZ (.lays "MotionFloor$House" "MotionFloor$House" "quorum" "I") := ⟨wT1 (List.mem_of_getElem? (i := 67) (by decide +kernel)), Or.inl rfl⟩
set_option maxRecDepth 100000 in
theorem zc65 : wZ (.lays "MotionFloor$House" "MotionFloor$House" "limit" "I") := ⟨wT1 (List.mem_of_getElem? (i := 69) (by decide +kernel)), Or.inl rfl⟩
set_option maxRecDepth 100000 in
theorem zc66 : wZ (.lays "MotionFloor$House" "MotionFloor$House" "speaker" "I") := ⟨wT1 (List.mem_of_getElem? (i := 71) (by decide +kernel)), Or.inl rfl⟩
set_option maxRecDepth 100000 in
theorem zc67 : wZ (.laysFinal "MotionFloor$House" "MotionFloor$House" "majorities" "[I") := ⟨wT1 (List.mem_of_getElem? (i := 73) (by decide +kernel)), Or.inl rfl⟩
set_option maxRecDepth 100000 in
theorem zc68 : wZ (.fieldLink RX2 44 "MotionFloor$House" "speaker" "I") := ⟨wT1 (List.mem_of_getElem? (i := 55) (by decide +kernel)), Or.inl rfl⟩
set_option maxRecDepth 100000 in
theorem zc69 : wZ (.fieldLink RX2 41 "MotionFloor$House" "present" "I") := ⟨wT1 (List.mem_of_getElem? (i := 40) (by decide +kernel)), Or.inl rfl⟩
set_option maxRecDepth 100000 in
theorem zc70 : wZ (.fieldLink RX2 9 "MotionFloor$House" "there" "[Z") := ⟨wT1 (List.mem_of_getElem? (i := 39) (by decide +kernel)), Or.inl rfl⟩
set_option maxRecDepth 100000 in
theorem zc71 : wZ (.code yX2_empty cX2_empty 2 none) := ⟨wT1 (List.mem_of_getElem? (i := 173) rfl), Or.inl rfl⟩
def st_Y2_empty_2 (S : Cst) (x0 : Nat) (x1 : Int32) : (Int32 × Cst) ⊕ (Cst × Int32) := if (Int32.ofNat (lnC S ((grC S x0 1).getD 0))) ≤ x1 then Sum.inl ((0, (siC (siC S x0 2 (0 : Int32)) x0 6 ((-1) : Int32)))) else Sum.inr ((siC S ((grC S x0 1).getD 0) x1.toNatClampNeg (vp_nar .boolean (0 : Int32))), (x1 + 1))
def ps_Y2_empty_2 (S : Cst) (x0 : Nat) (x1 : Int32) : Prop := (iR S (grC S x0 1) 21) ∧ (if (Int32.ofNat (lnC S ((grC S x0 1).getD 0))) ≤ x1 then True else (iR S (grC S x0 1) 21) ∧ (vp_in x1 (lnC S ((grC S x0 1).getD 0))) ∧ True)
def lp_Y2_empty_2 (x0 : Nat) : Nat → Cst → Int32 → Int32 × Cst
  | 0, S, _ => (0, S)
  | n + 1, S, x1 => match st_Y2_empty_2 S x0 x1 with
    | Sum.inl r => r
    | Sum.inr q => lp_Y2_empty_2 x0 n q.1 q.2
def lq_Y2_empty_2 (x0 : Nat) : Nat → Cst → Int32 → Prop
  | 0, _, _ => False
  | n + 1, S, x1 => ps_Y2_empty_2 S x0 x1 ∧ (match st_Y2_empty_2 S x0 x1 with
    | Sum.inl _ => True
    | Sum.inr q => lq_Y2_empty_2 x0 n q.1 q.2)
def f_Y2_empty (S : Cst) (x0 : Nat) : Int32 × Cst := (lp_Y2_empty_2 x0 100000 S 0)
def p_Y2_empty (S : Cst) (x0 : Nat) : Prop := (lq_Y2_empty_2 x0 100000 S 0)
def e_Y2_empty : List Cond := [.fieldLink RX2 9 "MotionFloor$House" "there" "[Z", .fieldLink RX2 41 "MotionFloor$House" "present" "I", .fieldLink RX2 44 "MotionFloor$House" "speaker" "I"]
def v_Y2_empty : List Cond := .code yX2_empty cX2_empty 2 none :: (e_Y2_empty ++ (wsX20 ++ []))
theorem te_Y2_empty : GoodIn lw_tbl e_Y2_empty := wGc zc70 (wGc zc69 (wGc zc68 (wG0)))
theorem t_Y2_empty : GoodIn lw_tbl v_Y2_empty := wGc zc71 (wGa te_Y2_empty (wGa zcX2 (wG0)))
set_option maxHeartbeats 4000000 in
set_option maxRecDepth 100000 in
theorem c_Y2_empty (l : Launch) (G : va_G) (K : Nat → ClassId) (ad : Nat → Nat) (S0 : Cst) (x0 : Nat)  (sz : Nat) : Met l yX2_empty v_Y2_empty ({ frames := 0, cells := 0, slots := 0, locals := 0 }) (va_Pc [.ref (ad x0)] (cSt G K ad sz S0 (iK S0 x0 1 ∧ p_Y2_empty S0 x0))) (va_Qv (fun u : Cst => (0, u) = f_Y2_empty S0 x0 ∧ eK S0 u) (cBt G K ad (va_A (wsC K ad S0) sz)) (va_A (wsC K ad S0) sz)) 0 0 (va_A (wsC K ad S0) sz) := by
  refine Met.ofW (cc := cX2_empty) (maxL := 2) (ret := none) (by decide) rfl ?_
  intro p e s m args below meth c s₁ B hml hv
  obtain ⟨rfl, ⟨hsz, hP, hK, hD0, hTE⟩, hp⟩ := hv
  obtain ⟨k_x0, hp⟩ := hp
  have hx := B.exec
  have hb := B.bytes
  have hr := B.returns
  have hts := atoms_spec (ws := v_Y2_empty) B.pre
  have t_ := t_Y2_empty
  have mw : ∀ w ∈ e_Y2_empty, w ∈ v_Y2_empty := fun w h => List.mem_cons_of_mem _ (List.mem_append_left _ h)
  have hw := fun w (h : w ∈ e_Y2_empty) => hts w (mw w h)
  have iX2 : ∀ w ∈ wsX20, w ∈ v_Y2_empty := fun w h => List.mem_cons_of_mem _ (List.mem_append_right _ (List.mem_append_left _ h))
  have hown : s.vm.findClass RX2 = some m.cls := findClass_of_methodNamed B.named
  have hlocks := B.notSynchronized
  subst hsz
  have hD := hD0.self (sz := s.heap.size)
  generalize hAe : va_A (wsC K ad S0) s.heap.size = A at hD ⊢
  have hA : ∀ q : Nat, s.heap.size ≤ q → A q := fun q h => by rw [← hAe]; exact Or.inr h
  have hS : va_S A s.heap s.heap [] := va_S.rf
  have hl : lv_has (lg_sl ([.ref (ad x0)]) ++ List.replicate (2 - (lg_sl ([.ref (ad x0)])).length) Slot.unset).toArray 2 [(0, .ref (ad x0))] := by
    exact lv_entry ([.ref (ad x0)]) (n := 2) (Nat.le_of_ble_eq_true rfl)
  rw [lg_entry_eq]
  generalize (lg_sl ([.ref (ad x0)]) ++ List.replicate (2 - (lg_sl ([.ref (ad x0)])).length) Slot.unset).toArray = ls_ at hl ⊢
  refine wGen (fun Q hQ => ?_)
  obtain ⟨X, hX⟩ : ∃ X, f_Y2_empty S0 x0 = X := ⟨_, rfl⟩
  have L_2 : ∀ (n : Nat) (S : Cst) (x1 : Int32) (H : Heap) (locs : List Loc) (ls_ : Array Slot), lp_Y2_empty_2 x0 n S x1 = X → lq_Y2_empty_2 x0 n S x1 → eK S0 S → va_P G vwCl (wsC K ad S) H → va_D A (wsC K ad S) → va_S A s.heap H locs → lv_has ls_ 2 [(0, .ref (ad x0)), (1, .int x1)] → W p l e ({ frames := 0, cells := 0, slots := 0, locals := 0 } : Room) s m #[Value.ref (ad x0)] below meth c H locs 0 0 Q (F0 m 2 ls_ []) := by
    intro n1
    induction n1 with
    | zero => intro S x1 H locs ls_ hE hp; exact False.elim hp
    | succ n1 ih1 =>
      intro S x1 H locs ls_ hO1 hp hZ hP hD hS hl
      rw [lp_Y2_empty_2] at hO1
      rw [lq_Y2_empty_2] at hp
      obtain ⟨hp, hq1⟩ := hp
      generalize hE : st_Y2_empty_2 S x0 x1 = Y1 at hO1 hq1
      unfold st_Y2_empty_2 at hE
      unfold ps_Y2_empty_2 at hp
      refine lv_iload_n hx hb dX2_empty_2 rfl (lv_at hl 1 rfl) ?_
      refine lv_aload_n hx hb dX2_empty_3 rfl (lv_at hl 0 rfl) ?_
      refine va_get (D := G) (ci := 1) (v := va_re ad (grC S x0 1)) (C := RX2) (T := TX2) (N := 8) hx hb hts iX2 hown hK hP x0 (at_1 (k_x0.e hZ)) rfl 1 (by decide) (hw (.fieldLink RX2 9 "MotionFloor$House" "there" "[Z") (List.mem_of_getElem? (i := 0) rfl)) (fun _ h9 => h9) rfl dX2_empty_4 ?_
      obtain ⟨hy1, hp⟩ := hp
      refine cTop (r := (grC S x0 1)) hy1.1 ?_
      refine va_alen (v := (Int32.ofNat (lnC S ((grC S x0 1).getD 0)))) hx hb hK hP ((grC S x0 1).getD 0) 1 (at_21 hy1.2) rfl rfl dX2_empty_7 ?_
      refine lv_icmp_ge (tgt := 24) hx hb dX2_empty_8 (by decide) (fun c2 => ?_) (fun c2 => ?_)
      · rw [if_pos c2] at hE hp
        subst hE
        have hE := hO1
        dsimp only at hE
        refine lv_aload_n hx hb dX2_empty_24 rfl (lv_at hl 0 rfl) ?_
        refine lv_iconst (v := 0) hx hb dX2_empty_25 (by decide) ?_
        refine va_put (D := G) (ci := 1) (v := .int 0) (ty := .int) (C := RX2) (T := TX2) (N := 8) hx hb hts iX2 tyX2 tyX2_ok nmX2 hown hK hP hD hS x0 (at_1 (k_x0.e hZ)) rfl 2 (by decide) (hw (.fieldLink RX2 41 "MotionFloor$House" "present" "I") (List.mem_of_getElem? (i := 1) rfl)) (fun _ h9 => h9) rfl (by decide +kernel) rfl rfl (Nat.le_of_ble_eq_true rfl) dX2_empty_26 (fun H locs hP hD hS => ?_)
        rw [st_1_2 (k_x0.e hZ)] at hP hD
        have hZ := hZ.tr (eK.si S x0 2 (0 : Int32))
        refine lv_aload_n hx hb dX2_empty_29 rfl (lv_at hl 0 rfl) ?_
        refine lv_iconst (v := (-1)) hx hb dX2_empty_30 (by decide) ?_
        refine va_put (D := G) (ci := 1) (v := .int (-1)) (ty := .int) (C := RX2) (T := TX2) (N := 8) hx hb hts iX2 tyX2 tyX2_ok nmX2 hown hK hP hD hS x0 (at_1 (k_x0.e hZ)) rfl 6 (by decide) (hw (.fieldLink RX2 44 "MotionFloor$House" "speaker" "I") (List.mem_of_getElem? (i := 2) rfl)) (fun _ h9 => h9) rfl (by decide +kernel) rfl rfl (Nat.le_of_ble_eq_true rfl) dX2_empty_31 (fun H locs hP hD hS => ?_)
        rw [st_1_6 (k_x0.e hZ)] at hP hD
        have hZ := hZ.tr (eK.si (siC S x0 2 (0 : Int32)) x0 6 ((-1) : Int32))
        subst hQ
        exact W.vret hx hb hr (fun t ht hW => ⟨⟨(siC (siC S x0 2 (0 : Int32)) x0 6 ((-1) : Int32)), rfl, ⟨hE.trans hX.symm, hZ⟩, by rw [ht]; exact hP, hD⟩, hS.F ht⟩) hS.2.2 dX2_empty_34
      · rw [if_neg c2] at hE hp
        refine lv_aload_n hx hb dX2_empty_11 rfl (lv_at hl 0 rfl) ?_
        refine va_get (D := G) (ci := 1) (v := va_re ad (grC S x0 1)) (C := RX2) (T := TX2) (N := 8) hx hb hts iX2 hown hK hP x0 (at_1 (k_x0.e hZ)) rfl 1 (by decide) (hw (.fieldLink RX2 9 "MotionFloor$House" "there" "[Z") (List.mem_of_getElem? (i := 0) rfl)) (fun _ h9 => h9) rfl dX2_empty_12 ?_
        refine lv_iload_n hx hb dX2_empty_15 rfl (lv_at hl 1 rfl) ?_
        refine lv_iconst (v := 0) hx hb dX2_empty_16 (by decide) ?_
        obtain ⟨hy3, hp⟩ := hp
        refine cTop3 (r := (grC S x0 1)) hy3.1 ?_
        obtain ⟨hy4, hp⟩ := hp
        refine va_zast hx hb hK hP hD hS ((grC S x0 1).getD 0) 1 (at_21 hy3.2) rfl hy4 dX2_empty_17 (fun H locs hP hD hS => ?_)
        rw [sa_21 hy3.2] at hP hD
        have hZ := hZ.tr (eK.si S ((grC S x0 1).getD 0) x1.toNatClampNeg (vp_nar .boolean (0 : Int32)))
        refine lv_iinc (i := 1) (v := (x1 + 1)) (lv' := [(1, .int (x1 + 1)), (0, .ref (ad x0))]) hx hb dX2_empty_18 hl (k := 1) rfl rfl (by decide) rfl (fun ls_ hl => ?_)
        refine lv_goto (tgt := 2) hx hb dX2_empty_21 (by decide) ?_
        subst hE
        dsimp only at hO1 hq1
        exact ih1 (siC S ((grC S x0 1).getD 0) x1.toNatClampNeg (vp_nar .boolean (0 : Int32))) (x1 + 1) _ _ _ hO1 hq1 hZ hP hD hS (lv_sub hl [1, 0] rfl)
  have B_M : ∀ (S : Cst) (H : Heap) (locs : List Loc) (ls_ : Array Slot), f_Y2_empty S x0 = X → p_Y2_empty S x0 → eK S0 S → va_P G vwCl (wsC K ad S) H → va_D A (wsC K ad S) → va_S A s.heap H locs → lv_has ls_ 2 [(0, .ref (ad x0))] → W p l e ({ frames := 0, cells := 0, slots := 0, locals := 0 } : Room) s m #[Value.ref (ad x0)] below meth c H locs 0 0 Q (F0 m 0 ls_ []) := by
    intro S H locs ls_ hE hp hZ hP hD hS hl
    unfold f_Y2_empty at hE
    unfold p_Y2_empty at hp
    refine lv_iconst (v := 0) hx hb dX2_empty_0 (by decide) ?_
    refine lv_istore_n (i := 1) (lv' := [(1, .int 0), (0, .ref (ad x0))]) hx hb dX2_empty_1 rfl hl (by decide) rfl (fun ls_ hl => ?_)
    exact L_2 100000 S 0 _ _ _ hE hp hZ hP hD hS (lv_sub hl [1, 0] rfl)
  exact B_M S0 _ _ _ hX hp (eK.rf S0) hP hD hS hl
theorem gdJ7_fill_53178_0 : ckS (List.drop 0 cJ7_fill_53178.data.toList) 0 [(0, .iconst 0, 1), (1, .istore_n 2, 1), (2, .aload_n 0, 1), (3, .arraylength, 1), (4, .istore_n 3, 1), (5, .iload_n 2, 1), (6, .iload_n 3, 1), (7, .if_icmp .ge 13, 3), (10, .aload_n 0, 1), (11, .iload_n 2, 1), (12, .iload_n 1, 1), (13, .iastore, 1), (14, .iinc 2 1, 3), (17, .goto (-12), 3), (20, .return_, 1)] = true := by decide +kernel
theorem dJ7_fill_53178_0 : decode cJ7_fill_53178 0 = .ok (.iconst 0, 1) := ckS_g gdJ7_fill_53178_0 0 rfl
theorem dJ7_fill_53178_1 : decode cJ7_fill_53178 1 = .ok (.istore_n 2, 1) := ckS_g gdJ7_fill_53178_0 1 rfl
theorem dJ7_fill_53178_2 : decode cJ7_fill_53178 2 = .ok (.aload_n 0, 1) := ckS_g gdJ7_fill_53178_0 2 rfl
theorem dJ7_fill_53178_3 : decode cJ7_fill_53178 3 = .ok (.arraylength, 1) := ckS_g gdJ7_fill_53178_0 3 rfl
theorem dJ7_fill_53178_4 : decode cJ7_fill_53178 4 = .ok (.istore_n 3, 1) := ckS_g gdJ7_fill_53178_0 4 rfl
theorem dJ7_fill_53178_5 : decode cJ7_fill_53178 5 = .ok (.iload_n 2, 1) := ckS_g gdJ7_fill_53178_0 5 rfl
theorem dJ7_fill_53178_6 : decode cJ7_fill_53178 6 = .ok (.iload_n 3, 1) := ckS_g gdJ7_fill_53178_0 6 rfl
theorem dJ7_fill_53178_7 : decode cJ7_fill_53178 7 = .ok (.if_icmp .ge 13, 3) := ckS_g gdJ7_fill_53178_0 7 rfl
theorem dJ7_fill_53178_10 : decode cJ7_fill_53178 10 = .ok (.aload_n 0, 1) := ckS_g gdJ7_fill_53178_0 8 rfl
theorem dJ7_fill_53178_11 : decode cJ7_fill_53178 11 = .ok (.iload_n 2, 1) := ckS_g gdJ7_fill_53178_0 9 rfl
theorem dJ7_fill_53178_12 : decode cJ7_fill_53178 12 = .ok (.iload_n 1, 1) := ckS_g gdJ7_fill_53178_0 10 rfl
theorem dJ7_fill_53178_13 : decode cJ7_fill_53178 13 = .ok (.iastore, 1) := ckS_g gdJ7_fill_53178_0 11 rfl
theorem dJ7_fill_53178_14 : decode cJ7_fill_53178 14 = .ok (.iinc 2 1, 3) := ckS_g gdJ7_fill_53178_0 12 rfl
theorem dJ7_fill_53178_17 : decode cJ7_fill_53178 17 = .ok (.goto (-12), 3) := ckS_g gdJ7_fill_53178_0 13 rfl
theorem dJ7_fill_53178_20 : decode cJ7_fill_53178 20 = .ok (.return_, 1) := ckS_g gdJ7_fill_53178_0 14 rfl
theorem gdX2_begin_24 : ckS (List.drop 24 cX2_begin.data.toList) 24 [(24, .aload_n 0, 1), (25, .getfield 15, 3), (28, .iconst 1, 1), (29, .invokestatic 35, 3)] = true := by decide +kernel
theorem dX2_begin_24 : decode cX2_begin 24 = .ok (.aload_n 0, 1) := ckS_g gdX2_begin_24 0 rfl
theorem dX2_begin_25 : decode cX2_begin 25 = .ok (.getfield 15, 3) := ckS_g gdX2_begin_24 1 rfl
theorem dX2_begin_28 : decode cX2_begin 28 = .ok (.iconst 1, 1) := ckS_g gdX2_begin_24 2 rfl
theorem dX2_begin_29 : decode cX2_begin 29 = .ok (.invokestatic 35, 3) := ckS_g gdX2_begin_24 3 rfl
set_option maxRecDepth 100000 in
theorem zc72 : wZ (.code yJ7_fill_53178 cJ7_fill_53178 4 none) := ⟨wT1 (List.mem_of_getElem? (i := 176) rfl), Or.inl rfl⟩
def st_K7_fill_53178_5 (S : Cst) (x0 : Nat) (x1 : Int32) (x2 : Int32) (x3 : Int32) : (Int32 × Cst) ⊕ (Cst × Int32 × Int32 × Int32) := if x3 ≤ x2 then Sum.inl ((0, S)) else Sum.inr ((siC S x0 x2.toNatClampNeg x1), x1, (x2 + 1), x3)
def ps_K7_fill_53178_5 (S : Cst) (x0 : Nat) (x1 : Int32) (x2 : Int32) (x3 : Int32) : Prop := (if x3 ≤ x2 then True else (vp_in x2 (lnC S x0)) ∧ True)
def lp_K7_fill_53178_5 (x0 : Nat) : Nat → Cst → Int32 → Int32 → Int32 → Int32 × Cst
  | 0, S, _, _, _ => (0, S)
  | n + 1, S, x1, x2, x3 => match st_K7_fill_53178_5 S x0 x1 x2 x3 with
    | Sum.inl r => r
    | Sum.inr q => lp_K7_fill_53178_5 x0 n q.1 q.2.1 q.2.2.1 q.2.2.2
def lq_K7_fill_53178_5 (x0 : Nat) : Nat → Cst → Int32 → Int32 → Int32 → Prop
  | 0, _, _, _, _ => False
  | n + 1, S, x1, x2, x3 => ps_K7_fill_53178_5 S x0 x1 x2 x3 ∧ (match st_K7_fill_53178_5 S x0 x1 x2 x3 with
    | Sum.inl _ => True
    | Sum.inr q => lq_K7_fill_53178_5 x0 n q.1 q.2.1 q.2.2.1 q.2.2.2)
def f_K7_fill_53178 (S : Cst) (x0 : Nat) (x1 : Int32) : Int32 × Cst := (lp_K7_fill_53178_5 x0 100000 S x1 0 (Int32.ofNat (lnC S x0)))
def p_K7_fill_53178 (S : Cst) (x0 : Nat) (x1 : Int32) : Prop := (lq_K7_fill_53178_5 x0 100000 S x1 0 (Int32.ofNat (lnC S x0)))
def e_K7_fill_53178 : List Cond := []
def v_K7_fill_53178 : List Cond := .code yJ7_fill_53178 cJ7_fill_53178 4 none :: (e_K7_fill_53178 ++ [])
theorem te_K7_fill_53178 : GoodIn lw_tbl e_K7_fill_53178 := wG0
theorem t_K7_fill_53178 : GoodIn lw_tbl v_K7_fill_53178 := wGc zc72 (wGa te_K7_fill_53178 (wG0))
set_option maxHeartbeats 4000000 in
set_option maxRecDepth 100000 in
theorem c_K7_fill_53178 (l : Launch) (G : va_G) (K : Nat → ClassId) (ad : Nat → Nat) (S0 : Cst) (x0 : Nat) (a1 : Int32) (sz : Nat) : Met l yJ7_fill_53178 v_K7_fill_53178 ({ frames := 0, cells := 0, slots := 0, locals := 0 }) (va_Pc [.ref (ad x0), .int a1] (cSt G K ad sz S0 (iK S0 x0 20 ∧ p_K7_fill_53178 S0 x0 a1))) (va_Qv (fun u : Cst => (0, u) = f_K7_fill_53178 S0 x0 a1 ∧ eK S0 u) (cBt G K ad (va_A (wsC K ad S0) sz)) (va_A (wsC K ad S0) sz)) 0 0 (va_A (wsC K ad S0) sz) := by
  refine Met.ofW (cc := cJ7_fill_53178) (maxL := 4) (ret := none) (by decide) rfl ?_
  intro p e s m args below meth c s₁ B hml hv
  obtain ⟨rfl, ⟨hsz, hP, hK, hD0, hTE⟩, hp⟩ := hv
  obtain ⟨k_x0, hp⟩ := hp
  have hx := B.exec
  have hb := B.bytes
  have hr := B.returns
  have hts := atoms_spec (ws := v_K7_fill_53178) B.pre
  have t_ := t_K7_fill_53178
  have mw : ∀ w ∈ e_K7_fill_53178, w ∈ v_K7_fill_53178 := fun w h => List.mem_cons_of_mem _ (List.mem_append_left _ h)
  have hw := fun w (h : w ∈ e_K7_fill_53178) => hts w (mw w h)
  have hown : s.vm.findClass RJ7 = some m.cls := findClass_of_methodNamed B.named
  have hlocks := B.notSynchronized
  subst hsz
  have hD := hD0.self (sz := s.heap.size)
  generalize hAe : va_A (wsC K ad S0) s.heap.size = A at hD ⊢
  have hA : ∀ q : Nat, s.heap.size ≤ q → A q := fun q h => by rw [← hAe]; exact Or.inr h
  have hS : va_S A s.heap s.heap [] := va_S.rf
  have hl : lv_has (lg_sl ([.ref (ad x0), .int a1]) ++ List.replicate (4 - (lg_sl ([.ref (ad x0), .int a1])).length) Slot.unset).toArray 4 [(0, .ref (ad x0)), (1, .int a1)] := by
    exact lv_entry ([.ref (ad x0), .int a1]) (n := 4) (Nat.le_of_ble_eq_true rfl)
  rw [lg_entry_eq]
  generalize (lg_sl ([.ref (ad x0), .int a1]) ++ List.replicate (4 - (lg_sl ([.ref (ad x0), .int a1])).length) Slot.unset).toArray = ls_ at hl ⊢
  refine wGen (fun Q hQ => ?_)
  obtain ⟨X, hX⟩ : ∃ X, f_K7_fill_53178 S0 x0 a1 = X := ⟨_, rfl⟩
  have L_5 : ∀ (n : Nat) (S : Cst) (x1 : Int32) (x2 : Int32) (x3 : Int32) (H : Heap) (locs : List Loc) (ls_ : Array Slot), lp_K7_fill_53178_5 x0 n S x1 x2 x3 = X → lq_K7_fill_53178_5 x0 n S x1 x2 x3 → eK S0 S → va_P G vwCl (wsC K ad S) H → va_D A (wsC K ad S) → va_S A s.heap H locs → lv_has ls_ 4 [(0, .ref (ad x0)), (1, .int x1), (2, .int x2), (3, .int x3)] → W p l e ({ frames := 0, cells := 0, slots := 0, locals := 0 } : Room) s m #[Value.ref (ad x0), Value.int a1] below meth c H locs 0 0 Q (F0 m 5 ls_ []) := by
    intro n1
    induction n1 with
    | zero => intro S x1 x2 x3 H locs ls_ hE hp; exact False.elim hp
    | succ n1 ih1 =>
      intro S x1 x2 x3 H locs ls_ hO1 hp hZ hP hD hS hl
      rw [lp_K7_fill_53178_5] at hO1
      rw [lq_K7_fill_53178_5] at hp
      obtain ⟨hp, hq1⟩ := hp
      generalize hE : st_K7_fill_53178_5 S x0 x1 x2 x3 = Y1 at hO1 hq1
      unfold st_K7_fill_53178_5 at hE
      unfold ps_K7_fill_53178_5 at hp
      refine lv_iload_n hx hb dJ7_fill_53178_5 rfl (lv_at hl 2 rfl) ?_
      refine lv_iload_n hx hb dJ7_fill_53178_6 rfl (lv_at hl 3 rfl) ?_
      refine lv_icmp_ge (tgt := 20) hx hb dJ7_fill_53178_7 (by decide) (fun c1 => ?_) (fun c1 => ?_)
      · rw [if_pos c1] at hE hp
        subst hE
        have hE := hO1
        dsimp only at hE
        subst hQ
        exact W.vret hx hb hr (fun t ht hW => ⟨⟨S, rfl, ⟨hE.trans hX.symm, hZ⟩, by rw [ht]; exact hP, hD⟩, hS.F ht⟩) hS.2.2 dJ7_fill_53178_20
      · rw [if_neg c1] at hE hp
        refine lv_aload_n hx hb dJ7_fill_53178_10 rfl (lv_at hl 0 rfl) ?_
        refine lv_iload_n hx hb dJ7_fill_53178_11 rfl (lv_at hl 2 rfl) ?_
        refine lv_iload_n hx hb dJ7_fill_53178_12 rfl (lv_at hl 1 rfl) ?_
        obtain ⟨hy2, hp⟩ := hp
        refine va_iast hx hb hK hP hD hS x0 0 (at_20 (k_x0.e hZ)) rfl hy2 dJ7_fill_53178_13 (fun H locs hP hD hS => ?_)
        rw [sa_20 (k_x0.e hZ)] at hP hD
        have hZ := hZ.tr (eK.si S x0 x2.toNatClampNeg x1)
        refine lv_iinc (i := 2) (v := (x2 + 1)) (lv' := [(2, .int (x2 + 1)), (0, .ref (ad x0)), (1, .int x1), (3, .int x3)]) hx hb dJ7_fill_53178_14 hl (k := 2) rfl rfl (by decide) rfl (fun ls_ hl => ?_)
        refine lv_goto (tgt := 5) hx hb dJ7_fill_53178_17 (by decide) ?_
        subst hE
        dsimp only at hO1 hq1
        exact ih1 (siC S x0 x2.toNatClampNeg x1) x1 (x2 + 1) x3 _ _ _ hO1 hq1 hZ hP hD hS (lv_sub hl [1, 2, 0, 3] rfl)
  have B_M : ∀ (S : Cst) (x1 : Int32) (H : Heap) (locs : List Loc) (ls_ : Array Slot), f_K7_fill_53178 S x0 x1 = X → p_K7_fill_53178 S x0 x1 → eK S0 S → va_P G vwCl (wsC K ad S) H → va_D A (wsC K ad S) → va_S A s.heap H locs → lv_has ls_ 4 [(0, .ref (ad x0)), (1, .int x1)] → W p l e ({ frames := 0, cells := 0, slots := 0, locals := 0 } : Room) s m #[Value.ref (ad x0), Value.int a1] below meth c H locs 0 0 Q (F0 m 0 ls_ []) := by
    intro S x1 H locs ls_ hE hp hZ hP hD hS hl
    unfold f_K7_fill_53178 at hE
    unfold p_K7_fill_53178 at hp
    refine lv_iconst (v := 0) hx hb dJ7_fill_53178_0 (by decide) ?_
    refine lv_istore_n (i := 2) (lv' := [(2, .int 0), (0, .ref (ad x0)), (1, .int x1)]) hx hb dJ7_fill_53178_1 rfl hl (by decide) rfl (fun ls_ hl => ?_)
    refine lv_aload_n hx hb dJ7_fill_53178_2 rfl (lv_at hl 1 rfl) ?_
    refine va_alen (v := (Int32.ofNat (lnC S x0))) hx hb hK hP x0 0 (at_20 (k_x0.e hZ)) rfl rfl dJ7_fill_53178_3 ?_
    refine lv_istore_n (i := 3) (lv' := [(3, .int (Int32.ofNat (lnC S x0))), (2, .int 0), (0, .ref (ad x0)), (1, .int x1)]) hx hb dJ7_fill_53178_4 rfl hl (by decide) rfl (fun ls_ hl => ?_)
    exact L_5 100000 S x1 0 (Int32.ofNat (lnC S x0)) _ _ _ hE hp hZ hP hD hS (lv_sub hl [2, 3, 1, 0] rfl)
  exact B_M S0 a1 _ _ _ hX hp (eK.rf S0) hP hD hS hl
theorem gdX2_begin_32 : ckS (List.drop 32 cX2_begin.data.toList) 32 [(32, .aload_n 0, 1), (33, .getfield 15, 3), (36, .bipush 6, 2), (38, .iconst 2, 1), (39, .iastore, 1), (40, .return_, 1)] = true := by decide +kernel
theorem dX2_begin_32 : decode cX2_begin 32 = .ok (.aload_n 0, 1) := ckS_g gdX2_begin_32 0 rfl
theorem dX2_begin_33 : decode cX2_begin 33 = .ok (.getfield 15, 3) := ckS_g gdX2_begin_32 1 rfl
theorem dX2_begin_36 : decode cX2_begin 36 = .ok (.bipush 6, 2) := ckS_g gdX2_begin_32 2 rfl
theorem dX2_begin_38 : decode cX2_begin 38 = .ok (.iconst 2, 1) := ckS_g gdX2_begin_32 3 rfl
theorem dX2_begin_39 : decode cX2_begin 39 = .ok (.iastore, 1) := ckS_g gdX2_begin_32 4 rfl
theorem dX2_begin_40 : decode cX2_begin 40 = .ok (.return_, 1) := ckS_g gdX2_begin_32 5 rfl
set_option maxRecDepth 100000 in
theorem zc73 : wZ (.initialized RJ7) := ⟨wT1 (List.mem_of_getElem? (i := 9) (by decide +kernel)), Or.inl rfl⟩
set_option maxRecDepth 100000 in
theorem zc74 : wZ (.static yJ7_fill_53178) := ⟨wT1 (List.mem_of_getElem? (i := 175) (by decide +kernel)), Or.inl rfl⟩
set_option maxRecDepth 100000 in
theorem zc75 : wZ (.methodLink RX2 35 yJ7_fill_53178) := ⟨wT1 (List.mem_of_getElem? (i := 174) (by decide +kernel)), Or.inl rfl⟩
set_option maxRecDepth 100000 in
theorem zc76 : wZ (.fieldLink RX2 15 "MotionFloor$House" "majorities" "[I") := ⟨wT1 (List.mem_of_getElem? (i := 58) (by decide +kernel)), Or.inl rfl⟩
set_option maxRecDepth 100000 in
theorem zc77 : wZ (.initialized RX2) := ⟨wT1 (List.mem_of_getElem? (i := 3) (by decide +kernel)), Or.inl rfl⟩
set_option maxRecDepth 100000 in
theorem zc78 : wZ (.selects RX2 yX2_empty yX2_empty) := ⟨wT1 (List.mem_of_getElem? (i := 172) (by decide +kernel)), Or.inl rfl⟩
set_option maxRecDepth 100000 in
theorem zc79 : wZ (.instanceMethod yX2_empty) := ⟨wT1 (List.mem_of_getElem? (i := 171) (by decide +kernel)), Or.inl rfl⟩
set_option maxRecDepth 100000 in
theorem zc80 : wZ (.methodLink RX2 32 yX2_empty) := ⟨wT1 (List.mem_of_getElem? (i := 170) (by decide +kernel)), Or.inl rfl⟩
set_option maxRecDepth 100000 in
theorem zc81 : wZ (.fieldLink RX2 29 "MotionFloor$House" "chair" "I") := ⟨wT1 (List.mem_of_getElem? (i := 42) (by decide +kernel)), Or.inl rfl⟩
set_option maxRecDepth 100000 in
theorem zc82 : wZ (.fieldLink RX2 26 "MotionFloor$House" "limit" "I") := ⟨wT1 (List.mem_of_getElem? (i := 49) (by decide +kernel)), Or.inl rfl⟩
set_option maxRecDepth 100000 in
theorem zc83 : wZ (.fieldLink RX2 23 "MotionFloor$House" "quorum" "I") := ⟨wT1 (List.mem_of_getElem? (i := 46) (by decide +kernel)), Or.inl rfl⟩
set_option maxRecDepth 100000 in
theorem zc84 : wZ (.fieldLink RX2 19 "MotionFloor$House" "seats" "I") := ⟨wT1 (List.mem_of_getElem? (i := 37) (by decide +kernel)), Or.inl rfl⟩
set_option maxRecDepth 100000 in
theorem zc85 : wZ (.code yX2_begin cX2_begin 2 none) := ⟨wT1 (List.mem_of_getElem? (i := 169) rfl), Or.inl rfl⟩
def b_Y2_begin_32a (S : Cst) (x0 : Nat) (x1 : Int32) : Int32 × Cst := (0, (siC S ((grC S x0 7).getD 0) (6 : Int32).toNatClampNeg (2 : Int32)))
def q_Y2_begin_32a (S : Cst) (x0 : Nat) (x1 : Int32) : Prop := (iR S (grC S x0 7) 20) ∧ (vp_in (6 : Int32) (lnC S ((grC S x0 7).getD 0))) ∧ True
def b_Y2_begin_24a (S : Cst) (x0 : Nat) (x1 : Int32) : Int32 × Cst := (b_Y2_begin_32a ((f_K7_fill_53178 S ((grC S x0 7).getD 0) (1 : Int32)).2) x0 x1)
def q_Y2_begin_24a (S : Cst) (x0 : Nat) (x1 : Int32) : Prop := (iR S (grC S x0 7) 20) ∧ (p_K7_fill_53178 S ((grC S x0 7).getD 0) (1 : Int32)) ∧ (q_Y2_begin_32a ((f_K7_fill_53178 S ((grC S x0 7).getD 0) (1 : Int32)).2) x0 x1)
def f_Y2_begin (S : Cst) (x0 : Nat) (x1 : Int32) : Int32 × Cst := (b_Y2_begin_24a ((f_Y2_empty (siC (siC (siC (siC S x0 0 x1) x0 4 (0 : Int32)) x0 5 (0 : Int32)) x0 3 ((-1) : Int32)) x0).2) x0 x1)
def p_Y2_begin (S : Cst) (x0 : Nat) (x1 : Int32) : Prop := (p_Y2_empty (siC (siC (siC (siC S x0 0 x1) x0 4 (0 : Int32)) x0 5 (0 : Int32)) x0 3 ((-1) : Int32)) x0) ∧ (q_Y2_begin_24a ((f_Y2_empty (siC (siC (siC (siC S x0 0 x1) x0 4 (0 : Int32)) x0 5 (0 : Int32)) x0 3 ((-1) : Int32)) x0).2) x0 x1)
def e_Y2_begin : List Cond := [.fieldLink RX2 19 "MotionFloor$House" "seats" "I", .fieldLink RX2 23 "MotionFloor$House" "quorum" "I", .fieldLink RX2 26 "MotionFloor$House" "limit" "I", .fieldLink RX2 29 "MotionFloor$House" "chair" "I", .methodLink RX2 32 yX2_empty, .instanceMethod yX2_empty, .selects RX2 yX2_empty yX2_empty, .initialized RX2, .fieldLink RX2 15 "MotionFloor$House" "majorities" "[I", .methodLink RX2 35 yJ7_fill_53178, .static yJ7_fill_53178, .initialized RJ7]
def v_Y2_begin : List Cond := .code yX2_begin cX2_begin 2 none :: (e_Y2_begin ++ (wsX20 ++ (v_Y2_empty ++ (v_K7_fill_53178 ++ []))))
theorem te_Y2_begin : GoodIn lw_tbl e_Y2_begin := wGc zc84 (wGc zc83 (wGc zc82 (wGc zc81 (wGc zc80 (wGc zc79 (wGc zc78 (wGc zc77 (wGc zc76 (wGc zc75 (wGc zc74 (wGc zc73 (wG0))))))))))))
theorem t_Y2_begin : GoodIn lw_tbl v_Y2_begin := wGc zc85 (wGa te_Y2_begin (wGa zcX2 (wGa t_Y2_empty (wGa t_K7_fill_53178 (wG0)))))
set_option maxHeartbeats 4000000 in
set_option maxRecDepth 100000 in
theorem c_Y2_begin (l : Launch) (G : va_G) (K : Nat → ClassId) (ad : Nat → Nat) (S0 : Cst) (x0 : Nat) (a1 : Int32) (sz : Nat) : Met l yX2_begin v_Y2_begin ({ frames := 1, cells := 0, slots := 0, locals := 23 }) (va_Pc [.ref (ad x0), .int a1] (cSt G K ad sz S0 (iK S0 x0 1 ∧ p_Y2_begin S0 x0 a1))) (va_Qv (fun u : Cst => (0, u) = f_Y2_begin S0 x0 a1 ∧ eK S0 u) (cBt G K ad (va_A (wsC K ad S0) sz)) (va_A (wsC K ad S0) sz)) 0 0 (va_A (wsC K ad S0) sz) := by
  refine Met.ofW (cc := cX2_begin) (maxL := 2) (ret := none) (by decide) rfl ?_
  intro p e s m args below meth c s₁ B hml hv
  obtain ⟨rfl, ⟨hsz, hP, hK, hD0, hTE⟩, hp⟩ := hv
  obtain ⟨k_x0, hp⟩ := hp
  have hx := B.exec
  have hb := B.bytes
  have hr := B.returns
  have hts := atoms_spec (ws := v_Y2_begin) B.pre
  have t_ := t_Y2_begin
  have mw : ∀ w ∈ e_Y2_begin, w ∈ v_Y2_begin := fun w h => List.mem_cons_of_mem _ (List.mem_append_left _ h)
  have hw := fun w (h : w ∈ e_Y2_begin) => hts w (mw w h)
  have iX2 : ∀ w ∈ wsX20, w ∈ v_Y2_begin := fun w h => List.mem_cons_of_mem _ (List.mem_append_right _ (List.mem_append_left _ h))
  have j_Y2_empty : ∀ w ∈ v_Y2_empty, w ∈ v_Y2_begin := fun w h => List.mem_cons_of_mem _ (List.mem_append_right _ (List.mem_append_right _ (List.mem_append_left _ h)))
  have j_K7_fill_53178 : ∀ w ∈ v_K7_fill_53178, w ∈ v_Y2_begin := fun w h => List.mem_cons_of_mem _ (List.mem_append_right _ (List.mem_append_right _ (List.mem_append_right _ (List.mem_append_left _ h))))
  have hown : s.vm.findClass RX2 = some m.cls := findClass_of_methodNamed B.named
  have hlocks := B.notSynchronized
  subst hsz
  have hD := hD0.self (sz := s.heap.size)
  generalize hAe : va_A (wsC K ad S0) s.heap.size = A at hD ⊢
  have hA : ∀ q : Nat, s.heap.size ≤ q → A q := fun q h => by rw [← hAe]; exact Or.inr h
  have hS : va_S A s.heap s.heap [] := va_S.rf
  have hl : lv_has (lg_sl ([.ref (ad x0), .int a1]) ++ List.replicate (2 - (lg_sl ([.ref (ad x0), .int a1])).length) Slot.unset).toArray 2 [(0, .ref (ad x0)), (1, .int a1)] := by
    exact lv_entry ([.ref (ad x0), .int a1]) (n := 2) (Nat.le_of_ble_eq_true rfl)
  rw [lg_entry_eq]
  generalize (lg_sl ([.ref (ad x0), .int a1]) ++ List.replicate (2 - (lg_sl ([.ref (ad x0), .int a1])).length) Slot.unset).toArray = ls_ at hl ⊢
  refine wGen (fun Q hQ => ?_)
  obtain ⟨X, hX⟩ : ∃ X, f_Y2_begin S0 x0 a1 = X := ⟨_, rfl⟩
  have B_Y2_begin_32a : ∀ (S : Cst) (x1 : Int32) (H : Heap) (locs : List Loc) (ls_ : Array Slot), b_Y2_begin_32a S x0 x1 = X → q_Y2_begin_32a S x0 x1 → eK S0 S → va_P G vwCl (wsC K ad S) H → va_D A (wsC K ad S) → va_S A s.heap H locs → lv_has ls_ 2 [(0, .ref (ad x0)), (1, .int x1)] → W p l e ({ frames := 1, cells := 0, slots := 0, locals := 23 } : Room) s m #[Value.ref (ad x0), Value.int a1] below meth c H locs 0 0 Q (F0 m 32 ls_ []) := by
    intro S x1 H locs ls_ hE hp hZ hP hD hS hl
    unfold b_Y2_begin_32a at hE
    unfold q_Y2_begin_32a at hp
    refine lv_aload_n hx hb dX2_begin_32 rfl (lv_at hl 0 rfl) ?_
    refine va_get (D := G) (ci := 1) (v := va_re ad (grC S x0 7)) (C := RX2) (T := TX2) (N := 8) hx hb hts iX2 hown hK hP x0 (at_1 (k_x0.e hZ)) rfl 7 (by decide) (hw (.fieldLink RX2 15 "MotionFloor$House" "majorities" "[I") (List.mem_of_getElem? (i := 8) rfl)) (fun _ h9 => h9) rfl dX2_begin_33 ?_
    refine lv_bipush (v := 6) hx hb dX2_begin_36 (by decide) ?_
    refine lv_iconst (v := 2) hx hb dX2_begin_38 (by decide) ?_
    obtain ⟨hy8, hp⟩ := hp
    refine cTop3 (r := (grC S x0 7)) hy8.1 ?_
    obtain ⟨hy9, hp⟩ := hp
    refine va_iast hx hb hK hP hD hS ((grC S x0 7).getD 0) 0 (at_20 hy8.2) rfl hy9 dX2_begin_39 (fun H locs hP hD hS => ?_)
    rw [sa_20 hy8.2] at hP hD
    have hZ := hZ.tr (eK.si S ((grC S x0 7).getD 0) (6 : Int32).toNatClampNeg (2 : Int32))
    subst hQ
    exact W.vret hx hb hr (fun t ht hW => ⟨⟨(siC S ((grC S x0 7).getD 0) (6 : Int32).toNatClampNeg (2 : Int32)), rfl, ⟨hE.trans hX.symm, hZ⟩, by rw [ht]; exact hP, hD⟩, hS.F ht⟩) hS.2.2 dX2_begin_40
  have B_Y2_begin_24a : ∀ (S : Cst) (x1 : Int32) (H : Heap) (locs : List Loc) (ls_ : Array Slot), b_Y2_begin_24a S x0 x1 = X → q_Y2_begin_24a S x0 x1 → eK S0 S → va_P G vwCl (wsC K ad S) H → va_D A (wsC K ad S) → va_S A s.heap H locs → lv_has ls_ 2 [(0, .ref (ad x0)), (1, .int x1)] → W p l e ({ frames := 1, cells := 0, slots := 0, locals := 23 } : Room) s m #[Value.ref (ad x0), Value.int a1] below meth c H locs 0 0 Q (F0 m 24 ls_ []) := by
    intro S x1 H locs ls_ hE hp hZ hP hD hS hl
    unfold b_Y2_begin_24a at hE
    unfold q_Y2_begin_24a at hp
    refine lv_aload_n hx hb dX2_begin_24 rfl (lv_at hl 0 rfl) ?_
    refine va_get (D := G) (ci := 1) (v := va_re ad (grC S x0 7)) (C := RX2) (T := TX2) (N := 8) hx hb hts iX2 hown hK hP x0 (at_1 (k_x0.e hZ)) rfl 7 (by decide) (hw (.fieldLink RX2 15 "MotionFloor$House" "majorities" "[I") (List.mem_of_getElem? (i := 8) rfl)) (fun _ h9 => h9) rfl dX2_begin_25 ?_
    refine lv_iconst (v := 1) hx hb dX2_begin_28 (by decide) ?_
    obtain ⟨hy4, hp⟩ := hp
    refine cTop2 (r := (grC S x0 7)) hy4.1 ?_
    obtain ⟨hy5, hp⟩ := hp
    refine cGov (va_runS (As := [.ref (ad ((grC S x0 7).getD 0)), .int 1]) (rest := []) ⟨hx, hb, hml, hown, hts⟩ (c_K7_fill_53178 l G K ad S ((grC S x0 7).getD 0) (1 : Int32) _) (va_cwS 2 hts (wGS t_ (mw (.methodLink RX2 35 yJ7_fill_53178) (List.mem_of_getElem? (i := 9) rfl)) (mw (.static yJ7_fill_53178) (List.mem_of_getElem? (i := 10) rfl)) (mw (.initialized RJ7) (List.mem_of_getElem? (i := 11) rfl)) j_K7_fill_53178) rfl rfl rfl (by decide +kernel) ⟨Nat.le_of_ble_eq_true rfl, Nat.le_of_ble_eq_true rfl⟩) (cPS hK hTE hP hD ⟨hy4.2, hy5⟩) rfl rfl hl.1 rfl (lv_room (Nat.le_of_ble_eq_true rfl)) dX2_begin_29 ⟨Nat.le_of_ble_eq_true rfl, Nat.le_of_ble_eq_true rfl⟩) hP hD hS hA (fun u6 H locs hv hP hD hS => ?_)
    obtain ⟨hv, hz⟩ := hv
    have hZ := hZ.tr hz
    rw [← hv] at hE hp
    dsimp only at hE hp
    exact B_Y2_begin_32a u6 x1 _ _ _ hE hp hZ hP hD hS (lv_sub hl [0, 1] rfl)
  have B_M : ∀ (S : Cst) (x1 : Int32) (H : Heap) (locs : List Loc) (ls_ : Array Slot), f_Y2_begin S x0 x1 = X → p_Y2_begin S x0 x1 → eK S0 S → va_P G vwCl (wsC K ad S) H → va_D A (wsC K ad S) → va_S A s.heap H locs → lv_has ls_ 2 [(0, .ref (ad x0)), (1, .int x1)] → W p l e ({ frames := 1, cells := 0, slots := 0, locals := 23 } : Room) s m #[Value.ref (ad x0), Value.int a1] below meth c H locs 0 0 Q (F0 m 0 ls_ []) := by
    intro S x1 H locs ls_ hE hp hZ hP hD hS hl
    unfold f_Y2_begin at hE
    unfold p_Y2_begin at hp
    refine lv_aload_n hx hb dX2_begin_0 rfl (lv_at hl 0 rfl) ?_
    refine lv_iload_n hx hb dX2_begin_1 rfl (lv_at hl 1 rfl) ?_
    refine va_put (D := G) (ci := 1) (v := .int x1) (ty := .int) (C := RX2) (T := TX2) (N := 8) hx hb hts iX2 tyX2 tyX2_ok nmX2 hown hK hP hD hS x0 (at_1 (k_x0.e hZ)) rfl 0 (by decide) (hw (.fieldLink RX2 19 "MotionFloor$House" "seats" "I") (List.mem_of_getElem? (i := 0) rfl)) (fun _ h9 => h9) rfl (by decide +kernel) rfl rfl (Nat.le_of_ble_eq_true rfl) dX2_begin_2 (fun H locs hP hD hS => ?_)
    rw [st_1_0 (k_x0.e hZ)] at hP hD
    have hZ := hZ.tr (eK.si S x0 0 x1)
    refine lv_aload_n hx hb dX2_begin_5 rfl (lv_at hl 0 rfl) ?_
    refine lv_iconst (v := 0) hx hb dX2_begin_6 (by decide) ?_
    refine va_put (D := G) (ci := 1) (v := .int 0) (ty := .int) (C := RX2) (T := TX2) (N := 8) hx hb hts iX2 tyX2 tyX2_ok nmX2 hown hK hP hD hS x0 (at_1 (k_x0.e hZ)) rfl 4 (by decide) (hw (.fieldLink RX2 23 "MotionFloor$House" "quorum" "I") (List.mem_of_getElem? (i := 1) rfl)) (fun _ h9 => h9) rfl (by decide +kernel) rfl rfl (Nat.le_of_ble_eq_true rfl) dX2_begin_7 (fun H locs hP hD hS => ?_)
    rw [st_1_4 (k_x0.e hZ)] at hP hD
    have hZ := hZ.tr (eK.si (siC S x0 0 x1) x0 4 (0 : Int32))
    refine lv_aload_n hx hb dX2_begin_10 rfl (lv_at hl 0 rfl) ?_
    refine lv_iconst (v := 0) hx hb dX2_begin_11 (by decide) ?_
    refine va_put (D := G) (ci := 1) (v := .int 0) (ty := .int) (C := RX2) (T := TX2) (N := 8) hx hb hts iX2 tyX2 tyX2_ok nmX2 hown hK hP hD hS x0 (at_1 (k_x0.e hZ)) rfl 5 (by decide) (hw (.fieldLink RX2 26 "MotionFloor$House" "limit" "I") (List.mem_of_getElem? (i := 2) rfl)) (fun _ h9 => h9) rfl (by decide +kernel) rfl rfl (Nat.le_of_ble_eq_true rfl) dX2_begin_12 (fun H locs hP hD hS => ?_)
    rw [st_1_5 (k_x0.e hZ)] at hP hD
    have hZ := hZ.tr (eK.si (siC (siC S x0 0 x1) x0 4 (0 : Int32)) x0 5 (0 : Int32))
    refine lv_aload_n hx hb dX2_begin_15 rfl (lv_at hl 0 rfl) ?_
    refine lv_iconst (v := (-1)) hx hb dX2_begin_16 (by decide) ?_
    refine va_put (D := G) (ci := 1) (v := .int (-1)) (ty := .int) (C := RX2) (T := TX2) (N := 8) hx hb hts iX2 tyX2 tyX2_ok nmX2 hown hK hP hD hS x0 (at_1 (k_x0.e hZ)) rfl 3 (by decide) (hw (.fieldLink RX2 29 "MotionFloor$House" "chair" "I") (List.mem_of_getElem? (i := 3) rfl)) (fun _ h9 => h9) rfl (by decide +kernel) rfl rfl (Nat.le_of_ble_eq_true rfl) dX2_begin_17 (fun H locs hP hD hS => ?_)
    rw [st_1_3 (k_x0.e hZ)] at hP hD
    have hZ := hZ.tr (eK.si (siC (siC (siC S x0 0 x1) x0 4 (0 : Int32)) x0 5 (0 : Int32)) x0 3 ((-1) : Int32))
    refine lv_aload_n hx hb dX2_begin_20 rfl (lv_at hl 0 rfl) ?_
    obtain ⟨hy1, hp⟩ := hp
    refine cGov (va_runV (As := []) (rest := []) ⟨hx, hb, hml, hown, hts⟩ (c_Y2_empty l G K ad (siC (siC (siC (siC S x0 0 x1) x0 4 (0 : Int32)) x0 5 (0 : Int32)) x0 3 ((-1) : Int32)) x0 _) (cwV 0 hts (wGV t_ (mw (.methodLink RX2 32 yX2_empty) (List.mem_of_getElem? (i := 4) rfl)) (mw (.instanceMethod yX2_empty) (List.mem_of_getElem? (i := 5) rfl)) (mw (.selects RX2 yX2_empty yX2_empty) (List.mem_of_getElem? (i := 6) rfl)) (mw (.initialized RX2) (List.mem_of_getElem? (i := 7) rfl)) j_Y2_empty) rfl rfl rfl (by decide +kernel) ⟨Nat.le_of_ble_eq_true rfl, Nat.le_of_ble_eq_true rfl⟩) (cPV hK hTE hP hD 1 rfl (at_1 (k_x0.e hZ)) ⟨(k_x0.e hZ), hy1⟩) rfl rfl hl.1 rfl (lv_room (Nat.le_of_ble_eq_true rfl)) dX2_begin_21 ⟨Nat.le_of_ble_eq_true rfl, Nat.le_of_ble_eq_true rfl⟩) hP hD hS hA (fun u2 H locs hv hP hD hS => ?_)
    obtain ⟨hv, hz⟩ := hv
    have hZ := hZ.tr hz
    rw [← hv] at hE hp
    dsimp only at hE hp
    exact B_Y2_begin_24a u2 x1 _ _ _ hE hp hZ hP hD hS (lv_sub hl [0, 1] rfl)
  exact B_M S0 a1 _ _ _ hX hp (eK.rf S0) hP hD hS hl
theorem gdX0_begin_12 : ckS (List.drop 12 cX0_begin.data.toList) 12 [(12, .aload_n 0, 1), (13, .getfield 41, 3), (16, .iconst 0, 1), (17, .putfield 62, 3), (20, .aload_n 0, 1), (21, .getfield 45, 3), (24, .iconst 0, 1), (25, .putfield 62, 3), (28, .aload_n 0, 1), (29, .getfield 51, 3), (32, .iconst 0, 1), (33, .putfield 66, 3), (36, .aload_n 0, 1), (37, .iconst 0, 1), (38, .putfield 67, 3), (41, .aload_n 0, 1), (42, .iconst 0, 1), (43, .putfield 70, 3), (46, .aload_n 0, 1), (47, .iconst 0, 1), (48, .putfield 73, 3), (51, .return_, 1)] = true := by decide +kernel
theorem dX0_begin_12 : decode cX0_begin 12 = .ok (.aload_n 0, 1) := ckS_g gdX0_begin_12 0 rfl
theorem dX0_begin_13 : decode cX0_begin 13 = .ok (.getfield 41, 3) := ckS_g gdX0_begin_12 1 rfl
theorem dX0_begin_16 : decode cX0_begin 16 = .ok (.iconst 0, 1) := ckS_g gdX0_begin_12 2 rfl
theorem dX0_begin_17 : decode cX0_begin 17 = .ok (.putfield 62, 3) := ckS_g gdX0_begin_12 3 rfl
theorem dX0_begin_20 : decode cX0_begin 20 = .ok (.aload_n 0, 1) := ckS_g gdX0_begin_12 4 rfl
theorem dX0_begin_21 : decode cX0_begin 21 = .ok (.getfield 45, 3) := ckS_g gdX0_begin_12 5 rfl
theorem dX0_begin_24 : decode cX0_begin 24 = .ok (.iconst 0, 1) := ckS_g gdX0_begin_12 6 rfl
theorem dX0_begin_25 : decode cX0_begin 25 = .ok (.putfield 62, 3) := ckS_g gdX0_begin_12 7 rfl
theorem dX0_begin_28 : decode cX0_begin 28 = .ok (.aload_n 0, 1) := ckS_g gdX0_begin_12 8 rfl
theorem dX0_begin_29 : decode cX0_begin 29 = .ok (.getfield 51, 3) := ckS_g gdX0_begin_12 9 rfl
theorem dX0_begin_32 : decode cX0_begin 32 = .ok (.iconst 0, 1) := ckS_g gdX0_begin_12 10 rfl
theorem dX0_begin_33 : decode cX0_begin 33 = .ok (.putfield 66, 3) := ckS_g gdX0_begin_12 11 rfl
theorem dX0_begin_36 : decode cX0_begin 36 = .ok (.aload_n 0, 1) := ckS_g gdX0_begin_12 12 rfl
theorem dX0_begin_37 : decode cX0_begin 37 = .ok (.iconst 0, 1) := ckS_g gdX0_begin_12 13 rfl
theorem dX0_begin_38 : decode cX0_begin 38 = .ok (.putfield 67, 3) := ckS_g gdX0_begin_12 14 rfl
theorem dX0_begin_41 : decode cX0_begin 41 = .ok (.aload_n 0, 1) := ckS_g gdX0_begin_12 15 rfl
theorem dX0_begin_42 : decode cX0_begin 42 = .ok (.iconst 0, 1) := ckS_g gdX0_begin_12 16 rfl
theorem dX0_begin_43 : decode cX0_begin 43 = .ok (.putfield 70, 3) := ckS_g gdX0_begin_12 17 rfl
theorem dX0_begin_46 : decode cX0_begin 46 = .ok (.aload_n 0, 1) := ckS_g gdX0_begin_12 18 rfl
theorem dX0_begin_47 : decode cX0_begin 47 = .ok (.iconst 0, 1) := ckS_g gdX0_begin_12 19 rfl
theorem dX0_begin_48 : decode cX0_begin 48 = .ok (.putfield 73, 3) := ckS_g gdX0_begin_12 20 rfl
theorem dX0_begin_51 : decode cX0_begin 51 = .ok (.return_, 1) := ckS_g gdX0_begin_12 21 rfl
set_option maxRecDepth 100000 in
theorem zc86 : wZ (.laysFinal "MotionFloor$Text" "MotionFloor$Text" "words" "[I") := ⟨wT1 (List.mem_of_getElem? (i := 161) (by decide +kernel)), Or.inl rfl⟩
set_option maxRecDepth 100000 in
theorem zc87 : wZ (.lays "MotionFloor$Text" "MotionFloor$Text" "size" "I") := ⟨wT1 (List.mem_of_getElem? (i := 163) (by decide +kernel)), Or.inl rfl⟩
set_option maxRecDepth 100000 in
theorem zc88 : wZ (.laysFinal "MotionFloor$Ledger" "MotionFloor$Ledger" "columns" "I") := ⟨wT1 (List.mem_of_getElem? (i := 137) (by decide +kernel)), Or.inl rfl⟩
set_option maxRecDepth 100000 in
theorem zc89 : wZ (.laysFinal "MotionFloor$Ledger" "MotionFloor$Ledger" "most" "I") := ⟨wT1 (List.mem_of_getElem? (i := 139) (by decide +kernel)), Or.inl rfl⟩
set_option maxRecDepth 100000 in
theorem zc90 : wZ (.lays "MotionFloor$Ledger" "MotionFloor$Ledger" "cells" "[I") := ⟨wT1 (List.mem_of_getElem? (i := 141) (by decide +kernel)), Or.inl rfl⟩
set_option maxRecDepth 100000 in
theorem zc91 : wZ (.lays "MotionFloor$Ledger" "MotionFloor$Ledger" "size" "I") := ⟨wT1 (List.mem_of_getElem? (i := 143) (by decide +kernel)), Or.inl rfl⟩
theorem zcX3 : GoodIn lw_tbl wsX30 := by
  show GoodIn lw_tbl [.laysFinal "MotionFloor$Ledger" "MotionFloor$Ledger" "columns" "I", .laysFinal "MotionFloor$Ledger" "MotionFloor$Ledger" "most" "I", .lays "MotionFloor$Ledger" "MotionFloor$Ledger" "cells" "[I", .lays "MotionFloor$Ledger" "MotionFloor$Ledger" "size" "I"]
  exact wGc zc88 (wGc zc89 (wGc zc90 (wGc zc91 (wG0))))
set_option maxRecDepth 100000 in
theorem zc92 : wZ (.fieldLink RX0 73 "MotionFloor$Assembly" "reason" "I") := ⟨wT1 (List.mem_of_getElem? (i := 209) (by decide +kernel)), Or.inl rfl⟩
set_option maxRecDepth 100000 in
theorem zc93 : wZ (.fieldLink RX0 70 "MotionFloor$Assembly" "names" "I") := ⟨wT1 (List.mem_of_getElem? (i := 207) (by decide +kernel)), Or.inl rfl⟩
set_option maxRecDepth 100000 in
theorem zc94 : wZ (.fieldLink RX0 67 "MotionFloor$Assembly" "adoptions" "I") := ⟨wT1 (List.mem_of_getElem? (i := 204) (by decide +kernel)), Or.inl rfl⟩
set_option maxRecDepth 100000 in
theorem zc95 : wZ (.fieldLink RX0 66 "MotionFloor$Text" "size" "I") := ⟨wT1 (List.mem_of_getElem? (i := 155) (by decide +kernel)), Or.inl rfl⟩
set_option maxRecDepth 100000 in
theorem zc96 : wZ (.fieldLink RX0 51 "MotionFloor$Assembly" "adopted" "LMotionFloor$Text;") := ⟨wT1 (List.mem_of_getElem? (i := 201) (by decide +kernel)), Or.inl rfl⟩
set_option maxRecDepth 100000 in
theorem zc97 : wZ (.fieldLink RX0 45 "MotionFloor$Assembly" "results" "LMotionFloor$Ledger;") := ⟨wT1 (List.mem_of_getElem? (i := 198) (by decide +kernel)), Or.inl rfl⟩
set_option maxRecDepth 100000 in
theorem zc98 : wZ (.fieldLink RX0 62 "MotionFloor$Ledger" "size" "I") := ⟨wT1 (List.mem_of_getElem? (i := 134) (by decide +kernel)), Or.inl rfl⟩
set_option maxRecDepth 100000 in
theorem zc99 : wZ (.fieldLink RX0 41 "MotionFloor$Assembly" "minutes" "LMotionFloor$Ledger;") := ⟨wT1 (List.mem_of_getElem? (i := 194) (by decide +kernel)), Or.inl rfl⟩
set_option maxRecDepth 100000 in
theorem zc100 : wZ (.selects RX2 yX2_begin yX2_begin) := ⟨wT1 (List.mem_of_getElem? (i := 168) (by decide +kernel)), Or.inl rfl⟩
set_option maxRecDepth 100000 in
theorem zc101 : wZ (.instanceMethod yX2_begin) := ⟨wT1 (List.mem_of_getElem? (i := 167) (by decide +kernel)), Or.inl rfl⟩
set_option maxRecDepth 100000 in
theorem zc102 : wZ (.methodLink RX0 55 yX2_begin) := ⟨wT1 (List.mem_of_getElem? (i := 166) (by decide +kernel)), Or.inl rfl⟩
set_option maxRecDepth 100000 in
theorem zc103 : wZ (.fieldLink RX0 12 "MotionFloor$Assembly" "house" "LMotionFloor$House;") := ⟨wT1 (List.mem_of_getElem? (i := 177) (by decide +kernel)), Or.inl rfl⟩
set_option maxRecDepth 100000 in
theorem zc104 : wZ (.selects RX0 yX0_clear yX0_clear) := ⟨wT2 (List.mem_of_getElem? (i := 23) (by decide +kernel)), Or.inl rfl⟩
set_option maxRecDepth 100000 in
theorem zc105 : wZ (.instanceMethod yX0_clear) := ⟨wT2 (List.mem_of_getElem? (i := 22) (by decide +kernel)), Or.inl rfl⟩
set_option maxRecDepth 100000 in
theorem zc106 : wZ (.methodLink RX0 59 yX0_clear) := ⟨wT2 (List.mem_of_getElem? (i := 21) (by decide +kernel)), Or.inl rfl⟩
set_option maxRecDepth 100000 in
theorem zc107 : wZ (.code yX0_begin cX0_begin 2 none) := ⟨wT2 (List.mem_of_getElem? (i := 20) rfl), Or.inl rfl⟩
def b_Y0_begin_36a (S : Cst) (x0 : Nat) (x1 : Int32) : Int32 × Cst := (0, (siC (siC (siC S x0 7 (0 : Int32)) x0 8 (0 : Int32)) x0 9 (0 : Int32)))
def q_Y0_begin_36a (S : Cst) (x0 : Nat) (x1 : Int32) : Prop := True
def b_Y0_begin_12a (S : Cst) (x0 : Nat) (x1 : Int32) : Int32 × Cst := (b_Y0_begin_36a (siC (siC (siC S ((grC S x0 4).getD 0) 3 (0 : Int32)) ((grC (siC S ((grC S x0 4).getD 0) 3 (0 : Int32)) x0 5).getD 0) 3 (0 : Int32)) ((grC (siC (siC S ((grC S x0 4).getD 0) 3 (0 : Int32)) ((grC (siC S ((grC S x0 4).getD 0) 3 (0 : Int32)) x0 5).getD 0) 3 (0 : Int32)) x0 6).getD 0) 1 (0 : Int32)) x0 x1)
def q_Y0_begin_12a (S : Cst) (x0 : Nat) (x1 : Int32) : Prop := (iR S (grC S x0 4) 2) ∧ (iR (siC S ((grC S x0 4).getD 0) 3 (0 : Int32)) (grC (siC S ((grC S x0 4).getD 0) 3 (0 : Int32)) x0 5) 2) ∧ (iR (siC (siC S ((grC S x0 4).getD 0) 3 (0 : Int32)) ((grC (siC S ((grC S x0 4).getD 0) 3 (0 : Int32)) x0 5).getD 0) 3 (0 : Int32)) (grC (siC (siC S ((grC S x0 4).getD 0) 3 (0 : Int32)) ((grC (siC S ((grC S x0 4).getD 0) 3 (0 : Int32)) x0 5).getD 0) 3 (0 : Int32)) x0 6) 6) ∧ (q_Y0_begin_36a (siC (siC (siC S ((grC S x0 4).getD 0) 3 (0 : Int32)) ((grC (siC S ((grC S x0 4).getD 0) 3 (0 : Int32)) x0 5).getD 0) 3 (0 : Int32)) ((grC (siC (siC S ((grC S x0 4).getD 0) 3 (0 : Int32)) ((grC (siC S ((grC S x0 4).getD 0) 3 (0 : Int32)) x0 5).getD 0) 3 (0 : Int32)) x0 6).getD 0) 1 (0 : Int32)) x0 x1)
def b_Y0_begin_4a (S : Cst) (x0 : Nat) (x1 : Int32) : Int32 × Cst := (b_Y0_begin_12a ((f_Y2_begin S ((grC S x0 0).getD 0) x1).2) x0 x1)
def q_Y0_begin_4a (S : Cst) (x0 : Nat) (x1 : Int32) : Prop := (iR S (grC S x0 0) 1) ∧ (p_Y2_begin S ((grC S x0 0).getD 0) x1) ∧ (q_Y0_begin_12a ((f_Y2_begin S ((grC S x0 0).getD 0) x1).2) x0 x1)
def f_Y0_begin (S : Cst) (x0 : Nat) (x1 : Int32) : Int32 × Cst := (b_Y0_begin_4a ((f_Y0_clear S x0).2) x0 x1)
def p_Y0_begin (S : Cst) (x0 : Nat) (x1 : Int32) : Prop := (p_Y0_clear S x0) ∧ (q_Y0_begin_4a ((f_Y0_clear S x0).2) x0 x1)
def e_Y0_begin : List Cond := [.methodLink RX0 59 yX0_clear, .instanceMethod yX0_clear, .selects RX0 yX0_clear yX0_clear, .initialized RX0, .fieldLink RX0 12 "MotionFloor$Assembly" "house" "LMotionFloor$House;", .methodLink RX0 55 yX2_begin, .instanceMethod yX2_begin, .selects RX2 yX2_begin yX2_begin, .initialized RX2, .fieldLink RX0 41 "MotionFloor$Assembly" "minutes" "LMotionFloor$Ledger;", .fieldLink RX0 62 "MotionFloor$Ledger" "size" "I", .fieldLink RX0 45 "MotionFloor$Assembly" "results" "LMotionFloor$Ledger;", .fieldLink RX0 51 "MotionFloor$Assembly" "adopted" "LMotionFloor$Text;", .fieldLink RX0 66 "MotionFloor$Text" "size" "I", .fieldLink RX0 67 "MotionFloor$Assembly" "adoptions" "I", .fieldLink RX0 70 "MotionFloor$Assembly" "names" "I", .fieldLink RX0 73 "MotionFloor$Assembly" "reason" "I"]
def v_Y0_begin : List Cond := .code yX0_begin cX0_begin 2 none :: (e_Y0_begin ++ (wsX00 ++ (wsX30 ++ (wsX90 ++ (v_Y0_clear ++ (v_Y2_begin ++ []))))))
theorem te_Y0_begin : GoodIn lw_tbl e_Y0_begin := wGc zc106 (wGc zc105 (wGc zc104 (wGc zc39 (wGc zc103 (wGc zc102 (wGc zc101 (wGc zc100 (wGc zc77 (wGc zc99 (wGc zc98 (wGc zc97 (wGc zc96 (wGc zc95 (wGc zc94 (wGc zc93 (wGc zc92 (wG0)))))))))))))))))
theorem t_Y0_begin : GoodIn lw_tbl v_Y0_begin := wGc zc107 (wGa te_Y0_begin (wGa zcX0 (wGa zcX3 (wGa zcX9 (wGa t_Y0_clear (wGa t_Y2_begin (wG0)))))))
set_option maxHeartbeats 4000000 in
set_option maxRecDepth 100000 in
theorem c_Y0_begin (l : Launch) (G : va_G) (K : Nat → ClassId) (ad : Nat → Nat) (S0 : Cst) (x0 : Nat) (a1 : Int32) (sz : Nat) : Met l yX0_begin v_Y0_begin ({ frames := 5, cells := 0, slots := 0, locals := 107 }) (va_Pc [.ref (ad x0), .int a1] (cSt G K ad sz S0 (iK S0 x0 0 ∧ p_Y0_begin S0 x0 a1))) (va_Qv (fun u : Cst => (0, u) = f_Y0_begin S0 x0 a1 ∧ eK S0 u) (cBt G K ad (va_A (wsC K ad S0) sz)) (va_A (wsC K ad S0) sz)) 0 0 (va_A (wsC K ad S0) sz) := by
  refine Met.ofW (cc := cX0_begin) (maxL := 2) (ret := none) (by decide) rfl ?_
  intro p e s m args below meth c s₁ B hml hv
  obtain ⟨rfl, ⟨hsz, hP, hK, hD0, hTE⟩, hp⟩ := hv
  obtain ⟨k_x0, hp⟩ := hp
  have hx := B.exec
  have hb := B.bytes
  have hr := B.returns
  have hts := atoms_spec (ws := v_Y0_begin) B.pre
  have t_ := t_Y0_begin
  have mw : ∀ w ∈ e_Y0_begin, w ∈ v_Y0_begin := fun w h => List.mem_cons_of_mem _ (List.mem_append_left _ h)
  have hw := fun w (h : w ∈ e_Y0_begin) => hts w (mw w h)
  have iX0 : ∀ w ∈ wsX00, w ∈ v_Y0_begin := fun w h => List.mem_cons_of_mem _ (List.mem_append_right _ (List.mem_append_left _ h))
  have iX3 : ∀ w ∈ wsX30, w ∈ v_Y0_begin := fun w h => List.mem_cons_of_mem _ (List.mem_append_right _ (List.mem_append_right _ (List.mem_append_left _ h)))
  have iX9 : ∀ w ∈ wsX90, w ∈ v_Y0_begin := fun w h => List.mem_cons_of_mem _ (List.mem_append_right _ (List.mem_append_right _ (List.mem_append_right _ (List.mem_append_left _ h))))
  have j_Y0_clear : ∀ w ∈ v_Y0_clear, w ∈ v_Y0_begin := fun w h => List.mem_cons_of_mem _ (List.mem_append_right _ (List.mem_append_right _ (List.mem_append_right _ (List.mem_append_right _ (List.mem_append_left _ h)))))
  have j_Y2_begin : ∀ w ∈ v_Y2_begin, w ∈ v_Y0_begin := fun w h => List.mem_cons_of_mem _ (List.mem_append_right _ (List.mem_append_right _ (List.mem_append_right _ (List.mem_append_right _ (List.mem_append_right _ (List.mem_append_left _ h))))))
  have hown : s.vm.findClass RX0 = some m.cls := findClass_of_methodNamed B.named
  have hlocks := B.notSynchronized
  subst hsz
  have hD := hD0.self (sz := s.heap.size)
  generalize hAe : va_A (wsC K ad S0) s.heap.size = A at hD ⊢
  have hA : ∀ q : Nat, s.heap.size ≤ q → A q := fun q h => by rw [← hAe]; exact Or.inr h
  have hS : va_S A s.heap s.heap [] := va_S.rf
  have hl : lv_has (lg_sl ([.ref (ad x0), .int a1]) ++ List.replicate (2 - (lg_sl ([.ref (ad x0), .int a1])).length) Slot.unset).toArray 2 [(0, .ref (ad x0)), (1, .int a1)] := by
    exact lv_entry ([.ref (ad x0), .int a1]) (n := 2) (Nat.le_of_ble_eq_true rfl)
  rw [lg_entry_eq]
  generalize (lg_sl ([.ref (ad x0), .int a1]) ++ List.replicate (2 - (lg_sl ([.ref (ad x0), .int a1])).length) Slot.unset).toArray = ls_ at hl ⊢
  refine wGen (fun Q hQ => ?_)
  obtain ⟨X, hX⟩ : ∃ X, f_Y0_begin S0 x0 a1 = X := ⟨_, rfl⟩
  have B_Y0_begin_36a : ∀ (S : Cst) (x1 : Int32) (H : Heap) (locs : List Loc) (ls_ : Array Slot), b_Y0_begin_36a S x0 x1 = X → q_Y0_begin_36a S x0 x1 → eK S0 S → va_P G vwCl (wsC K ad S) H → va_D A (wsC K ad S) → va_S A s.heap H locs → lv_has ls_ 2 [(0, .ref (ad x0)), (1, .int x1)] → W p l e ({ frames := 5, cells := 0, slots := 0, locals := 107 } : Room) s m #[Value.ref (ad x0), Value.int a1] below meth c H locs 0 0 Q (F0 m 36 ls_ []) := by
    intro S x1 H locs ls_ hE hp hZ hP hD hS hl
    unfold b_Y0_begin_36a at hE
    unfold q_Y0_begin_36a at hp
    refine lv_aload_n hx hb dX0_begin_36 rfl (lv_at hl 0 rfl) ?_
    refine lv_iconst (v := 0) hx hb dX0_begin_37 (by decide) ?_
    refine va_put (D := G) (ci := 0) (v := .int 0) (ty := .int) (C := RX0) (T := TX0) (N := 11) hx hb hts iX0 tyX0 tyX0_ok nmX0 hown hK hP hD hS x0 (at_0 (k_x0.e hZ)) rfl 7 (by decide) (hw (.fieldLink RX0 67 "MotionFloor$Assembly" "adoptions" "I") (List.mem_of_getElem? (i := 14) rfl)) (fun _ h9 => h9) rfl (by decide +kernel) rfl rfl (Nat.le_of_ble_eq_true rfl) dX0_begin_38 (fun H locs hP hD hS => ?_)
    rw [st_0_7 (k_x0.e hZ)] at hP hD
    have hZ := hZ.tr (eK.si S x0 7 (0 : Int32))
    refine lv_aload_n hx hb dX0_begin_41 rfl (lv_at hl 0 rfl) ?_
    refine lv_iconst (v := 0) hx hb dX0_begin_42 (by decide) ?_
    refine va_put (D := G) (ci := 0) (v := .int 0) (ty := .int) (C := RX0) (T := TX0) (N := 11) hx hb hts iX0 tyX0 tyX0_ok nmX0 hown hK hP hD hS x0 (at_0 (k_x0.e hZ)) rfl 8 (by decide) (hw (.fieldLink RX0 70 "MotionFloor$Assembly" "names" "I") (List.mem_of_getElem? (i := 15) rfl)) (fun _ h9 => h9) rfl (by decide +kernel) rfl rfl (Nat.le_of_ble_eq_true rfl) dX0_begin_43 (fun H locs hP hD hS => ?_)
    rw [st_0_8 (k_x0.e hZ)] at hP hD
    have hZ := hZ.tr (eK.si (siC S x0 7 (0 : Int32)) x0 8 (0 : Int32))
    refine lv_aload_n hx hb dX0_begin_46 rfl (lv_at hl 0 rfl) ?_
    refine lv_iconst (v := 0) hx hb dX0_begin_47 (by decide) ?_
    refine va_put (D := G) (ci := 0) (v := .int 0) (ty := .int) (C := RX0) (T := TX0) (N := 11) hx hb hts iX0 tyX0 tyX0_ok nmX0 hown hK hP hD hS x0 (at_0 (k_x0.e hZ)) rfl 9 (by decide) (hw (.fieldLink RX0 73 "MotionFloor$Assembly" "reason" "I") (List.mem_of_getElem? (i := 16) rfl)) (fun _ h9 => h9) rfl (by decide +kernel) rfl rfl (Nat.le_of_ble_eq_true rfl) dX0_begin_48 (fun H locs hP hD hS => ?_)
    rw [st_0_9 (k_x0.e hZ)] at hP hD
    have hZ := hZ.tr (eK.si (siC (siC S x0 7 (0 : Int32)) x0 8 (0 : Int32)) x0 9 (0 : Int32))
    subst hQ
    exact W.vret hx hb hr (fun t ht hW => ⟨⟨(siC (siC (siC S x0 7 (0 : Int32)) x0 8 (0 : Int32)) x0 9 (0 : Int32)), rfl, ⟨hE.trans hX.symm, hZ⟩, by rw [ht]; exact hP, hD⟩, hS.F ht⟩) hS.2.2 dX0_begin_51
  have B_Y0_begin_12a : ∀ (S : Cst) (x1 : Int32) (H : Heap) (locs : List Loc) (ls_ : Array Slot), b_Y0_begin_12a S x0 x1 = X → q_Y0_begin_12a S x0 x1 → eK S0 S → va_P G vwCl (wsC K ad S) H → va_D A (wsC K ad S) → va_S A s.heap H locs → lv_has ls_ 2 [(0, .ref (ad x0)), (1, .int x1)] → W p l e ({ frames := 5, cells := 0, slots := 0, locals := 107 } : Room) s m #[Value.ref (ad x0), Value.int a1] below meth c H locs 0 0 Q (F0 m 12 ls_ []) := by
    intro S x1 H locs ls_ hE hp hZ hP hD hS hl
    unfold b_Y0_begin_12a at hE
    unfold q_Y0_begin_12a at hp
    refine lv_aload_n hx hb dX0_begin_12 rfl (lv_at hl 0 rfl) ?_
    refine va_get (D := G) (ci := 0) (v := va_re ad (grC S x0 4)) (C := RX0) (T := TX0) (N := 11) hx hb hts iX0 hown hK hP x0 (at_0 (k_x0.e hZ)) rfl 4 (by decide) (hw (.fieldLink RX0 41 "MotionFloor$Assembly" "minutes" "LMotionFloor$Ledger;") (List.mem_of_getElem? (i := 9) rfl)) (fun _ h9 => h9) rfl dX0_begin_13 ?_
    refine lv_iconst (v := 0) hx hb dX0_begin_16 (by decide) ?_
    obtain ⟨hy8, hp⟩ := hp
    refine cTop2 (r := (grC S x0 4)) hy8.1 ?_
    refine va_put (D := G) (ci := 2) (v := .int 0) (ty := .int) (C := RX3) (T := TX3) (N := 4) hx hb hts iX3 tyX3 tyX3_ok nmX3 hown hK hP hD hS ((grC S x0 4).getD 0) (at_2 hy8.2) rfl 3 (by decide) (hw (.fieldLink RX0 62 "MotionFloor$Ledger" "size" "I") (List.mem_of_getElem? (i := 10) rfl)) (fun _ h9 => h9) rfl (by decide +kernel) rfl rfl (Nat.le_of_ble_eq_true rfl) dX0_begin_17 (fun H locs hP hD hS => ?_)
    rw [st_2_3 hy8.2] at hP hD
    have hZ := hZ.tr (eK.si S ((grC S x0 4).getD 0) 3 (0 : Int32))
    refine lv_aload_n hx hb dX0_begin_20 rfl (lv_at hl 0 rfl) ?_
    refine va_get (D := G) (ci := 0) (v := va_re ad (grC (siC S ((grC S x0 4).getD 0) 3 (0 : Int32)) x0 5)) (C := RX0) (T := TX0) (N := 11) hx hb hts iX0 hown hK hP x0 (at_0 (k_x0.e hZ)) rfl 5 (by decide) (hw (.fieldLink RX0 45 "MotionFloor$Assembly" "results" "LMotionFloor$Ledger;") (List.mem_of_getElem? (i := 11) rfl)) (fun _ h9 => h9) rfl dX0_begin_21 ?_
    refine lv_iconst (v := 0) hx hb dX0_begin_24 (by decide) ?_
    obtain ⟨hy9, hp⟩ := hp
    refine cTop2 (r := (grC (siC S ((grC S x0 4).getD 0) 3 (0 : Int32)) x0 5)) hy9.1 ?_
    refine va_put (D := G) (ci := 2) (v := .int 0) (ty := .int) (C := RX3) (T := TX3) (N := 4) hx hb hts iX3 tyX3 tyX3_ok nmX3 hown hK hP hD hS ((grC (siC S ((grC S x0 4).getD 0) 3 (0 : Int32)) x0 5).getD 0) (at_2 hy9.2) rfl 3 (by decide) (hw (.fieldLink RX0 62 "MotionFloor$Ledger" "size" "I") (List.mem_of_getElem? (i := 10) rfl)) (fun _ h9 => h9) rfl (by decide +kernel) rfl rfl (Nat.le_of_ble_eq_true rfl) dX0_begin_25 (fun H locs hP hD hS => ?_)
    rw [st_2_3 hy9.2] at hP hD
    have hZ := hZ.tr (eK.si (siC S ((grC S x0 4).getD 0) 3 (0 : Int32)) ((grC (siC S ((grC S x0 4).getD 0) 3 (0 : Int32)) x0 5).getD 0) 3 (0 : Int32))
    refine lv_aload_n hx hb dX0_begin_28 rfl (lv_at hl 0 rfl) ?_
    refine va_get (D := G) (ci := 0) (v := va_re ad (grC (siC (siC S ((grC S x0 4).getD 0) 3 (0 : Int32)) ((grC (siC S ((grC S x0 4).getD 0) 3 (0 : Int32)) x0 5).getD 0) 3 (0 : Int32)) x0 6)) (C := RX0) (T := TX0) (N := 11) hx hb hts iX0 hown hK hP x0 (at_0 (k_x0.e hZ)) rfl 6 (by decide) (hw (.fieldLink RX0 51 "MotionFloor$Assembly" "adopted" "LMotionFloor$Text;") (List.mem_of_getElem? (i := 12) rfl)) (fun _ h9 => h9) rfl dX0_begin_29 ?_
    refine lv_iconst (v := 0) hx hb dX0_begin_32 (by decide) ?_
    obtain ⟨hy10, hp⟩ := hp
    refine cTop2 (r := (grC (siC (siC S ((grC S x0 4).getD 0) 3 (0 : Int32)) ((grC (siC S ((grC S x0 4).getD 0) 3 (0 : Int32)) x0 5).getD 0) 3 (0 : Int32)) x0 6)) hy10.1 ?_
    refine va_put (D := G) (ci := 6) (v := .int 0) (ty := .int) (C := RX9) (T := TX9) (N := 2) hx hb hts iX9 tyX9 tyX9_ok nmX9 hown hK hP hD hS ((grC (siC (siC S ((grC S x0 4).getD 0) 3 (0 : Int32)) ((grC (siC S ((grC S x0 4).getD 0) 3 (0 : Int32)) x0 5).getD 0) 3 (0 : Int32)) x0 6).getD 0) (at_6 hy10.2) rfl 1 (by decide) (hw (.fieldLink RX0 66 "MotionFloor$Text" "size" "I") (List.mem_of_getElem? (i := 13) rfl)) (fun _ h9 => h9) rfl (by decide +kernel) rfl rfl (Nat.le_of_ble_eq_true rfl) dX0_begin_33 (fun H locs hP hD hS => ?_)
    rw [st_6_1 hy10.2] at hP hD
    have hZ := hZ.tr (eK.si (siC (siC S ((grC S x0 4).getD 0) 3 (0 : Int32)) ((grC (siC S ((grC S x0 4).getD 0) 3 (0 : Int32)) x0 5).getD 0) 3 (0 : Int32)) ((grC (siC (siC S ((grC S x0 4).getD 0) 3 (0 : Int32)) ((grC (siC S ((grC S x0 4).getD 0) 3 (0 : Int32)) x0 5).getD 0) 3 (0 : Int32)) x0 6).getD 0) 1 (0 : Int32))
    exact B_Y0_begin_36a (siC (siC (siC S ((grC S x0 4).getD 0) 3 (0 : Int32)) ((grC (siC S ((grC S x0 4).getD 0) 3 (0 : Int32)) x0 5).getD 0) 3 (0 : Int32)) ((grC (siC (siC S ((grC S x0 4).getD 0) 3 (0 : Int32)) ((grC (siC S ((grC S x0 4).getD 0) 3 (0 : Int32)) x0 5).getD 0) 3 (0 : Int32)) x0 6).getD 0) 1 (0 : Int32)) x1 _ _ _ hE hp hZ hP hD hS (lv_sub hl [0, 1] rfl)
  have B_Y0_begin_4a : ∀ (S : Cst) (x1 : Int32) (H : Heap) (locs : List Loc) (ls_ : Array Slot), b_Y0_begin_4a S x0 x1 = X → q_Y0_begin_4a S x0 x1 → eK S0 S → va_P G vwCl (wsC K ad S) H → va_D A (wsC K ad S) → va_S A s.heap H locs → lv_has ls_ 2 [(0, .ref (ad x0)), (1, .int x1)] → W p l e ({ frames := 5, cells := 0, slots := 0, locals := 107 } : Room) s m #[Value.ref (ad x0), Value.int a1] below meth c H locs 0 0 Q (F0 m 4 ls_ []) := by
    intro S x1 H locs ls_ hE hp hZ hP hD hS hl
    unfold b_Y0_begin_4a at hE
    unfold q_Y0_begin_4a at hp
    refine lv_aload_n hx hb dX0_begin_4 rfl (lv_at hl 0 rfl) ?_
    refine va_get (D := G) (ci := 0) (v := va_re ad (grC S x0 0)) (C := RX0) (T := TX0) (N := 11) hx hb hts iX0 hown hK hP x0 (at_0 (k_x0.e hZ)) rfl 0 (by decide) (hw (.fieldLink RX0 12 "MotionFloor$Assembly" "house" "LMotionFloor$House;") (List.mem_of_getElem? (i := 4) rfl)) (fun _ h9 => h9) rfl dX0_begin_5 ?_
    refine lv_iload_n hx hb dX0_begin_8 rfl (lv_at hl 1 rfl) ?_
    obtain ⟨hy4, hp⟩ := hp
    refine cTop2 (r := (grC S x0 0)) hy4.1 ?_
    obtain ⟨hy5, hp⟩ := hp
    refine cGov (va_runV (As := [.int x1]) (rest := []) ⟨hx, hb, hml, hown, hts⟩ (c_Y2_begin l G K ad S ((grC S x0 0).getD 0) x1 _) (cwV 1 hts (wGV t_ (mw (.methodLink RX0 55 yX2_begin) (List.mem_of_getElem? (i := 5) rfl)) (mw (.instanceMethod yX2_begin) (List.mem_of_getElem? (i := 6) rfl)) (mw (.selects RX2 yX2_begin yX2_begin) (List.mem_of_getElem? (i := 7) rfl)) (mw (.initialized RX2) (List.mem_of_getElem? (i := 8) rfl)) j_Y2_begin) rfl rfl rfl (by decide +kernel) ⟨Nat.le_of_ble_eq_true rfl, Nat.le_of_ble_eq_true rfl⟩) (cPV hK hTE hP hD 1 rfl (at_1 hy4.2) ⟨hy4.2, hy5⟩) rfl rfl hl.1 rfl (lv_room (Nat.le_of_ble_eq_true rfl)) dX0_begin_9 ⟨Nat.le_of_ble_eq_true rfl, Nat.le_of_ble_eq_true rfl⟩) hP hD hS hA (fun u6 H locs hv hP hD hS => ?_)
    obtain ⟨hv, hz⟩ := hv
    have hZ := hZ.tr hz
    rw [← hv] at hE hp
    dsimp only at hE hp
    exact B_Y0_begin_12a u6 x1 _ _ _ hE hp hZ hP hD hS (lv_sub hl [0, 1] rfl)
  have B_M : ∀ (S : Cst) (x1 : Int32) (H : Heap) (locs : List Loc) (ls_ : Array Slot), f_Y0_begin S x0 x1 = X → p_Y0_begin S x0 x1 → eK S0 S → va_P G vwCl (wsC K ad S) H → va_D A (wsC K ad S) → va_S A s.heap H locs → lv_has ls_ 2 [(0, .ref (ad x0)), (1, .int x1)] → W p l e ({ frames := 5, cells := 0, slots := 0, locals := 107 } : Room) s m #[Value.ref (ad x0), Value.int a1] below meth c H locs 0 0 Q (F0 m 0 ls_ []) := by
    intro S x1 H locs ls_ hE hp hZ hP hD hS hl
    unfold f_Y0_begin at hE
    unfold p_Y0_begin at hp
    refine lv_aload_n hx hb dX0_begin_0 rfl (lv_at hl 0 rfl) ?_
    obtain ⟨hy1, hp⟩ := hp
    refine cGov (va_runV (As := []) (rest := []) ⟨hx, hb, hml, hown, hts⟩ (c_Y0_clear l G K ad S x0 _) (cwV 0 hts (wGV t_ (mw (.methodLink RX0 59 yX0_clear) (List.mem_of_getElem? (i := 0) rfl)) (mw (.instanceMethod yX0_clear) (List.mem_of_getElem? (i := 1) rfl)) (mw (.selects RX0 yX0_clear yX0_clear) (List.mem_of_getElem? (i := 2) rfl)) (mw (.initialized RX0) (List.mem_of_getElem? (i := 3) rfl)) j_Y0_clear) rfl rfl rfl (by decide +kernel) ⟨Nat.le_of_ble_eq_true rfl, Nat.le_of_ble_eq_true rfl⟩) (cPV hK hTE hP hD 0 rfl (at_0 (k_x0.e hZ)) ⟨(k_x0.e hZ), hy1⟩) rfl rfl hl.1 rfl (lv_room (Nat.le_of_ble_eq_true rfl)) dX0_begin_1 ⟨Nat.le_of_ble_eq_true rfl, Nat.le_of_ble_eq_true rfl⟩) hP hD hS hA (fun u2 H locs hv hP hD hS => ?_)
    obtain ⟨hv, hz⟩ := hv
    have hZ := hZ.tr hz
    rw [← hv] at hE hp
    dsimp only at hE hp
    exact B_Y0_begin_4a u2 x1 _ _ _ hE hp hZ hP hD hS (lv_sub hl [0, 1] rfl)
  exact B_M S0 a1 _ _ _ hX hp (eK.rf S0) hP hD hS hl
