theorem gdX1_addWords_0 : ckS (List.drop 0 cX1_addWords.data.toList) 0 [(0, .aload_n 0, 1), (1, .getfield 121, 3), (4, .invokevirtual 139, 3), (7, .astore 5, 2), (9, .aload 5, 2), (11, .ifnonnull 5, 3), (14, .iconst 0, 1), (15, .ireturn, 1), (16, .aload 5, 2), (18, .getfield 148, 3), (21, .iload_n 1, 1), (22, .invokevirtual 152, 3)] = true := by decide +kernel
theorem dX1_addWords_0 : decode cX1_addWords 0 = .ok (.aload_n 0, 1) := ckS_g gdX1_addWords_0 0 rfl
theorem dX1_addWords_1 : decode cX1_addWords 1 = .ok (.getfield 121, 3) := ckS_g gdX1_addWords_0 1 rfl
theorem dX1_addWords_4 : decode cX1_addWords 4 = .ok (.invokevirtual 139, 3) := ckS_g gdX1_addWords_0 2 rfl
theorem dX1_addWords_7 : decode cX1_addWords 7 = .ok (.astore 5, 2) := ckS_g gdX1_addWords_0 3 rfl
theorem dX1_addWords_9 : decode cX1_addWords 9 = .ok (.aload 5, 2) := ckS_g gdX1_addWords_0 4 rfl
theorem dX1_addWords_11 : decode cX1_addWords 11 = .ok (.ifnonnull 5, 3) := ckS_g gdX1_addWords_0 5 rfl
theorem dX1_addWords_14 : decode cX1_addWords 14 = .ok (.iconst 0, 1) := ckS_g gdX1_addWords_0 6 rfl
theorem dX1_addWords_15 : decode cX1_addWords 15 = .ok (.ireturn, 1) := ckS_g gdX1_addWords_0 7 rfl
theorem dX1_addWords_16 : decode cX1_addWords 16 = .ok (.aload 5, 2) := ckS_g gdX1_addWords_0 8 rfl
theorem dX1_addWords_18 : decode cX1_addWords 18 = .ok (.getfield 148, 3) := ckS_g gdX1_addWords_0 9 rfl
theorem dX1_addWords_21 : decode cX1_addWords 21 = .ok (.iload_n 1, 1) := ckS_g gdX1_addWords_0 10 rfl
theorem dX1_addWords_22 : decode cX1_addWords 22 = .ok (.invokevirtual 152, 3) := ckS_g gdX1_addWords_0 11 rfl
set_option maxRecDepth 100000 in
theorem zc148 : wZ (.code yX9_append cX9_append 2 none) := ⟨wT3 (List.mem_of_getElem? (i := 125) rfl), Or.inl rfl⟩
def b_Y9_append_36 (S : Cst) (x0 : Nat) (x1 : Int32) : Int32 × Cst := (0, S)
def q_Y9_append_36 (S : Cst) (x0 : Nat) (x1 : Int32) : Prop := True
def f_Y9_append (S : Cst) (x0 : Nat) (x1 : Int32) : Int32 × Cst := if x1 = 0 then (b_Y9_append_36 S x0 x1) else if (Int32.ofNat (lnC S ((grC S x0 0).getD 0))) ≤ (giC S x0 1) then (b_Y9_append_36 S x0 x1) else (b_Y9_append_36 (siC (siC S ((grC S x0 0).getD 0) (giC S x0 1).toNatClampNeg x1) x0 1 ((giC (siC S ((grC S x0 0).getD 0) (giC S x0 1).toNatClampNeg x1) x0 1) + 1)) x0 x1)
def p_Y9_append (S : Cst) (x0 : Nat) (x1 : Int32) : Prop := (if x1 = 0 then (q_Y9_append_36 S x0 x1) else (iR S (grC S x0 0) 20) ∧ (if (Int32.ofNat (lnC S ((grC S x0 0).getD 0))) ≤ (giC S x0 1) then (q_Y9_append_36 S x0 x1) else (iR S (grC S x0 0) 20) ∧ (vp_in (giC S x0 1) (lnC S ((grC S x0 0).getD 0))) ∧ (q_Y9_append_36 (siC (siC S ((grC S x0 0).getD 0) (giC S x0 1).toNatClampNeg x1) x0 1 ((giC (siC S ((grC S x0 0).getD 0) (giC S x0 1).toNatClampNeg x1) x0 1) + 1)) x0 x1)))
def e_Y9_append : List Cond := [.fieldLink RX9 15 "MotionFloor$Text" "size" "I", .fieldLink RX9 9 "MotionFloor$Text" "words" "[I"]
def v_Y9_append : List Cond := .code yX9_append cX9_append 2 none :: (e_Y9_append ++ (wsX90 ++ []))
theorem te_Y9_append : GoodIn lw_tbl e_Y9_append := wGc zc120 (wGc zc119 (wG0))
theorem t_Y9_append : GoodIn lw_tbl v_Y9_append := wGc zc148 (wGa te_Y9_append (wGa zcX9 (wG0)))
set_option maxHeartbeats 4000000 in
set_option maxRecDepth 100000 in
theorem c_Y9_append (l : Launch) (G : va_G) (K : Nat → ClassId) (ad : Nat → Nat) (S0 : Cst) (x0 : Nat) (a1 : Int32) (sz : Nat) : Met l yX9_append v_Y9_append ({ frames := 0, cells := 0, slots := 0, locals := 0 }) (va_Pc [.ref (ad x0), .int a1] (cSt G K ad sz S0 (iK S0 x0 6 ∧ p_Y9_append S0 x0 a1))) (va_Qv (fun u : Cst => (0, u) = f_Y9_append S0 x0 a1 ∧ eK S0 u) (cBt G K ad (va_A (wsC K ad S0) sz)) (va_A (wsC K ad S0) sz)) 0 0 (va_A (wsC K ad S0) sz) := by
  refine Met.ofW (cc := cX9_append) (maxL := 2) (ret := none) (by decide) rfl ?_
  intro p e s m args below meth c s₁ B hml hv
  obtain ⟨rfl, ⟨hsz, hP, hK, hD0, hTE⟩, hp⟩ := hv
  obtain ⟨k_x0, hp⟩ := hp
  have hx := B.exec
  have hb := B.bytes
  have hr := B.returns
  have hts := atoms_spec (ws := v_Y9_append) B.pre
  have t_ := t_Y9_append
  have mw : ∀ w ∈ e_Y9_append, w ∈ v_Y9_append := fun w h => List.mem_cons_of_mem _ (List.mem_append_left _ h)
  have hw := fun w (h : w ∈ e_Y9_append) => hts w (mw w h)
  have iX9 : ∀ w ∈ wsX90, w ∈ v_Y9_append := fun w h => List.mem_cons_of_mem _ (List.mem_append_right _ (List.mem_append_left _ h))
  have hown : s.vm.findClass RX9 = some m.cls := findClass_of_methodNamed B.named
  have hlocks := B.notSynchronized
  subst hsz
  have hD := hD0.self (sz := s.heap.size)
  generalize hAe : va_A (wsC K ad S0) s.heap.size = A at hD ⊢
  have hA : ∀ q : Nat, s.heap.size ≤ q → A q := fun q h => by rw [← hAe]; exact Or.inr h
  have hS : va_S A s.heap s.heap [] := va_S.rf
  have hl : lv_has (lg_sl ([.ref (ad x0), .int a1]) ++ List.replicate (2 - (lg_sl ([.ref (ad x0), .int a1])).length) Slot.unset).toArray 2 [(0, .ref (ad x0)), (1, .int a1)] := by
    exact lv_entry ([.ref (ad x0), .int a1]) (n := 2) (Nat.le_of_ble_eq_true rfl)
  rw [lg_entry_eq]
  generalize (lg_sl ([.ref (ad x0), .int a1]) ++ List.replicate (2 - (lg_sl ([.ref (ad x0), .int a1])).length) Slot.unset).toArray = ls_ at hl ⊢
  refine wGen (fun Q hQ => ?_)
  obtain ⟨X, hX⟩ : ∃ X, f_Y9_append S0 x0 a1 = X := ⟨_, rfl⟩
  have B_Y9_append_36 : ∀ (S : Cst) (x1 : Int32) (H : Heap) (locs : List Loc) (ls_ : Array Slot), b_Y9_append_36 S x0 x1 = X → q_Y9_append_36 S x0 x1 → eK S0 S → va_P G vwCl (wsC K ad S) H → va_D A (wsC K ad S) → va_S A s.heap H locs → lv_has ls_ 2 [(0, .ref (ad x0)), (1, .int x1)] → W p l e ({ frames := 0, cells := 0, slots := 0, locals := 0 } : Room) s m #[Value.ref (ad x0), Value.int a1] below meth c H locs 0 0 Q (F0 m 36 ls_ []) := by
    intro S x1 H locs ls_ hE hp hZ hP hD hS hl
    unfold b_Y9_append_36 at hE
    unfold q_Y9_append_36 at hp
    subst hQ
    exact W.vret hx hb hr (fun t ht hW => ⟨⟨S, rfl, ⟨hE.trans hX.symm, hZ⟩, by rw [ht]; exact hP, hD⟩, hS.F ht⟩) hS.2.2 dX9_append_36
  have B_M : ∀ (S : Cst) (x1 : Int32) (H : Heap) (locs : List Loc) (ls_ : Array Slot), f_Y9_append S x0 x1 = X → p_Y9_append S x0 x1 → eK S0 S → va_P G vwCl (wsC K ad S) H → va_D A (wsC K ad S) → va_S A s.heap H locs → lv_has ls_ 2 [(0, .ref (ad x0)), (1, .int x1)] → W p l e ({ frames := 0, cells := 0, slots := 0, locals := 0 } : Room) s m #[Value.ref (ad x0), Value.int a1] below meth c H locs 0 0 Q (F0 m 0 ls_ []) := by
    intro S x1 H locs ls_ hE hp hZ hP hD hS hl
    unfold f_Y9_append at hE
    unfold p_Y9_append at hp
    refine lv_iload_n hx hb dX9_append_0 rfl (lv_at hl 1 rfl) ?_
    refine lv_if_eq (tgt := 36) hx hb dX9_append_1 (by decide) (fun c1 => ?_) (fun c1 => ?_)
    · rw [if_pos c1] at hE hp
      exact B_Y9_append_36 S x1 _ _ _ hE hp hZ hP hD hS (lv_sub hl [0, 1] rfl)
    · rw [if_neg c1] at hE hp
      refine lv_aload_n hx hb dX9_append_4 rfl (lv_at hl 0 rfl) ?_
      refine va_get (D := G) (ci := 6) (v := .int (giC S x0 1)) (C := RX9) (T := TX9) (N := 2) hx hb hts iX9 hown hK hP x0 (at_6 (k_x0.e hZ)) rfl 1 (by decide) (hw (.fieldLink RX9 15 "MotionFloor$Text" "size" "I") (List.mem_of_getElem? (i := 0) rfl)) (fun _ h9 => h9) rfl dX9_append_5 ?_
      refine lv_aload_n hx hb dX9_append_8 rfl (lv_at hl 0 rfl) ?_
      refine va_get (D := G) (ci := 6) (v := va_re ad (grC S x0 0)) (C := RX9) (T := TX9) (N := 2) hx hb hts iX9 hown hK hP x0 (at_6 (k_x0.e hZ)) rfl 0 (by decide) (hw (.fieldLink RX9 9 "MotionFloor$Text" "words" "[I") (List.mem_of_getElem? (i := 1) rfl)) (fun _ h9 => h9) rfl dX9_append_9 ?_
      obtain ⟨hy2, hp⟩ := hp
      refine cTop (r := (grC S x0 0)) hy2.1 ?_
      refine va_alen (v := (Int32.ofNat (lnC S ((grC S x0 0).getD 0)))) hx hb hK hP ((grC S x0 0).getD 0) 0 (at_20 hy2.2) rfl rfl dX9_append_12 ?_
      refine lv_icmp_ge (tgt := 36) hx hb dX9_append_13 (by decide) (fun c3 => ?_) (fun c3 => ?_)
      · rw [if_pos c3] at hE hp
        exact B_Y9_append_36 S x1 _ _ _ hE hp hZ hP hD hS (lv_sub hl [0, 1] rfl)
      · rw [if_neg c3] at hE hp
        refine lv_aload_n hx hb dX9_append_16 rfl (lv_at hl 0 rfl) ?_
        refine va_get (D := G) (ci := 6) (v := va_re ad (grC S x0 0)) (C := RX9) (T := TX9) (N := 2) hx hb hts iX9 hown hK hP x0 (at_6 (k_x0.e hZ)) rfl 0 (by decide) (hw (.fieldLink RX9 9 "MotionFloor$Text" "words" "[I") (List.mem_of_getElem? (i := 1) rfl)) (fun _ h9 => h9) rfl dX9_append_17 ?_
        refine lv_aload_n hx hb dX9_append_20 rfl (lv_at hl 0 rfl) ?_
        refine va_get (D := G) (ci := 6) (v := .int (giC S x0 1)) (C := RX9) (T := TX9) (N := 2) hx hb hts iX9 hown hK hP x0 (at_6 (k_x0.e hZ)) rfl 1 (by decide) (hw (.fieldLink RX9 15 "MotionFloor$Text" "size" "I") (List.mem_of_getElem? (i := 0) rfl)) (fun _ h9 => h9) rfl dX9_append_21 ?_
        refine lv_iload_n hx hb dX9_append_24 rfl (lv_at hl 1 rfl) ?_
        obtain ⟨hy4, hp⟩ := hp
        refine cTop3 (r := (grC S x0 0)) hy4.1 ?_
        obtain ⟨hy5, hp⟩ := hp
        refine va_iast hx hb hK hP hD hS ((grC S x0 0).getD 0) 0 (at_20 hy4.2) rfl hy5 dX9_append_25 (fun H locs hP hD hS => ?_)
        rw [sa_20 hy4.2] at hP hD
        have hZ := hZ.tr (eK.si S ((grC S x0 0).getD 0) (giC S x0 1).toNatClampNeg x1)
        refine lv_aload_n hx hb dX9_append_26 rfl (lv_at hl 0 rfl) ?_
        refine lv_dup hx hb dX9_append_27 rfl ?_
        refine va_get (D := G) (ci := 6) (v := .int (giC (siC S ((grC S x0 0).getD 0) (giC S x0 1).toNatClampNeg x1) x0 1)) (C := RX9) (T := TX9) (N := 2) hx hb hts iX9 hown hK hP x0 (at_6 (k_x0.e hZ)) rfl 1 (by decide) (hw (.fieldLink RX9 15 "MotionFloor$Text" "size" "I") (List.mem_of_getElem? (i := 0) rfl)) (fun _ h9 => h9) rfl dX9_append_28 ?_
        refine lv_iconst (v := 1) hx hb dX9_append_31 (by decide) ?_
        refine lv_iadd hx hb dX9_append_32 ?_
        refine va_put (D := G) (ci := 6) (v := .int ((giC (siC S ((grC S x0 0).getD 0) (giC S x0 1).toNatClampNeg x1) x0 1) + 1)) (ty := .int) (C := RX9) (T := TX9) (N := 2) hx hb hts iX9 tyX9 tyX9_ok nmX9 hown hK hP hD hS x0 (at_6 (k_x0.e hZ)) rfl 1 (by decide) (hw (.fieldLink RX9 15 "MotionFloor$Text" "size" "I") (List.mem_of_getElem? (i := 0) rfl)) (fun _ h9 => h9) rfl (by decide +kernel) rfl rfl (Nat.le_of_ble_eq_true rfl) dX9_append_33 (fun H locs hP hD hS => ?_)
        rw [st_6_1 (k_x0.e hZ)] at hP hD
        have hZ := hZ.tr (eK.si (siC S ((grC S x0 0).getD 0) (giC S x0 1).toNatClampNeg x1) x0 1 ((giC (siC S ((grC S x0 0).getD 0) (giC S x0 1).toNatClampNeg x1) x0 1) + 1))
        exact B_Y9_append_36 (siC (siC S ((grC S x0 0).getD 0) (giC S x0 1).toNatClampNeg x1) x0 1 ((giC (siC S ((grC S x0 0).getD 0) (giC S x0 1).toNatClampNeg x1) x0 1) + 1)) x1 _ _ _ hE hp hZ hP hD hS (lv_sub hl [0, 1] rfl)
  exact B_M S0 a1 _ _ _ hX hp (eK.rf S0) hP hD hS hl
theorem gdX1_addWords_25 : ckS (List.drop 25 cX1_addWords.data.toList) 25 [(25, .aload 5, 2), (27, .getfield 148, 3), (30, .iload_n 2, 1), (31, .invokevirtual 152, 3), (34, .aload 5, 2), (36, .getfield 148, 3), (39, .iload_n 3, 1), (40, .invokevirtual 152, 3), (43, .aload 5, 2), (45, .getfield 148, 3), (48, .iload 4, 2), (50, .invokevirtual 152, 3), (53, .aload 5, 2), (55, .getfield 148, 3), (58, .getfield 158, 3), (61, .ireturn, 1)] = true := by decide +kernel
theorem dX1_addWords_25 : decode cX1_addWords 25 = .ok (.aload 5, 2) := ckS_g gdX1_addWords_25 0 rfl
theorem dX1_addWords_27 : decode cX1_addWords 27 = .ok (.getfield 148, 3) := ckS_g gdX1_addWords_25 1 rfl
theorem dX1_addWords_30 : decode cX1_addWords 30 = .ok (.iload_n 2, 1) := ckS_g gdX1_addWords_25 2 rfl
theorem dX1_addWords_31 : decode cX1_addWords 31 = .ok (.invokevirtual 152, 3) := ckS_g gdX1_addWords_25 3 rfl
theorem dX1_addWords_34 : decode cX1_addWords 34 = .ok (.aload 5, 2) := ckS_g gdX1_addWords_25 4 rfl
theorem dX1_addWords_36 : decode cX1_addWords 36 = .ok (.getfield 148, 3) := ckS_g gdX1_addWords_25 5 rfl
theorem dX1_addWords_39 : decode cX1_addWords 39 = .ok (.iload_n 3, 1) := ckS_g gdX1_addWords_25 6 rfl
theorem dX1_addWords_40 : decode cX1_addWords 40 = .ok (.invokevirtual 152, 3) := ckS_g gdX1_addWords_25 7 rfl
theorem dX1_addWords_43 : decode cX1_addWords 43 = .ok (.aload 5, 2) := ckS_g gdX1_addWords_25 8 rfl
theorem dX1_addWords_45 : decode cX1_addWords 45 = .ok (.getfield 148, 3) := ckS_g gdX1_addWords_25 9 rfl
theorem dX1_addWords_48 : decode cX1_addWords 48 = .ok (.iload 4, 2) := ckS_g gdX1_addWords_25 10 rfl
theorem dX1_addWords_50 : decode cX1_addWords 50 = .ok (.invokevirtual 152, 3) := ckS_g gdX1_addWords_25 11 rfl
theorem dX1_addWords_53 : decode cX1_addWords 53 = .ok (.aload 5, 2) := ckS_g gdX1_addWords_25 12 rfl
theorem dX1_addWords_55 : decode cX1_addWords 55 = .ok (.getfield 148, 3) := ckS_g gdX1_addWords_25 13 rfl
theorem dX1_addWords_58 : decode cX1_addWords 58 = .ok (.getfield 158, 3) := ckS_g gdX1_addWords_25 14 rfl
theorem dX1_addWords_61 : decode cX1_addWords 61 = .ok (.ireturn, 1) := ckS_g gdX1_addWords_25 15 rfl
set_option maxRecDepth 100000 in
theorem zc149 : wZ (.fieldLink RX1 158 "MotionFloor$Text" "size" "I") := ⟨wT1 (List.mem_of_getElem? (i := 157) (by decide +kernel)), Or.inl rfl⟩
set_option maxRecDepth 100000 in
theorem zc150 : wZ (.selects RX9 yX9_append yX9_append) := ⟨wT3 (List.mem_of_getElem? (i := 124) (by decide +kernel)), Or.inl rfl⟩
set_option maxRecDepth 100000 in
theorem zc151 : wZ (.instanceMethod yX9_append) := ⟨wT3 (List.mem_of_getElem? (i := 123) (by decide +kernel)), Or.inl rfl⟩
set_option maxRecDepth 100000 in
theorem zc152 : wZ (.methodLink RX1 152 yX9_append) := ⟨wT3 (List.mem_of_getElem? (i := 122) (by decide +kernel)), Or.inl rfl⟩
set_option maxRecDepth 100000 in
theorem zc153 : wZ (.fieldLink RX1 148 "MotionFloor$Motion" "text" "LMotionFloor$Text;") := ⟨wT3 (List.mem_of_getElem? (i := 56) (by decide +kernel)), Or.inl rfl⟩
set_option maxRecDepth 100000 in
theorem zc154 : wZ (.code yX1_addWords cX1_addWords 6 (some .int)) := ⟨wT3 (List.mem_of_getElem? (i := 121) rfl), Or.inl rfl⟩
def b_Y1_addWords_53a (S : Cst) (x0 : Nat) (x1 : Int32) (x2 : Int32) (x3 : Int32) (x4 : Int32) (x5 : Option Nat) : Int32 × Cst := ((giC S ((grC S (x5.getD 0) 12).getD 0) 1), S)
def q_Y1_addWords_53a (S : Cst) (x0 : Nat) (x1 : Int32) (x2 : Int32) (x3 : Int32) (x4 : Int32) (x5 : Option Nat) : Prop := (iR S x5 3) ∧ (iR S (grC S (x5.getD 0) 12) 6) ∧ True
def b_Y1_addWords_43a (S : Cst) (x0 : Nat) (x1 : Int32) (x2 : Int32) (x3 : Int32) (x4 : Int32) (x5 : Option Nat) : Int32 × Cst := (b_Y1_addWords_53a ((f_Y9_append S ((grC S (x5.getD 0) 12).getD 0) x4).2) x0 x1 x2 x3 x4 x5)
def q_Y1_addWords_43a (S : Cst) (x0 : Nat) (x1 : Int32) (x2 : Int32) (x3 : Int32) (x4 : Int32) (x5 : Option Nat) : Prop := (iR S x5 3) ∧ (iR S (grC S (x5.getD 0) 12) 6) ∧ (p_Y9_append S ((grC S (x5.getD 0) 12).getD 0) x4) ∧ (q_Y1_addWords_53a ((f_Y9_append S ((grC S (x5.getD 0) 12).getD 0) x4).2) x0 x1 x2 x3 x4 x5)
def b_Y1_addWords_34a (S : Cst) (x0 : Nat) (x1 : Int32) (x2 : Int32) (x3 : Int32) (x4 : Int32) (x5 : Option Nat) : Int32 × Cst := (b_Y1_addWords_43a ((f_Y9_append S ((grC S (x5.getD 0) 12).getD 0) x3).2) x0 x1 x2 x3 x4 x5)
def q_Y1_addWords_34a (S : Cst) (x0 : Nat) (x1 : Int32) (x2 : Int32) (x3 : Int32) (x4 : Int32) (x5 : Option Nat) : Prop := (iR S x5 3) ∧ (iR S (grC S (x5.getD 0) 12) 6) ∧ (p_Y9_append S ((grC S (x5.getD 0) 12).getD 0) x3) ∧ (q_Y1_addWords_43a ((f_Y9_append S ((grC S (x5.getD 0) 12).getD 0) x3).2) x0 x1 x2 x3 x4 x5)
def b_Y1_addWords_25a (S : Cst) (x0 : Nat) (x1 : Int32) (x2 : Int32) (x3 : Int32) (x4 : Int32) (x5 : Option Nat) : Int32 × Cst := (b_Y1_addWords_34a ((f_Y9_append S ((grC S (x5.getD 0) 12).getD 0) x2).2) x0 x1 x2 x3 x4 x5)
def q_Y1_addWords_25a (S : Cst) (x0 : Nat) (x1 : Int32) (x2 : Int32) (x3 : Int32) (x4 : Int32) (x5 : Option Nat) : Prop := (iR S x5 3) ∧ (iR S (grC S (x5.getD 0) 12) 6) ∧ (p_Y9_append S ((grC S (x5.getD 0) 12).getD 0) x2) ∧ (q_Y1_addWords_34a ((f_Y9_append S ((grC S (x5.getD 0) 12).getD 0) x2).2) x0 x1 x2 x3 x4 x5)
def f_Y1_addWords (S : Cst) (x0 : Nat) (x1 : Int32) (x2 : Int32) (x3 : Int32) (x4 : Int32) : Int32 × Cst := if (f_Y6_motion S ((grC S x0 2).getD 0)) = none then ((0 : Int32), S) else (b_Y1_addWords_25a ((f_Y9_append S ((grC S ((f_Y6_motion S ((grC S x0 2).getD 0)).getD 0) 12).getD 0) x1).2) x0 x1 x2 x3 x4 (f_Y6_motion S ((grC S x0 2).getD 0)))
def p_Y1_addWords (S : Cst) (x0 : Nat) (x1 : Int32) (x2 : Int32) (x3 : Int32) (x4 : Int32) : Prop := (iR S (grC S x0 2) 5) ∧ (p_Y6_motion S ((grC S x0 2).getD 0)) ∧ (if (f_Y6_motion S ((grC S x0 2).getD 0)) = none then True else (iR S (f_Y6_motion S ((grC S x0 2).getD 0)) 3) ∧ (iR S (grC S ((f_Y6_motion S ((grC S x0 2).getD 0)).getD 0) 12) 6) ∧ (p_Y9_append S ((grC S ((f_Y6_motion S ((grC S x0 2).getD 0)).getD 0) 12).getD 0) x1) ∧ (q_Y1_addWords_25a ((f_Y9_append S ((grC S ((f_Y6_motion S ((grC S x0 2).getD 0)).getD 0) 12).getD 0) x1).2) x0 x1 x2 x3 x4 (f_Y6_motion S ((grC S x0 2).getD 0))))
def e_Y1_addWords : List Cond := [.fieldLink RX1 121 "MotionFloor$Assembly" "draft" "LMotionFloor$Place;", .methodLink RX1 139 yX6_motion, .instanceMethod yX6_motion, .selects RX6 yX6_motion yX6_motion, .initialized RX6, .fieldLink RX1 148 "MotionFloor$Motion" "text" "LMotionFloor$Text;", .methodLink RX1 152 yX9_append, .instanceMethod yX9_append, .selects RX9 yX9_append yX9_append, .initialized RX9, .fieldLink RX1 158 "MotionFloor$Text" "size" "I"]
def v_Y1_addWords : List Cond := .code yX1_addWords cX1_addWords 6 (some .int) :: (e_Y1_addWords ++ (wsX00 ++ (wsX40 ++ (wsX90 ++ (v_Y6_motion ++ (v_Y9_append ++ []))))))
theorem te_Y1_addWords : GoodIn lw_tbl e_Y1_addWords := wGc zc146 (wGc zc145 (wGc zc128 (wGc zc127 (wGc zc112 (wGc zc153 (wGc zc152 (wGc zc151 (wGc zc150 (wGc zc130 (wGc zc149 (wG0)))))))))))
theorem t_Y1_addWords : GoodIn lw_tbl v_Y1_addWords := wGc zc154 (wGa te_Y1_addWords (wGa zcX0 (wGa zcX4 (wGa zcX9 (wGa t_Y6_motion (wGa t_Y9_append (wG0)))))))
set_option maxHeartbeats 4000000 in
set_option maxRecDepth 100000 in
theorem c_Y1_addWords (l : Launch) (G : va_G) (K : Nat → ClassId) (ad : Nat → Nat) (S0 : Cst) (x0 : Nat) (a1 : Int32) (a2 : Int32) (a3 : Int32) (a4 : Int32) (sz : Nat) : Met l yX1_addWords v_Y1_addWords ({ frames := 2, cells := 0, slots := 0, locals := 41 }) (va_Pc [.ref (ad x0), .int a1, .int a2, .int a3, .int a4] (cSt G K ad sz S0 (iK S0 x0 0 ∧ p_Y1_addWords S0 x0 a1 a2 a3 a4))) (va_Qi (fun (r : Int32) (u : Cst) => (r, u) = f_Y1_addWords S0 x0 a1 a2 a3 a4 ∧ eK S0 u) (cBt G K ad (va_A (wsC K ad S0) sz)) (va_A (wsC K ad S0) sz)) 0 0 (va_A (wsC K ad S0) sz) := by
  refine Met.ofW (cc := cX1_addWords) (maxL := 6) (ret := (some .int)) (by decide) rfl ?_
  intro p e s m args below meth c s₁ B hml hv
  obtain ⟨rfl, ⟨hsz, hP, hK, hD0, hTE⟩, hp⟩ := hv
  obtain ⟨k_x0, hp⟩ := hp
  have hx := B.exec
  have hb := B.bytes
  have hr := B.returns
  have hts := atoms_spec (ws := v_Y1_addWords) B.pre
  have t_ := t_Y1_addWords
  have mw : ∀ w ∈ e_Y1_addWords, w ∈ v_Y1_addWords := fun w h => List.mem_cons_of_mem _ (List.mem_append_left _ h)
  have hw := fun w (h : w ∈ e_Y1_addWords) => hts w (mw w h)
  have iX0 : ∀ w ∈ wsX00, w ∈ v_Y1_addWords := fun w h => List.mem_cons_of_mem _ (List.mem_append_right _ (List.mem_append_left _ h))
  have iX4 : ∀ w ∈ wsX40, w ∈ v_Y1_addWords := fun w h => List.mem_cons_of_mem _ (List.mem_append_right _ (List.mem_append_right _ (List.mem_append_left _ h)))
  have iX9 : ∀ w ∈ wsX90, w ∈ v_Y1_addWords := fun w h => List.mem_cons_of_mem _ (List.mem_append_right _ (List.mem_append_right _ (List.mem_append_right _ (List.mem_append_left _ h))))
  have j_Y6_motion : ∀ w ∈ v_Y6_motion, w ∈ v_Y1_addWords := fun w h => List.mem_cons_of_mem _ (List.mem_append_right _ (List.mem_append_right _ (List.mem_append_right _ (List.mem_append_right _ (List.mem_append_left _ h)))))
  have j_Y9_append : ∀ w ∈ v_Y9_append, w ∈ v_Y1_addWords := fun w h => List.mem_cons_of_mem _ (List.mem_append_right _ (List.mem_append_right _ (List.mem_append_right _ (List.mem_append_right _ (List.mem_append_right _ (List.mem_append_left _ h))))))
  have hown : s.vm.findClass RX1 = some m.cls := findClass_of_methodNamed B.named
  have hlocks := B.notSynchronized
  subst hsz
  have hD := hD0.self (sz := s.heap.size)
  generalize hAe : va_A (wsC K ad S0) s.heap.size = A at hD ⊢
  have hA : ∀ q : Nat, s.heap.size ≤ q → A q := fun q h => by rw [← hAe]; exact Or.inr h
  have hS : va_S A s.heap s.heap [] := va_S.rf
  have hl : lv_has (lg_sl ([.ref (ad x0), .int a1, .int a2, .int a3, .int a4]) ++ List.replicate (6 - (lg_sl ([.ref (ad x0), .int a1, .int a2, .int a3, .int a4])).length) Slot.unset).toArray 6 [(0, .ref (ad x0)), (1, .int a1), (2, .int a2), (3, .int a3), (4, .int a4)] := by
    exact lv_entry ([.ref (ad x0), .int a1, .int a2, .int a3, .int a4]) (n := 6) (Nat.le_of_ble_eq_true rfl)
  rw [lg_entry_eq]
  generalize (lg_sl ([.ref (ad x0), .int a1, .int a2, .int a3, .int a4]) ++ List.replicate (6 - (lg_sl ([.ref (ad x0), .int a1, .int a2, .int a3, .int a4])).length) Slot.unset).toArray = ls_ at hl ⊢
  refine wGen (fun Q hQ => ?_)
  obtain ⟨X, hX⟩ : ∃ X, f_Y1_addWords S0 x0 a1 a2 a3 a4 = X := ⟨_, rfl⟩
  have B_Y1_addWords_53a : ∀ (S : Cst) (x1 : Int32) (x2 : Int32) (x3 : Int32) (x4 : Int32) (x5 : Option Nat) (H : Heap) (locs : List Loc) (ls_ : Array Slot), b_Y1_addWords_53a S x0 x1 x2 x3 x4 x5 = X → q_Y1_addWords_53a S x0 x1 x2 x3 x4 x5 → eK S0 S → va_P G vwCl (wsC K ad S) H → va_D A (wsC K ad S) → va_S A s.heap H locs → lv_has ls_ 6 [(0, .ref (ad x0)), (1, .int x1), (2, .int x2), (3, .int x3), (4, .int x4), (5, va_re ad x5)] → W p l e ({ frames := 2, cells := 0, slots := 0, locals := 41 } : Room) s m #[Value.ref (ad x0), Value.int a1, Value.int a2, Value.int a3, Value.int a4] below meth c H locs 0 0 Q (F0 m 53 ls_ []) := by
    intro S x1 x2 x3 x4 x5 H locs ls_ hE hp hZ hP hD hS hl
    unfold b_Y1_addWords_53a at hE
    unfold q_Y1_addWords_53a at hp
    refine cAload (ad := ad) (r := x5) hx hb dX1_addWords_53 (lv_at hl 5 rfl) ?_
    obtain ⟨hy26, hp⟩ := hp
    refine cTop (r := x5) hy26.1 ?_
    refine va_get (D := G) (ci := 3) (v := va_re ad (grC S (x5.getD 0) 12)) (C := RX4) (T := TX4) (N := 16) hx hb hts iX4 hown hK hP (x5.getD 0) (at_3 hy26.2) rfl 12 (by decide) (hw (.fieldLink RX1 148 "MotionFloor$Motion" "text" "LMotionFloor$Text;") (List.mem_of_getElem? (i := 5) rfl)) (fun _ h9 => h9) rfl dX1_addWords_55 ?_
    obtain ⟨hy27, hp⟩ := hp
    refine cTop (r := (grC S (x5.getD 0) 12)) hy27.1 ?_
    refine va_get (D := G) (ci := 6) (v := .int (giC S ((grC S (x5.getD 0) 12).getD 0) 1)) (C := RX9) (T := TX9) (N := 2) hx hb hts iX9 hown hK hP ((grC S (x5.getD 0) 12).getD 0) (at_6 hy27.2) rfl 1 (by decide) (hw (.fieldLink RX1 158 "MotionFloor$Text" "size" "I") (List.mem_of_getElem? (i := 10) rfl)) (fun _ h9 => h9) rfl dX1_addWords_58 ?_
    subst hQ
    exact W.iret (v := (giC S ((grC S (x5.getD 0) 12).getD 0) 1)) hx hb hr (fun t ht hW => ⟨⟨(giC S ((grC S (x5.getD 0) 12).getD 0) 1), S, rfl, ⟨hE.trans hX.symm, hZ⟩, by rw [ht]; exact hP, hD⟩, hS.F ht⟩) hS.2.2 dX1_addWords_61
  have B_Y1_addWords_43a : ∀ (S : Cst) (x1 : Int32) (x2 : Int32) (x3 : Int32) (x4 : Int32) (x5 : Option Nat) (H : Heap) (locs : List Loc) (ls_ : Array Slot), b_Y1_addWords_43a S x0 x1 x2 x3 x4 x5 = X → q_Y1_addWords_43a S x0 x1 x2 x3 x4 x5 → eK S0 S → va_P G vwCl (wsC K ad S) H → va_D A (wsC K ad S) → va_S A s.heap H locs → lv_has ls_ 6 [(0, .ref (ad x0)), (1, .int x1), (2, .int x2), (3, .int x3), (4, .int x4), (5, va_re ad x5)] → W p l e ({ frames := 2, cells := 0, slots := 0, locals := 41 } : Room) s m #[Value.ref (ad x0), Value.int a1, Value.int a2, Value.int a3, Value.int a4] below meth c H locs 0 0 Q (F0 m 43 ls_ []) := by
    intro S x1 x2 x3 x4 x5 H locs ls_ hE hp hZ hP hD hS hl
    unfold b_Y1_addWords_43a at hE
    unfold q_Y1_addWords_43a at hp
    refine cAload (ad := ad) (r := x5) hx hb dX1_addWords_43 (lv_at hl 5 rfl) ?_
    obtain ⟨hy21, hp⟩ := hp
    refine cTop (r := x5) hy21.1 ?_
    refine va_get (D := G) (ci := 3) (v := va_re ad (grC S (x5.getD 0) 12)) (C := RX4) (T := TX4) (N := 16) hx hb hts iX4 hown hK hP (x5.getD 0) (at_3 hy21.2) rfl 12 (by decide) (hw (.fieldLink RX1 148 "MotionFloor$Motion" "text" "LMotionFloor$Text;") (List.mem_of_getElem? (i := 5) rfl)) (fun _ h9 => h9) rfl dX1_addWords_45 ?_
    refine lv_iload hx hb dX1_addWords_48 (lv_at hl 4 rfl) ?_
    obtain ⟨hy22, hp⟩ := hp
    refine cTop2 (r := (grC S (x5.getD 0) 12)) hy22.1 ?_
    obtain ⟨hy23, hp⟩ := hp
    refine cGov (va_runV (As := [.int x4]) (rest := []) ⟨hx, hb, hml, hown, hts⟩ (c_Y9_append l G K ad S ((grC S (x5.getD 0) 12).getD 0) x4 _) (cwV 1 hts (wGV t_ (mw (.methodLink RX1 152 yX9_append) (List.mem_of_getElem? (i := 6) rfl)) (mw (.instanceMethod yX9_append) (List.mem_of_getElem? (i := 7) rfl)) (mw (.selects RX9 yX9_append yX9_append) (List.mem_of_getElem? (i := 8) rfl)) (mw (.initialized RX9) (List.mem_of_getElem? (i := 9) rfl)) j_Y9_append) rfl rfl rfl (by decide +kernel) ⟨Nat.le_of_ble_eq_true rfl, Nat.le_of_ble_eq_true rfl⟩) (cPV hK hTE hP hD 6 rfl (at_6 hy22.2) ⟨hy22.2, hy23⟩) rfl rfl hl.1 rfl (lv_room (Nat.le_of_ble_eq_true rfl)) dX1_addWords_50 ⟨Nat.le_of_ble_eq_true rfl, Nat.le_of_ble_eq_true rfl⟩) hP hD hS hA (fun u24 H locs hv hP hD hS => ?_)
    obtain ⟨hv, hz⟩ := hv
    have hZ := hZ.tr hz
    rw [← hv] at hE hp
    dsimp only at hE hp
    exact B_Y1_addWords_53a u24 x1 x2 x3 x4 x5 _ _ _ hE hp hZ hP hD hS (lv_sub hl [0, 1, 2, 3, 4, 5] rfl)
  have B_Y1_addWords_34a : ∀ (S : Cst) (x1 : Int32) (x2 : Int32) (x3 : Int32) (x4 : Int32) (x5 : Option Nat) (H : Heap) (locs : List Loc) (ls_ : Array Slot), b_Y1_addWords_34a S x0 x1 x2 x3 x4 x5 = X → q_Y1_addWords_34a S x0 x1 x2 x3 x4 x5 → eK S0 S → va_P G vwCl (wsC K ad S) H → va_D A (wsC K ad S) → va_S A s.heap H locs → lv_has ls_ 6 [(0, .ref (ad x0)), (1, .int x1), (2, .int x2), (3, .int x3), (4, .int x4), (5, va_re ad x5)] → W p l e ({ frames := 2, cells := 0, slots := 0, locals := 41 } : Room) s m #[Value.ref (ad x0), Value.int a1, Value.int a2, Value.int a3, Value.int a4] below meth c H locs 0 0 Q (F0 m 34 ls_ []) := by
    intro S x1 x2 x3 x4 x5 H locs ls_ hE hp hZ hP hD hS hl
    unfold b_Y1_addWords_34a at hE
    unfold q_Y1_addWords_34a at hp
    refine cAload (ad := ad) (r := x5) hx hb dX1_addWords_34 (lv_at hl 5 rfl) ?_
    obtain ⟨hy16, hp⟩ := hp
    refine cTop (r := x5) hy16.1 ?_
    refine va_get (D := G) (ci := 3) (v := va_re ad (grC S (x5.getD 0) 12)) (C := RX4) (T := TX4) (N := 16) hx hb hts iX4 hown hK hP (x5.getD 0) (at_3 hy16.2) rfl 12 (by decide) (hw (.fieldLink RX1 148 "MotionFloor$Motion" "text" "LMotionFloor$Text;") (List.mem_of_getElem? (i := 5) rfl)) (fun _ h9 => h9) rfl dX1_addWords_36 ?_
    refine lv_iload_n hx hb dX1_addWords_39 rfl (lv_at hl 3 rfl) ?_
    obtain ⟨hy17, hp⟩ := hp
    refine cTop2 (r := (grC S (x5.getD 0) 12)) hy17.1 ?_
    obtain ⟨hy18, hp⟩ := hp
    refine cGov (va_runV (As := [.int x3]) (rest := []) ⟨hx, hb, hml, hown, hts⟩ (c_Y9_append l G K ad S ((grC S (x5.getD 0) 12).getD 0) x3 _) (cwV 1 hts (wGV t_ (mw (.methodLink RX1 152 yX9_append) (List.mem_of_getElem? (i := 6) rfl)) (mw (.instanceMethod yX9_append) (List.mem_of_getElem? (i := 7) rfl)) (mw (.selects RX9 yX9_append yX9_append) (List.mem_of_getElem? (i := 8) rfl)) (mw (.initialized RX9) (List.mem_of_getElem? (i := 9) rfl)) j_Y9_append) rfl rfl rfl (by decide +kernel) ⟨Nat.le_of_ble_eq_true rfl, Nat.le_of_ble_eq_true rfl⟩) (cPV hK hTE hP hD 6 rfl (at_6 hy17.2) ⟨hy17.2, hy18⟩) rfl rfl hl.1 rfl (lv_room (Nat.le_of_ble_eq_true rfl)) dX1_addWords_40 ⟨Nat.le_of_ble_eq_true rfl, Nat.le_of_ble_eq_true rfl⟩) hP hD hS hA (fun u19 H locs hv hP hD hS => ?_)
    obtain ⟨hv, hz⟩ := hv
    have hZ := hZ.tr hz
    rw [← hv] at hE hp
    dsimp only at hE hp
    exact B_Y1_addWords_43a u19 x1 x2 x3 x4 x5 _ _ _ hE hp hZ hP hD hS (lv_sub hl [0, 1, 2, 3, 4, 5] rfl)
  have B_Y1_addWords_25a : ∀ (S : Cst) (x1 : Int32) (x2 : Int32) (x3 : Int32) (x4 : Int32) (x5 : Option Nat) (H : Heap) (locs : List Loc) (ls_ : Array Slot), b_Y1_addWords_25a S x0 x1 x2 x3 x4 x5 = X → q_Y1_addWords_25a S x0 x1 x2 x3 x4 x5 → eK S0 S → va_P G vwCl (wsC K ad S) H → va_D A (wsC K ad S) → va_S A s.heap H locs → lv_has ls_ 6 [(0, .ref (ad x0)), (1, .int x1), (2, .int x2), (3, .int x3), (4, .int x4), (5, va_re ad x5)] → W p l e ({ frames := 2, cells := 0, slots := 0, locals := 41 } : Room) s m #[Value.ref (ad x0), Value.int a1, Value.int a2, Value.int a3, Value.int a4] below meth c H locs 0 0 Q (F0 m 25 ls_ []) := by
    intro S x1 x2 x3 x4 x5 H locs ls_ hE hp hZ hP hD hS hl
    unfold b_Y1_addWords_25a at hE
    unfold q_Y1_addWords_25a at hp
    refine cAload (ad := ad) (r := x5) hx hb dX1_addWords_25 (lv_at hl 5 rfl) ?_
    obtain ⟨hy11, hp⟩ := hp
    refine cTop (r := x5) hy11.1 ?_
    refine va_get (D := G) (ci := 3) (v := va_re ad (grC S (x5.getD 0) 12)) (C := RX4) (T := TX4) (N := 16) hx hb hts iX4 hown hK hP (x5.getD 0) (at_3 hy11.2) rfl 12 (by decide) (hw (.fieldLink RX1 148 "MotionFloor$Motion" "text" "LMotionFloor$Text;") (List.mem_of_getElem? (i := 5) rfl)) (fun _ h9 => h9) rfl dX1_addWords_27 ?_
    refine lv_iload_n hx hb dX1_addWords_30 rfl (lv_at hl 2 rfl) ?_
    obtain ⟨hy12, hp⟩ := hp
    refine cTop2 (r := (grC S (x5.getD 0) 12)) hy12.1 ?_
    obtain ⟨hy13, hp⟩ := hp
    refine cGov (va_runV (As := [.int x2]) (rest := []) ⟨hx, hb, hml, hown, hts⟩ (c_Y9_append l G K ad S ((grC S (x5.getD 0) 12).getD 0) x2 _) (cwV 1 hts (wGV t_ (mw (.methodLink RX1 152 yX9_append) (List.mem_of_getElem? (i := 6) rfl)) (mw (.instanceMethod yX9_append) (List.mem_of_getElem? (i := 7) rfl)) (mw (.selects RX9 yX9_append yX9_append) (List.mem_of_getElem? (i := 8) rfl)) (mw (.initialized RX9) (List.mem_of_getElem? (i := 9) rfl)) j_Y9_append) rfl rfl rfl (by decide +kernel) ⟨Nat.le_of_ble_eq_true rfl, Nat.le_of_ble_eq_true rfl⟩) (cPV hK hTE hP hD 6 rfl (at_6 hy12.2) ⟨hy12.2, hy13⟩) rfl rfl hl.1 rfl (lv_room (Nat.le_of_ble_eq_true rfl)) dX1_addWords_31 ⟨Nat.le_of_ble_eq_true rfl, Nat.le_of_ble_eq_true rfl⟩) hP hD hS hA (fun u14 H locs hv hP hD hS => ?_)
    obtain ⟨hv, hz⟩ := hv
    have hZ := hZ.tr hz
    rw [← hv] at hE hp
    dsimp only at hE hp
    exact B_Y1_addWords_34a u14 x1 x2 x3 x4 x5 _ _ _ hE hp hZ hP hD hS (lv_sub hl [0, 1, 2, 3, 4, 5] rfl)
  have B_M : ∀ (S : Cst) (x1 : Int32) (x2 : Int32) (x3 : Int32) (x4 : Int32) (H : Heap) (locs : List Loc) (ls_ : Array Slot), f_Y1_addWords S x0 x1 x2 x3 x4 = X → p_Y1_addWords S x0 x1 x2 x3 x4 → eK S0 S → va_P G vwCl (wsC K ad S) H → va_D A (wsC K ad S) → va_S A s.heap H locs → lv_has ls_ 6 [(0, .ref (ad x0)), (1, .int x1), (2, .int x2), (3, .int x3), (4, .int x4)] → W p l e ({ frames := 2, cells := 0, slots := 0, locals := 41 } : Room) s m #[Value.ref (ad x0), Value.int a1, Value.int a2, Value.int a3, Value.int a4] below meth c H locs 0 0 Q (F0 m 0 ls_ []) := by
    intro S x1 x2 x3 x4 H locs ls_ hE hp hZ hP hD hS hl
    unfold f_Y1_addWords at hE
    unfold p_Y1_addWords at hp
    refine lv_aload_n hx hb dX1_addWords_0 rfl (lv_at hl 0 rfl) ?_
    refine va_get (D := G) (ci := 0) (v := va_re ad (grC S x0 2)) (C := RX0) (T := TX0) (N := 11) hx hb hts iX0 hown hK hP x0 (at_0 (k_x0.e hZ)) rfl 2 (by decide) (hw (.fieldLink RX1 121 "MotionFloor$Assembly" "draft" "LMotionFloor$Place;") (List.mem_of_getElem? (i := 0) rfl)) (fun _ h9 => h9) rfl dX1_addWords_1 ?_
    obtain ⟨hy1, hp⟩ := hp
    refine cTop (r := (grC S x0 2)) hy1.1 ?_
    obtain ⟨hy2, hp⟩ := hp
    refine cGoq (va_runV (As := []) (rest := []) ⟨hx, hb, hml, hown, hts⟩ (c_Y6_motion l G K ad S ((grC S x0 2).getD 0) _) (cwV 0 hts (wGV t_ (mw (.methodLink RX1 139 yX6_motion) (List.mem_of_getElem? (i := 1) rfl)) (mw (.instanceMethod yX6_motion) (List.mem_of_getElem? (i := 2) rfl)) (mw (.selects RX6 yX6_motion yX6_motion) (List.mem_of_getElem? (i := 3) rfl)) (mw (.initialized RX6) (List.mem_of_getElem? (i := 4) rfl)) j_Y6_motion) rfl rfl rfl (by decide +kernel) ⟨Nat.le_of_ble_eq_true rfl, Nat.le_of_ble_eq_true rfl⟩) (cPV hK hTE hP hD 5 rfl (at_5 hy1.2) ⟨hy1.2, hy2⟩) rfl rfl hl.1 rfl (lv_room (Nat.le_of_ble_eq_true rfl)) dX1_addWords_4 ⟨Nat.le_of_ble_eq_true rfl, Nat.le_of_ble_eq_true rfl⟩) hP hD hS hA (fun r4 u3 H locs hv hP hD hS => ?_)
    have h1 := congrArg Prod.fst hv
    have h2 := (congrArg Prod.snd hv).symm
    dsimp only at h1 h2
    subst h1
    subst h2
    refine cAstore (ad := ad) (r := (f_Y6_motion S ((grC S x0 2).getD 0))) (i := 5) (lv' := [(5, va_re ad (f_Y6_motion S ((grC S x0 2).getD 0))), (0, .ref (ad x0)), (1, .int x1), (2, .int x2), (3, .int x3), (4, .int x4)]) hx hb dX1_addWords_7 hl (by decide) rfl (fun ls_ hl => ?_)
    refine cAload (ad := ad) (r := (f_Y6_motion S ((grC S x0 2).getD 0))) hx hb dX1_addWords_9 (lv_at hl 0 rfl) ?_
    refine cIfnonnull (ad := ad) (r := (f_Y6_motion S ((grC S x0 2).getD 0))) (tgt := 16) hx hb dX1_addWords_11 (by decide) (fun c5 => ?_) (fun c5 => ?_)
    · rw [if_pos c5] at hE hp
      refine lv_iconst (v := 0) hx hb dX1_addWords_14 (by decide) ?_
      subst hQ
      exact W.iret (v := (0 : Int32)) hx hb hr (fun t ht hW => ⟨⟨(0 : Int32), S, rfl, ⟨hE.trans hX.symm, hZ⟩, by rw [ht]; exact hP, hD⟩, hS.F ht⟩) hS.2.2 dX1_addWords_15
    · rw [if_neg c5] at hE hp
      refine cAload (ad := ad) (r := (f_Y6_motion S ((grC S x0 2).getD 0))) hx hb dX1_addWords_16 (lv_at hl 0 rfl) ?_
      obtain ⟨hy6, hp⟩ := hp
      refine cTop (r := (f_Y6_motion S ((grC S x0 2).getD 0))) hy6.1 ?_
      refine va_get (D := G) (ci := 3) (v := va_re ad (grC S ((f_Y6_motion S ((grC S x0 2).getD 0)).getD 0) 12)) (C := RX4) (T := TX4) (N := 16) hx hb hts iX4 hown hK hP ((f_Y6_motion S ((grC S x0 2).getD 0)).getD 0) (at_3 hy6.2) rfl 12 (by decide) (hw (.fieldLink RX1 148 "MotionFloor$Motion" "text" "LMotionFloor$Text;") (List.mem_of_getElem? (i := 5) rfl)) (fun _ h9 => h9) rfl dX1_addWords_18 ?_
      refine lv_iload_n hx hb dX1_addWords_21 rfl (lv_at hl 2 rfl) ?_
      obtain ⟨hy7, hp⟩ := hp
      refine cTop2 (r := (grC S ((f_Y6_motion S ((grC S x0 2).getD 0)).getD 0) 12)) hy7.1 ?_
      obtain ⟨hy8, hp⟩ := hp
      refine cGov (va_runV (As := [.int x1]) (rest := []) ⟨hx, hb, hml, hown, hts⟩ (c_Y9_append l G K ad S ((grC S ((f_Y6_motion S ((grC S x0 2).getD 0)).getD 0) 12).getD 0) x1 _) (cwV 1 hts (wGV t_ (mw (.methodLink RX1 152 yX9_append) (List.mem_of_getElem? (i := 6) rfl)) (mw (.instanceMethod yX9_append) (List.mem_of_getElem? (i := 7) rfl)) (mw (.selects RX9 yX9_append yX9_append) (List.mem_of_getElem? (i := 8) rfl)) (mw (.initialized RX9) (List.mem_of_getElem? (i := 9) rfl)) j_Y9_append) rfl rfl rfl (by decide +kernel) ⟨Nat.le_of_ble_eq_true rfl, Nat.le_of_ble_eq_true rfl⟩) (cPV hK hTE hP hD 6 rfl (at_6 hy7.2) ⟨hy7.2, hy8⟩) rfl rfl hl.1 rfl (lv_room (Nat.le_of_ble_eq_true rfl)) dX1_addWords_22 ⟨Nat.le_of_ble_eq_true rfl, Nat.le_of_ble_eq_true rfl⟩) hP hD hS hA (fun u9 H locs hv hP hD hS => ?_)
      obtain ⟨hv, hz⟩ := hv
      have hZ := hZ.tr hz
      rw [← hv] at hE hp
      dsimp only at hE hp
      exact B_Y1_addWords_25a u9 x1 x2 x3 x4 (f_Y6_motion S ((grC S x0 2).getD 0)) _ _ _ hE hp hZ hP hD hS (lv_sub hl [1, 2, 3, 4, 5, 0] rfl)
  exact B_M S0 a1 a2 a3 a4 _ _ _ hX hp (eK.rf S0) hP hD hS hl
theorem gdX1_layDown_0 : ckS (List.drop 0 cX1_layDown.data.toList) 0 [(0, .aload_n 0, 1), (1, .iload_n 1, 1), (2, .invokevirtual 159, 3), (5, .astore_n 2, 1), (6, .aload_n 0, 1), (7, .getfield 121, 3), (10, .invokevirtual 139, 3), (13, .astore_n 3, 1), (14, .aload_n 0, 1), (15, .getfield 9, 3), (18, .invokevirtual 15, 3)] = true := by decide +kernel
theorem dX1_layDown_0 : decode cX1_layDown 0 = .ok (.aload_n 0, 1) := ckS_g gdX1_layDown_0 0 rfl
theorem dX1_layDown_1 : decode cX1_layDown 1 = .ok (.iload_n 1, 1) := ckS_g gdX1_layDown_0 1 rfl
theorem dX1_layDown_2 : decode cX1_layDown 2 = .ok (.invokevirtual 159, 3) := ckS_g gdX1_layDown_0 2 rfl
theorem dX1_layDown_5 : decode cX1_layDown 5 = .ok (.astore_n 2, 1) := ckS_g gdX1_layDown_0 3 rfl
theorem dX1_layDown_6 : decode cX1_layDown 6 = .ok (.aload_n 0, 1) := ckS_g gdX1_layDown_0 4 rfl
theorem dX1_layDown_7 : decode cX1_layDown 7 = .ok (.getfield 121, 3) := ckS_g gdX1_layDown_0 5 rfl
theorem dX1_layDown_10 : decode cX1_layDown 10 = .ok (.invokevirtual 139, 3) := ckS_g gdX1_layDown_0 6 rfl
theorem dX1_layDown_13 : decode cX1_layDown 13 = .ok (.astore_n 3, 1) := ckS_g gdX1_layDown_0 7 rfl
theorem dX1_layDown_14 : decode cX1_layDown 14 = .ok (.aload_n 0, 1) := ckS_g gdX1_layDown_0 8 rfl
theorem dX1_layDown_15 : decode cX1_layDown 15 = .ok (.getfield 9, 3) := ckS_g gdX1_layDown_0 9 rfl
theorem dX1_layDown_18 : decode cX1_layDown 18 = .ok (.invokevirtual 15, 3) := ckS_g gdX1_layDown_0 10 rfl
theorem gdX5_top_0 : ckS (List.drop 0 cX5_top.data.toList) 0 [(0, .aload_n 0, 1), (1, .aload_n 0, 1), (2, .getfield 17, 3), (5, .iconst 1, 1), (6, .isub, 1), (7, .invokevirtual 21, 3), (10, .areturn, 1)] = true := by decide +kernel
theorem dX5_top_0 : decode cX5_top 0 = .ok (.aload_n 0, 1) := ckS_g gdX5_top_0 0 rfl
theorem dX5_top_1 : decode cX5_top 1 = .ok (.aload_n 0, 1) := ckS_g gdX5_top_0 1 rfl
theorem dX5_top_2 : decode cX5_top 2 = .ok (.getfield 17, 3) := ckS_g gdX5_top_0 2 rfl
theorem dX5_top_5 : decode cX5_top 5 = .ok (.iconst 1, 1) := ckS_g gdX5_top_0 3 rfl
theorem dX5_top_6 : decode cX5_top 6 = .ok (.isub, 1) := ckS_g gdX5_top_0 4 rfl
theorem dX5_top_7 : decode cX5_top 7 = .ok (.invokevirtual 21, 3) := ckS_g gdX5_top_0 5 rfl
theorem dX5_top_10 : decode cX5_top 10 = .ok (.areturn, 1) := ckS_g gdX5_top_0 6 rfl
set_option maxRecDepth 100000 in
theorem zc155 : wZ (.methodLink RX5 21 yX5_at) := ⟨wT2 (List.mem_of_getElem? (i := 79) (by decide +kernel)), Or.inl rfl⟩
set_option maxRecDepth 100000 in
theorem zc156 : wZ (.code yX5_top cX5_top 1 (some (.object "MotionFloor$Motion"))) := ⟨wT2 (List.mem_of_getElem? (i := 78) rfl), Or.inl rfl⟩
def f_Y5_top (S : Cst) (x0 : Nat) : Option Nat := (f_Y5_at S x0 ((giC S x0 1) - 1))
def p_Y5_top (S : Cst) (x0 : Nat) : Prop := (p_Y5_at S x0 ((giC S x0 1) - 1)) ∧ True
def e_Y5_top : List Cond := [.fieldLink RX5 17 "MotionFloor$Pile" "size" "I", .methodLink RX5 21 yX5_at, .instanceMethod yX5_at, .selects RX5 yX5_at yX5_at, .initialized RX5]
def v_Y5_top : List Cond := .code yX5_top cX5_top 1 (some (.object "MotionFloor$Motion")) :: (e_Y5_top ++ (wsX50 ++ (v_Y5_at ++ [])))
theorem te_Y5_top : GoodIn lw_tbl e_Y5_top := wGc zc3 (wGc zc155 (wGc zc123 (wGc zc122 (wGc zc34 (wG0)))))
theorem t_Y5_top : GoodIn lw_tbl v_Y5_top := wGc zc156 (wGa te_Y5_top (wGa zcX5 (wGa t_Y5_at (wG0))))
set_option maxHeartbeats 4000000 in
set_option maxRecDepth 100000 in
theorem c_Y5_top (l : Launch) (G : va_G) (K : Nat → ClassId) (ad : Nat → Nat) (S : Cst) (x0 : Nat)  (sz : Nat) : Met l yX5_top v_Y5_top ({ frames := 1, cells := 0, slots := 0, locals := 21 }) (va_Pc [.ref (ad x0)] (cSt G K ad sz S (iK S x0 4 ∧ p_Y5_top S x0))) (va_Qq (fun (r : Option Nat) (u : Cst) => ∃ r', r = r'.map ad ∧ ((r', u) = (f_Y5_top S x0, S))) (cBt G K ad (va_A (wsC K ad S) sz)) (va_A (wsC K ad S) sz)) 0 0 (va_A (wsC K ad S) sz) := by
  refine Met.ofW (cc := cX5_top) (maxL := 1) (ret := (some (.object "MotionFloor$Motion"))) (by decide) rfl ?_
  intro p e s m args below meth c s₁ B hml hv
  obtain ⟨rfl, ⟨hsz, hP, hK, hD0, hTE⟩, hp⟩ := hv
  obtain ⟨k_x0, hp⟩ := hp
  have hx := B.exec
  have hb := B.bytes
  have hr := B.returns
  have hts := atoms_spec (ws := v_Y5_top) B.pre
  have t_ := t_Y5_top
  have mw : ∀ w ∈ e_Y5_top, w ∈ v_Y5_top := fun w h => List.mem_cons_of_mem _ (List.mem_append_left _ h)
  have hw := fun w (h : w ∈ e_Y5_top) => hts w (mw w h)
  have iX5 : ∀ w ∈ wsX50, w ∈ v_Y5_top := fun w h => List.mem_cons_of_mem _ (List.mem_append_right _ (List.mem_append_left _ h))
  have j_Y5_at : ∀ w ∈ v_Y5_at, w ∈ v_Y5_top := fun w h => List.mem_cons_of_mem _ (List.mem_append_right _ (List.mem_append_right _ (List.mem_append_left _ h)))
  have hown : s.vm.findClass RX5 = some m.cls := findClass_of_methodNamed B.named
  have hlocks := B.notSynchronized
  subst hsz
  have hD := hD0.self (sz := s.heap.size)
  generalize hAe : va_A (wsC K ad S) s.heap.size = A at hD ⊢
  have hA : ∀ q : Nat, s.heap.size ≤ q → A q := fun q h => by rw [← hAe]; exact Or.inr h
  have hS : va_S A s.heap s.heap [] := va_S.rf
  have hl : lv_has (lg_sl ([.ref (ad x0)]) ++ List.replicate (1 - (lg_sl ([.ref (ad x0)])).length) Slot.unset).toArray 1 [(0, .ref (ad x0))] := by
    exact lv_entry ([.ref (ad x0)]) (n := 1) (Nat.le_of_ble_eq_true rfl)
  rw [lg_entry_eq]
  generalize (lg_sl ([.ref (ad x0)]) ++ List.replicate (1 - (lg_sl ([.ref (ad x0)])).length) Slot.unset).toArray = ls_ at hl ⊢
  refine wGen (fun Q hQ => ?_)
  obtain ⟨X, hX⟩ : ∃ X, f_Y5_top S x0 = X := ⟨_, rfl⟩
  have B_M : ∀ (H : Heap) (locs : List Loc) (ls_ : Array Slot), f_Y5_top S x0 = X → p_Y5_top S x0 → va_P G vwCl (wsC K ad S) H → va_D A (wsC K ad S) → va_S A s.heap H locs → lv_has ls_ 1 [(0, .ref (ad x0))] → W p l e ({ frames := 1, cells := 0, slots := 0, locals := 21 } : Room) s m #[Value.ref (ad x0)] below meth c H locs 0 0 Q (F0 m 0 ls_ []) := by
    intro  H locs ls_ hE hp hP hD hS hl
    unfold f_Y5_top at hE
    unfold p_Y5_top at hp
    refine lv_aload_n hx hb dX5_top_0 rfl (lv_at hl 0 rfl) ?_
    refine lv_aload_n hx hb dX5_top_1 rfl (lv_at hl 0 rfl) ?_
    refine va_get (D := G) (ci := 4) (v := .int (giC S x0 1)) (C := RX5) (T := TX5) (N := 2) hx hb hts iX5 hown hK hP x0 (at_4 k_x0) rfl 1 (by decide) (hw (.fieldLink RX5 17 "MotionFloor$Pile" "size" "I") (List.mem_of_getElem? (i := 0) rfl)) (fun _ h9 => h9) rfl dX5_top_2 ?_
    refine lv_iconst (v := 1) hx hb dX5_top_5 (by decide) ?_
    refine lv_isub hx hb dX5_top_6 ?_
    obtain ⟨hy1, hp⟩ := hp
    refine cGoq (va_runV (As := [.int ((giC S x0 1) - 1)]) (rest := []) ⟨hx, hb, hml, hown, hts⟩ (c_Y5_at l G K ad S x0 ((giC S x0 1) - 1) _) (cwV 1 hts (wGV t_ (mw (.methodLink RX5 21 yX5_at) (List.mem_of_getElem? (i := 1) rfl)) (mw (.instanceMethod yX5_at) (List.mem_of_getElem? (i := 2) rfl)) (mw (.selects RX5 yX5_at yX5_at) (List.mem_of_getElem? (i := 3) rfl)) (mw (.initialized RX5) (List.mem_of_getElem? (i := 4) rfl)) j_Y5_at) rfl rfl rfl (by decide +kernel) ⟨Nat.le_of_ble_eq_true rfl, Nat.le_of_ble_eq_true rfl⟩) (cPV hK hTE hP hD 4 rfl (at_4 k_x0) ⟨k_x0, hy1⟩) rfl rfl hl.1 rfl (lv_room (Nat.le_of_ble_eq_true rfl)) dX5_top_7 ⟨Nat.le_of_ble_eq_true rfl, Nat.le_of_ble_eq_true rfl⟩) hP hD hS hA (fun r3 u2 H locs hv hP hD hS => ?_)
    have h1 := congrArg Prod.fst hv
    have h2 := (congrArg Prod.snd hv).symm
    dsimp only at h1 h2
    subst h1
    subst h2
    subst hQ
    exact W.aret (v := va_re ad (f_Y5_at S x0 ((giC S x0 1) - 1))) hx hb hr (Or.inl ⟨_, rfl⟩) (va_re_or ad _) (fun t ht hW => ⟨⟨(f_Y5_at S x0 ((giC S x0 1) - 1)).map ad, S, rfl, ⟨(f_Y5_at S x0 ((giC S x0 1) - 1)), rfl, (pair_i (hE.trans hX.symm))⟩, by rw [ht]; exact hP, hD⟩, hS.F ht⟩) hS.2.2 dX5_top_10
  exact B_M  _ _ _ hX hp hP hD hS hl
theorem gdX1_layDown_21 : ckS (List.drop 21 cX1_layDown.data.toList) 21 [(21, .astore 4, 2), (23, .aload_n 3, 1), (24, .ifnull 40, 3), (64, .aload_n 2, 1), (65, .ifnull 11, 3), (68, .aload_n 2, 1), (69, .aload_n 0, 1), (70, .getfield 121, 3), (73, .invokevirtual 177, 3), (76, .iload_n 1, 1), (77, .ireturn, 1)] = true := by decide +kernel
theorem dX1_layDown_21 : decode cX1_layDown 21 = .ok (.astore 4, 2) := ckS_g gdX1_layDown_21 0 rfl
theorem dX1_layDown_23 : decode cX1_layDown 23 = .ok (.aload_n 3, 1) := ckS_g gdX1_layDown_21 1 rfl
theorem dX1_layDown_24 : decode cX1_layDown 24 = .ok (.ifnull 40, 3) := ckS_g gdX1_layDown_21 2 rfl
theorem dX1_layDown_64 : decode cX1_layDown 64 = .ok (.aload_n 2, 1) := ckS_g gdX1_layDown_21 3 rfl
theorem dX1_layDown_65 : decode cX1_layDown 65 = .ok (.ifnull 11, 3) := ckS_g gdX1_layDown_21 4 rfl
theorem dX1_layDown_68 : decode cX1_layDown 68 = .ok (.aload_n 2, 1) := ckS_g gdX1_layDown_21 5 rfl
theorem dX1_layDown_69 : decode cX1_layDown 69 = .ok (.aload_n 0, 1) := ckS_g gdX1_layDown_21 6 rfl
theorem dX1_layDown_70 : decode cX1_layDown 70 = .ok (.getfield 121, 3) := ckS_g gdX1_layDown_21 7 rfl
theorem dX1_layDown_73 : decode cX1_layDown 73 = .ok (.invokevirtual 177, 3) := ckS_g gdX1_layDown_21 8 rfl
theorem dX1_layDown_76 : decode cX1_layDown 76 = .ok (.iload_n 1, 1) := ckS_g gdX1_layDown_21 9 rfl
theorem dX1_layDown_77 : decode cX1_layDown 77 = .ok (.ireturn, 1) := ckS_g gdX1_layDown_21 10 rfl
theorem gdX5_pourInto_0 : ckS (List.drop 0 cX5_pourInto.data.toList) 0 [(0, .iconst 0, 1), (1, .istore_n 2, 1), (2, .iload_n 2, 1), (3, .aload_n 0, 1), (4, .getfield 17, 3), (7, .if_icmp .ge 35, 3), (10, .iload_n 2, 1), (11, .aload_n 0, 1), (12, .getfield 11, 3), (15, .arraylength, 1), (16, .if_icmp .ge 26, 3), (19, .aload_n 1, 1), (20, .aload_n 0, 1), (21, .getfield 11, 3), (24, .iload_n 2, 1), (25, .aaload, 1), (26, .invokevirtual 25, 3), (42, .aload_n 0, 1), (43, .iconst 0, 1), (44, .putfield 17, 3), (47, .return_, 1)] = true := by decide +kernel
theorem dX5_pourInto_0 : decode cX5_pourInto 0 = .ok (.iconst 0, 1) := ckS_g gdX5_pourInto_0 0 rfl
theorem dX5_pourInto_1 : decode cX5_pourInto 1 = .ok (.istore_n 2, 1) := ckS_g gdX5_pourInto_0 1 rfl
theorem dX5_pourInto_2 : decode cX5_pourInto 2 = .ok (.iload_n 2, 1) := ckS_g gdX5_pourInto_0 2 rfl
theorem dX5_pourInto_3 : decode cX5_pourInto 3 = .ok (.aload_n 0, 1) := ckS_g gdX5_pourInto_0 3 rfl
theorem dX5_pourInto_4 : decode cX5_pourInto 4 = .ok (.getfield 17, 3) := ckS_g gdX5_pourInto_0 4 rfl
theorem dX5_pourInto_7 : decode cX5_pourInto 7 = .ok (.if_icmp .ge 35, 3) := ckS_g gdX5_pourInto_0 5 rfl
theorem dX5_pourInto_10 : decode cX5_pourInto 10 = .ok (.iload_n 2, 1) := ckS_g gdX5_pourInto_0 6 rfl
theorem dX5_pourInto_11 : decode cX5_pourInto 11 = .ok (.aload_n 0, 1) := ckS_g gdX5_pourInto_0 7 rfl
theorem dX5_pourInto_12 : decode cX5_pourInto 12 = .ok (.getfield 11, 3) := ckS_g gdX5_pourInto_0 8 rfl
theorem dX5_pourInto_15 : decode cX5_pourInto 15 = .ok (.arraylength, 1) := ckS_g gdX5_pourInto_0 9 rfl
theorem dX5_pourInto_16 : decode cX5_pourInto 16 = .ok (.if_icmp .ge 26, 3) := ckS_g gdX5_pourInto_0 10 rfl
theorem dX5_pourInto_19 : decode cX5_pourInto 19 = .ok (.aload_n 1, 1) := ckS_g gdX5_pourInto_0 11 rfl
theorem dX5_pourInto_20 : decode cX5_pourInto 20 = .ok (.aload_n 0, 1) := ckS_g gdX5_pourInto_0 12 rfl
theorem dX5_pourInto_21 : decode cX5_pourInto 21 = .ok (.getfield 11, 3) := ckS_g gdX5_pourInto_0 13 rfl
theorem dX5_pourInto_24 : decode cX5_pourInto 24 = .ok (.iload_n 2, 1) := ckS_g gdX5_pourInto_0 14 rfl
theorem dX5_pourInto_25 : decode cX5_pourInto 25 = .ok (.aaload, 1) := ckS_g gdX5_pourInto_0 15 rfl
theorem dX5_pourInto_26 : decode cX5_pourInto 26 = .ok (.invokevirtual 25, 3) := ckS_g gdX5_pourInto_0 16 rfl
theorem dX5_pourInto_42 : decode cX5_pourInto 42 = .ok (.aload_n 0, 1) := ckS_g gdX5_pourInto_0 17 rfl
theorem dX5_pourInto_43 : decode cX5_pourInto 43 = .ok (.iconst 0, 1) := ckS_g gdX5_pourInto_0 18 rfl
theorem dX5_pourInto_44 : decode cX5_pourInto 44 = .ok (.putfield 17, 3) := ckS_g gdX5_pourInto_0 19 rfl
theorem dX5_pourInto_47 : decode cX5_pourInto 47 = .ok (.return_, 1) := ckS_g gdX5_pourInto_0 20 rfl
theorem gdX5_put_0 : ckS (List.drop 0 cX5_put.data.toList) 0 [(0, .aload_n 1, 1), (1, .ifnull 35, 3), (4, .aload_n 0, 1), (5, .getfield 17, 3), (8, .aload_n 0, 1), (9, .getfield 11, 3), (12, .arraylength, 1), (13, .if_icmp .ge 23, 3), (16, .aload_n 0, 1), (17, .getfield 11, 3), (20, .aload_n 0, 1), (21, .getfield 17, 3), (24, .aload_n 1, 1), (25, .aastore, 1), (26, .aload_n 0, 1), (27, .dup, 1), (28, .getfield 17, 3), (31, .iconst 1, 1), (32, .iadd, 1), (33, .putfield 17, 3), (36, .return_, 1)] = true := by decide +kernel
theorem dX5_put_0 : decode cX5_put 0 = .ok (.aload_n 1, 1) := ckS_g gdX5_put_0 0 rfl
theorem dX5_put_1 : decode cX5_put 1 = .ok (.ifnull 35, 3) := ckS_g gdX5_put_0 1 rfl
theorem dX5_put_4 : decode cX5_put 4 = .ok (.aload_n 0, 1) := ckS_g gdX5_put_0 2 rfl
theorem dX5_put_5 : decode cX5_put 5 = .ok (.getfield 17, 3) := ckS_g gdX5_put_0 3 rfl
theorem dX5_put_8 : decode cX5_put 8 = .ok (.aload_n 0, 1) := ckS_g gdX5_put_0 4 rfl
theorem dX5_put_9 : decode cX5_put 9 = .ok (.getfield 11, 3) := ckS_g gdX5_put_0 5 rfl
theorem dX5_put_12 : decode cX5_put 12 = .ok (.arraylength, 1) := ckS_g gdX5_put_0 6 rfl
theorem dX5_put_13 : decode cX5_put 13 = .ok (.if_icmp .ge 23, 3) := ckS_g gdX5_put_0 7 rfl
theorem dX5_put_16 : decode cX5_put 16 = .ok (.aload_n 0, 1) := ckS_g gdX5_put_0 8 rfl
theorem dX5_put_17 : decode cX5_put 17 = .ok (.getfield 11, 3) := ckS_g gdX5_put_0 9 rfl
theorem dX5_put_20 : decode cX5_put 20 = .ok (.aload_n 0, 1) := ckS_g gdX5_put_0 10 rfl
theorem dX5_put_21 : decode cX5_put 21 = .ok (.getfield 17, 3) := ckS_g gdX5_put_0 11 rfl
theorem dX5_put_24 : decode cX5_put 24 = .ok (.aload_n 1, 1) := ckS_g gdX5_put_0 12 rfl
theorem dX5_put_25 : decode cX5_put 25 = .ok (.aastore, 1) := ckS_g gdX5_put_0 13 rfl
theorem dX5_put_26 : decode cX5_put 26 = .ok (.aload_n 0, 1) := ckS_g gdX5_put_0 14 rfl
theorem dX5_put_27 : decode cX5_put 27 = .ok (.dup, 1) := ckS_g gdX5_put_0 15 rfl
theorem dX5_put_28 : decode cX5_put 28 = .ok (.getfield 17, 3) := ckS_g gdX5_put_0 16 rfl
theorem dX5_put_31 : decode cX5_put 31 = .ok (.iconst 1, 1) := ckS_g gdX5_put_0 17 rfl
theorem dX5_put_32 : decode cX5_put 32 = .ok (.iadd, 1) := ckS_g gdX5_put_0 18 rfl
theorem dX5_put_33 : decode cX5_put 33 = .ok (.putfield 17, 3) := ckS_g gdX5_put_0 19 rfl
theorem dX5_put_36 : decode cX5_put 36 = .ok (.return_, 1) := ckS_g gdX5_put_0 20 rfl
theorem gdX6_takeFrom_0 : ckS (List.drop 0 cX6_takeFrom.data.toList) 0 [(0, .aload_n 0, 1), (1, .aload_n 1, 1), (2, .getfield 9, 3), (5, .putfield 9, 3), (8, .aload_n 1, 1), (9, .getfield 18, 3), (12, .aload_n 0, 1), (13, .getfield 18, 3), (16, .invokevirtual 45, 3)] = true := by decide +kernel
theorem dX6_takeFrom_0 : decode cX6_takeFrom 0 = .ok (.aload_n 0, 1) := ckS_g gdX6_takeFrom_0 0 rfl
theorem dX6_takeFrom_1 : decode cX6_takeFrom 1 = .ok (.aload_n 1, 1) := ckS_g gdX6_takeFrom_0 1 rfl
theorem dX6_takeFrom_2 : decode cX6_takeFrom 2 = .ok (.getfield 9, 3) := ckS_g gdX6_takeFrom_0 2 rfl
theorem dX6_takeFrom_5 : decode cX6_takeFrom 5 = .ok (.putfield 9, 3) := ckS_g gdX6_takeFrom_0 3 rfl
theorem dX6_takeFrom_8 : decode cX6_takeFrom 8 = .ok (.aload_n 1, 1) := ckS_g gdX6_takeFrom_0 4 rfl
theorem dX6_takeFrom_9 : decode cX6_takeFrom 9 = .ok (.getfield 18, 3) := ckS_g gdX6_takeFrom_0 5 rfl
theorem dX6_takeFrom_12 : decode cX6_takeFrom 12 = .ok (.aload_n 0, 1) := ckS_g gdX6_takeFrom_0 6 rfl
theorem dX6_takeFrom_13 : decode cX6_takeFrom 13 = .ok (.getfield 18, 3) := ckS_g gdX6_takeFrom_0 7 rfl
theorem dX6_takeFrom_16 : decode cX6_takeFrom 16 = .ok (.invokevirtual 45, 3) := ckS_g gdX6_takeFrom_0 8 rfl
set_option maxRecDepth 100000 in
theorem zc157 : wZ (.code yX5_put cX5_put 2 none) := ⟨wT3 (List.mem_of_getElem? (i := 114) rfl), Or.inl rfl⟩
def b_Y5_put_36 (S : Cst) (x0 : Nat) (x1 : Option Nat) : Int32 × Cst := (0, S)
def q_Y5_put_36 (S : Cst) (x0 : Nat) (x1 : Option Nat) : Prop := True
def f_Y5_put (S : Cst) (x0 : Nat) (x1 : Option Nat) : Int32 × Cst := if x1 = none then (b_Y5_put_36 S x0 x1) else if (Int32.ofNat (lnC S ((grC S x0 0).getD 0))) ≤ (giC S x0 1) then (b_Y5_put_36 S x0 x1) else (b_Y5_put_36 (siC (srC S ((grC S x0 0).getD 0) (giC S x0 1).toNatClampNeg (some (x1.getD 0))) x0 1 ((giC (srC S ((grC S x0 0).getD 0) (giC S x0 1).toNatClampNeg (some (x1.getD 0))) x0 1) + 1)) x0 x1)
def p_Y5_put (S : Cst) (x0 : Nat) (x1 : Option Nat) : Prop := (if x1 = none then (q_Y5_put_36 S x0 x1) else (iR S (grC S x0 0) 23) ∧ (if (Int32.ofNat (lnC S ((grC S x0 0).getD 0))) ≤ (giC S x0 1) then (q_Y5_put_36 S x0 x1) else (iR S (grC S x0 0) 23) ∧ (iR S x1 3) ∧ (vp_in (giC S x0 1) (lnC S ((grC S x0 0).getD 0))) ∧ (q_Y5_put_36 (siC (srC S ((grC S x0 0).getD 0) (giC S x0 1).toNatClampNeg (some (x1.getD 0))) x0 1 ((giC (srC S ((grC S x0 0).getD 0) (giC S x0 1).toNatClampNeg (some (x1.getD 0))) x0 1) + 1)) x0 x1)))
def e_Y5_put : List Cond := [.fieldLink RX5 17 "MotionFloor$Pile" "size" "I", .fieldLink RX5 11 "MotionFloor$Pile" "motions" "[LMotionFloor$Motion;"]
def v_Y5_put : List Cond := .code yX5_put cX5_put 2 none :: (e_Y5_put ++ (wsX50 ++ []))
theorem te_Y5_put : GoodIn lw_tbl e_Y5_put := wGc zc3 (wGc zc2 (wG0))
theorem t_Y5_put : GoodIn lw_tbl v_Y5_put := wGc zc157 (wGa te_Y5_put (wGa zcX5 (wG0)))
set_option maxHeartbeats 4000000 in
set_option maxRecDepth 100000 in
theorem c_Y5_put (l : Launch) (G : va_G) (K : Nat → ClassId) (ad : Nat → Nat) (S0 : Cst) (x0 : Nat) (a1 : Option Nat) (sz : Nat) : Met l yX5_put v_Y5_put ({ frames := 0, cells := 0, slots := 0, locals := 0 }) (va_Pc [.ref (ad x0), va_re ad a1] (cSt G K ad sz S0 (iK S0 x0 4 ∧ p_Y5_put S0 x0 a1))) (va_Qv (fun u : Cst => (0, u) = f_Y5_put S0 x0 a1 ∧ eK S0 u) (cBt G K ad (va_A (wsC K ad S0) sz)) (va_A (wsC K ad S0) sz)) 0 0 (va_A (wsC K ad S0) sz) := by
  refine Met.ofW (cc := cX5_put) (maxL := 2) (ret := none) (by decide) rfl ?_
  intro p e s m args below meth c s₁ B hml hv
  obtain ⟨rfl, ⟨hsz, hP, hK, hD0, hTE⟩, hp⟩ := hv
  obtain ⟨k_x0, hp⟩ := hp
  have hx := B.exec
  have hb := B.bytes
  have hr := B.returns
  have hts := atoms_spec (ws := v_Y5_put) B.pre
  have t_ := t_Y5_put
  have mw : ∀ w ∈ e_Y5_put, w ∈ v_Y5_put := fun w h => List.mem_cons_of_mem _ (List.mem_append_left _ h)
  have hw := fun w (h : w ∈ e_Y5_put) => hts w (mw w h)
  have iX5 : ∀ w ∈ wsX50, w ∈ v_Y5_put := fun w h => List.mem_cons_of_mem _ (List.mem_append_right _ (List.mem_append_left _ h))
  have hown : s.vm.findClass RX5 = some m.cls := findClass_of_methodNamed B.named
  have hlocks := B.notSynchronized
  subst hsz
  have hD := hD0.self (sz := s.heap.size)
  generalize hAe : va_A (wsC K ad S0) s.heap.size = A at hD ⊢
  have hA : ∀ q : Nat, s.heap.size ≤ q → A q := fun q h => by rw [← hAe]; exact Or.inr h
  have hS : va_S A s.heap s.heap [] := va_S.rf
  have hl : lv_has (lg_sl ([.ref (ad x0), va_re ad a1]) ++ List.replicate (2 - (lg_sl ([.ref (ad x0), va_re ad a1])).length) Slot.unset).toArray 2 [(0, .ref (ad x0)), (1, va_re ad a1)] := by
    cases a1 <;> exact lv_entry _ (n := 2) (Nat.le_of_ble_eq_true rfl)
  rw [lg_entry_eq]
  generalize (lg_sl ([.ref (ad x0), va_re ad a1]) ++ List.replicate (2 - (lg_sl ([.ref (ad x0), va_re ad a1])).length) Slot.unset).toArray = ls_ at hl ⊢
  refine wGen (fun Q hQ => ?_)
  obtain ⟨X, hX⟩ : ∃ X, f_Y5_put S0 x0 a1 = X := ⟨_, rfl⟩
  have B_Y5_put_36 : ∀ (S : Cst) (x1 : Option Nat) (H : Heap) (locs : List Loc) (ls_ : Array Slot), b_Y5_put_36 S x0 x1 = X → q_Y5_put_36 S x0 x1 → eK S0 S → va_P G vwCl (wsC K ad S) H → va_D A (wsC K ad S) → va_S A s.heap H locs → lv_has ls_ 2 [(0, .ref (ad x0)), (1, va_re ad x1)] → W p l e ({ frames := 0, cells := 0, slots := 0, locals := 0 } : Room) s m #[Value.ref (ad x0), va_re ad a1] below meth c H locs 0 0 Q (F0 m 36 ls_ []) := by
    intro S x1 H locs ls_ hE hp hZ hP hD hS hl
    unfold b_Y5_put_36 at hE
    unfold q_Y5_put_36 at hp
    subst hQ
    exact W.vret hx hb hr (fun t ht hW => ⟨⟨S, rfl, ⟨hE.trans hX.symm, hZ⟩, by rw [ht]; exact hP, hD⟩, hS.F ht⟩) hS.2.2 dX5_put_36
  have B_M : ∀ (S : Cst) (x1 : Option Nat) (H : Heap) (locs : List Loc) (ls_ : Array Slot), f_Y5_put S x0 x1 = X → p_Y5_put S x0 x1 → eK S0 S → va_P G vwCl (wsC K ad S) H → va_D A (wsC K ad S) → va_S A s.heap H locs → lv_has ls_ 2 [(0, .ref (ad x0)), (1, va_re ad x1)] → W p l e ({ frames := 0, cells := 0, slots := 0, locals := 0 } : Room) s m #[Value.ref (ad x0), va_re ad a1] below meth c H locs 0 0 Q (F0 m 0 ls_ []) := by
    intro S x1 H locs ls_ hE hp hZ hP hD hS hl
    unfold f_Y5_put at hE
    unfold p_Y5_put at hp
    refine cAload_n (ad := ad) (r := x1) hx hb dX5_put_0 rfl (lv_at hl 1 rfl) ?_
    refine cIfnull (ad := ad) (r := x1) (tgt := 36) hx hb dX5_put_1 (by decide) (fun c1 => ?_) (fun c1 => ?_)
    · rw [if_pos c1] at hE hp
      exact B_Y5_put_36 S x1 _ _ _ hE hp hZ hP hD hS (lv_sub hl [0, 1] rfl)
    · rw [if_neg c1] at hE hp
      refine lv_aload_n hx hb dX5_put_4 rfl (lv_at hl 0 rfl) ?_
      refine va_get (D := G) (ci := 4) (v := .int (giC S x0 1)) (C := RX5) (T := TX5) (N := 2) hx hb hts iX5 hown hK hP x0 (at_4 (k_x0.e hZ)) rfl 1 (by decide) (hw (.fieldLink RX5 17 "MotionFloor$Pile" "size" "I") (List.mem_of_getElem? (i := 0) rfl)) (fun _ h9 => h9) rfl dX5_put_5 ?_
      refine lv_aload_n hx hb dX5_put_8 rfl (lv_at hl 0 rfl) ?_
      refine va_get (D := G) (ci := 4) (v := va_re ad (grC S x0 0)) (C := RX5) (T := TX5) (N := 2) hx hb hts iX5 hown hK hP x0 (at_4 (k_x0.e hZ)) rfl 0 (by decide) (hw (.fieldLink RX5 11 "MotionFloor$Pile" "motions" "[LMotionFloor$Motion;") (List.mem_of_getElem? (i := 1) rfl)) (fun _ h9 => h9) rfl dX5_put_9 ?_
      obtain ⟨hy2, hp⟩ := hp
      refine cTop (r := (grC S x0 0)) hy2.1 ?_
      refine va_alen (v := (Int32.ofNat (lnC S ((grC S x0 0).getD 0)))) hx hb hK hP ((grC S x0 0).getD 0) 3 (at_23 hy2.2) rfl rfl dX5_put_12 ?_
      refine lv_icmp_ge (tgt := 36) hx hb dX5_put_13 (by decide) (fun c3 => ?_) (fun c3 => ?_)
      · rw [if_pos c3] at hE hp
        exact B_Y5_put_36 S x1 _ _ _ hE hp hZ hP hD hS (lv_sub hl [0, 1] rfl)
      · rw [if_neg c3] at hE hp
        refine lv_aload_n hx hb dX5_put_16 rfl (lv_at hl 0 rfl) ?_
        refine va_get (D := G) (ci := 4) (v := va_re ad (grC S x0 0)) (C := RX5) (T := TX5) (N := 2) hx hb hts iX5 hown hK hP x0 (at_4 (k_x0.e hZ)) rfl 0 (by decide) (hw (.fieldLink RX5 11 "MotionFloor$Pile" "motions" "[LMotionFloor$Motion;") (List.mem_of_getElem? (i := 1) rfl)) (fun _ h9 => h9) rfl dX5_put_17 ?_
        refine lv_aload_n hx hb dX5_put_20 rfl (lv_at hl 0 rfl) ?_
        refine va_get (D := G) (ci := 4) (v := .int (giC S x0 1)) (C := RX5) (T := TX5) (N := 2) hx hb hts iX5 hown hK hP x0 (at_4 (k_x0.e hZ)) rfl 1 (by decide) (hw (.fieldLink RX5 17 "MotionFloor$Pile" "size" "I") (List.mem_of_getElem? (i := 0) rfl)) (fun _ h9 => h9) rfl dX5_put_21 ?_
        refine cAload_n (ad := ad) (r := x1) hx hb dX5_put_24 rfl (lv_at hl 1 rfl) ?_
        obtain ⟨hy4, hp⟩ := hp
        refine cTop3 (r := (grC S x0 0)) hy4.1 ?_
        obtain ⟨hy5, hp⟩ := hp
        refine cTop (r := x1) hy5.1 ?_
        obtain ⟨hy6, hp⟩ := hp
        refine va_astq hx hb hK hP hD hS ((grC S x0 0).getD 0) 3 (x1.getD 0) 3 (at_23 hy4.2) rfl (at_3 hy5.2) rfl hy6 dX5_put_25 (fun H locs hP hD hS => ?_)
        rw [ss_23 hy4.2] at hP hD
        have hZ := hZ.tr (eK.sr S ((grC S x0 0).getD 0) (giC S x0 1).toNatClampNeg (some (x1.getD 0)))
        refine lv_aload_n hx hb dX5_put_26 rfl (lv_at hl 0 rfl) ?_
        refine lv_dup hx hb dX5_put_27 rfl ?_
        refine va_get (D := G) (ci := 4) (v := .int (giC (srC S ((grC S x0 0).getD 0) (giC S x0 1).toNatClampNeg (some (x1.getD 0))) x0 1)) (C := RX5) (T := TX5) (N := 2) hx hb hts iX5 hown hK hP x0 (at_4 (k_x0.e hZ)) rfl 1 (by decide) (hw (.fieldLink RX5 17 "MotionFloor$Pile" "size" "I") (List.mem_of_getElem? (i := 0) rfl)) (fun _ h9 => h9) rfl dX5_put_28 ?_
        refine lv_iconst (v := 1) hx hb dX5_put_31 (by decide) ?_
        refine lv_iadd hx hb dX5_put_32 ?_
        refine va_put (D := G) (ci := 4) (v := .int ((giC (srC S ((grC S x0 0).getD 0) (giC S x0 1).toNatClampNeg (some (x1.getD 0))) x0 1) + 1)) (ty := .int) (C := RX5) (T := TX5) (N := 2) hx hb hts iX5 tyX5 tyX5_ok nmX5 hown hK hP hD hS x0 (at_4 (k_x0.e hZ)) rfl 1 (by decide) (hw (.fieldLink RX5 17 "MotionFloor$Pile" "size" "I") (List.mem_of_getElem? (i := 0) rfl)) (fun _ h9 => h9) rfl (by decide +kernel) rfl rfl (Nat.le_of_ble_eq_true rfl) dX5_put_33 (fun H locs hP hD hS => ?_)
        rw [st_4_1 (k_x0.e hZ)] at hP hD
        have hZ := hZ.tr (eK.si (srC S ((grC S x0 0).getD 0) (giC S x0 1).toNatClampNeg (some (x1.getD 0))) x0 1 ((giC (srC S ((grC S x0 0).getD 0) (giC S x0 1).toNatClampNeg (some (x1.getD 0))) x0 1) + 1))
        exact B_Y5_put_36 (siC (srC S ((grC S x0 0).getD 0) (giC S x0 1).toNatClampNeg (some (x1.getD 0))) x0 1 ((giC (srC S ((grC S x0 0).getD 0) (giC S x0 1).toNatClampNeg (some (x1.getD 0))) x0 1) + 1)) x1 _ _ _ hE hp hZ hP hD hS (lv_sub hl [0, 1] rfl)
  exact B_M S0 a1 _ _ _ hX hp (eK.rf S0) hP hD hS hl
theorem gdX5_pourInto_29 : ckS (List.drop 29 cX5_pourInto.data.toList) 29 [(29, .aload_n 0, 1), (30, .getfield 11, 3), (33, .iload_n 2, 1), (34, .aconst_null, 1), (35, .aastore, 1), (36, .iinc 2 1, 3), (39, .goto (-37), 3)] = true := by decide +kernel
theorem dX5_pourInto_29 : decode cX5_pourInto 29 = .ok (.aload_n 0, 1) := ckS_g gdX5_pourInto_29 0 rfl
theorem dX5_pourInto_30 : decode cX5_pourInto 30 = .ok (.getfield 11, 3) := ckS_g gdX5_pourInto_29 1 rfl
theorem dX5_pourInto_33 : decode cX5_pourInto 33 = .ok (.iload_n 2, 1) := ckS_g gdX5_pourInto_29 2 rfl
theorem dX5_pourInto_34 : decode cX5_pourInto 34 = .ok (.aconst_null, 1) := ckS_g gdX5_pourInto_29 3 rfl
theorem dX5_pourInto_35 : decode cX5_pourInto 35 = .ok (.aastore, 1) := ckS_g gdX5_pourInto_29 4 rfl
theorem dX5_pourInto_36 : decode cX5_pourInto 36 = .ok (.iinc 2 1, 3) := ckS_g gdX5_pourInto_29 5 rfl
theorem dX5_pourInto_39 : decode cX5_pourInto 39 = .ok (.goto (-37), 3) := ckS_g gdX5_pourInto_29 6 rfl
set_option maxRecDepth 100000 in
theorem zc158 : wZ (.selects RX5 yX5_put yX5_put) := ⟨wT3 (List.mem_of_getElem? (i := 113) (by decide +kernel)), Or.inl rfl⟩
set_option maxRecDepth 100000 in
theorem zc159 : wZ (.instanceMethod yX5_put) := ⟨wT3 (List.mem_of_getElem? (i := 112) (by decide +kernel)), Or.inl rfl⟩
set_option maxRecDepth 100000 in
theorem zc160 : wZ (.methodLink RX5 25 yX5_put) := ⟨wT3 (List.mem_of_getElem? (i := 139) (by decide +kernel)), Or.inl rfl⟩
set_option maxRecDepth 100000 in
theorem zc161 : wZ (.code yX5_pourInto cX5_pourInto 3 none) := ⟨wT3 (List.mem_of_getElem? (i := 138) rfl), Or.inl rfl⟩
def b_Y5_pourInto_42 (S : Cst) (x0 : Nat) (x1 : Nat) (x2 : Int32) : Int32 × Cst := (0, (siC S x0 1 (0 : Int32)))
def q_Y5_pourInto_42 (S : Cst) (x0 : Nat) (x1 : Nat) (x2 : Int32) : Prop := True
def b_Y5_pourInto_29a (S : Cst) (x0 : Nat) (x1 : Nat) (x2 : Int32) : (Int32 × Cst) ⊕ (Cst × Int32) := Sum.inr ((srC S ((grC S x0 0).getD 0) x2.toNatClampNeg none), (x2 + 1))
def q_Y5_pourInto_29a (S : Cst) (x0 : Nat) (x1 : Nat) (x2 : Int32) : Prop := (iR S (grC S x0 0) 23) ∧ (vp_in x2 (lnC S ((grC S x0 0).getD 0))) ∧ True
def st_Y5_pourInto_2 (S : Cst) (x0 : Nat) (x1 : Nat) (x2 : Int32) : (Int32 × Cst) ⊕ (Cst × Int32) := if (giC S x0 1) ≤ x2 then Sum.inl ((b_Y5_pourInto_42 S x0 x1 x2)) else if (Int32.ofNat (lnC S ((grC S x0 0).getD 0))) ≤ x2 then Sum.inl ((b_Y5_pourInto_42 S x0 x1 x2)) else (b_Y5_pourInto_29a ((f_Y5_put S x1 (grC S ((grC S x0 0).getD 0) x2.toNatClampNeg)).2) x0 x1 x2)
def ps_Y5_pourInto_2 (S : Cst) (x0 : Nat) (x1 : Nat) (x2 : Int32) : Prop := (if (giC S x0 1) ≤ x2 then (q_Y5_pourInto_42 S x0 x1 x2) else (iR S (grC S x0 0) 23) ∧ (if (Int32.ofNat (lnC S ((grC S x0 0).getD 0))) ≤ x2 then (q_Y5_pourInto_42 S x0 x1 x2) else (iR S (grC S x0 0) 23) ∧ (vp_in x2 (lnC S ((grC S x0 0).getD 0))) ∧ (p_Y5_put S x1 (grC S ((grC S x0 0).getD 0) x2.toNatClampNeg)) ∧ (q_Y5_pourInto_29a ((f_Y5_put S x1 (grC S ((grC S x0 0).getD 0) x2.toNatClampNeg)).2) x0 x1 x2)))
def lp_Y5_pourInto_2 (x0 : Nat) (x1 : Nat) : Nat → Cst → Int32 → Int32 × Cst
  | 0, S, _ => (0, S)
  | n + 1, S, x2 => match st_Y5_pourInto_2 S x0 x1 x2 with
    | Sum.inl r => r
    | Sum.inr q => lp_Y5_pourInto_2 x0 x1 n q.1 q.2
def lq_Y5_pourInto_2 (x0 : Nat) (x1 : Nat) : Nat → Cst → Int32 → Prop
  | 0, _, _ => False
  | n + 1, S, x2 => ps_Y5_pourInto_2 S x0 x1 x2 ∧ (match st_Y5_pourInto_2 S x0 x1 x2 with
    | Sum.inl _ => True
    | Sum.inr q => lq_Y5_pourInto_2 x0 x1 n q.1 q.2)
def f_Y5_pourInto (S : Cst) (x0 : Nat) (x1 : Nat) : Int32 × Cst := (lp_Y5_pourInto_2 x0 x1 100000 S 0)
def p_Y5_pourInto (S : Cst) (x0 : Nat) (x1 : Nat) : Prop := (lq_Y5_pourInto_2 x0 x1 100000 S 0)
def e_Y5_pourInto : List Cond := [.fieldLink RX5 17 "MotionFloor$Pile" "size" "I", .fieldLink RX5 11 "MotionFloor$Pile" "motions" "[LMotionFloor$Motion;", .methodLink RX5 25 yX5_put, .instanceMethod yX5_put, .selects RX5 yX5_put yX5_put, .initialized RX5]
def v_Y5_pourInto : List Cond := .code yX5_pourInto cX5_pourInto 3 none :: (e_Y5_pourInto ++ (wsX50 ++ (v_Y5_put ++ [])))
theorem te_Y5_pourInto : GoodIn lw_tbl e_Y5_pourInto := wGc zc3 (wGc zc2 (wGc zc160 (wGc zc159 (wGc zc158 (wGc zc34 (wG0))))))
theorem t_Y5_pourInto : GoodIn lw_tbl v_Y5_pourInto := wGc zc161 (wGa te_Y5_pourInto (wGa zcX5 (wGa t_Y5_put (wG0))))
set_option maxHeartbeats 4000000 in
set_option maxRecDepth 100000 in
theorem c_Y5_pourInto (l : Launch) (G : va_G) (K : Nat → ClassId) (ad : Nat → Nat) (S0 : Cst) (x0 : Nat) (x1 : Nat)  (sz : Nat) : Met l yX5_pourInto v_Y5_pourInto ({ frames := 1, cells := 0, slots := 0, locals := 21 }) (va_Pc [.ref (ad x0), .ref (ad x1)] (cSt G K ad sz S0 (iK S0 x0 4 ∧ iK S0 x1 4 ∧ p_Y5_pourInto S0 x0 x1))) (va_Qv (fun u : Cst => (0, u) = f_Y5_pourInto S0 x0 x1 ∧ eK S0 u) (cBt G K ad (va_A (wsC K ad S0) sz)) (va_A (wsC K ad S0) sz)) 0 0 (va_A (wsC K ad S0) sz) := by
  refine Met.ofW (cc := cX5_pourInto) (maxL := 3) (ret := none) (by decide) rfl ?_
  intro p e s m args below meth c s₁ B hml hv
  obtain ⟨rfl, ⟨hsz, hP, hK, hD0, hTE⟩, hp⟩ := hv
  obtain ⟨k_x0, hp⟩ := hp
  obtain ⟨k_x1, hp⟩ := hp
  have hx := B.exec
  have hb := B.bytes
  have hr := B.returns
  have hts := atoms_spec (ws := v_Y5_pourInto) B.pre
  have t_ := t_Y5_pourInto
  have mw : ∀ w ∈ e_Y5_pourInto, w ∈ v_Y5_pourInto := fun w h => List.mem_cons_of_mem _ (List.mem_append_left _ h)
  have hw := fun w (h : w ∈ e_Y5_pourInto) => hts w (mw w h)
  have iX5 : ∀ w ∈ wsX50, w ∈ v_Y5_pourInto := fun w h => List.mem_cons_of_mem _ (List.mem_append_right _ (List.mem_append_left _ h))
  have j_Y5_put : ∀ w ∈ v_Y5_put, w ∈ v_Y5_pourInto := fun w h => List.mem_cons_of_mem _ (List.mem_append_right _ (List.mem_append_right _ (List.mem_append_left _ h)))
  have hown : s.vm.findClass RX5 = some m.cls := findClass_of_methodNamed B.named
  have hlocks := B.notSynchronized
  subst hsz
  have hD := hD0.self (sz := s.heap.size)
  generalize hAe : va_A (wsC K ad S0) s.heap.size = A at hD ⊢
  have hA : ∀ q : Nat, s.heap.size ≤ q → A q := fun q h => by rw [← hAe]; exact Or.inr h
  have hS : va_S A s.heap s.heap [] := va_S.rf
  have hl : lv_has (lg_sl ([.ref (ad x0), .ref (ad x1)]) ++ List.replicate (3 - (lg_sl ([.ref (ad x0), .ref (ad x1)])).length) Slot.unset).toArray 3 [(0, .ref (ad x0)), (1, .ref (ad x1))] := by
    exact lv_entry ([.ref (ad x0), .ref (ad x1)]) (n := 3) (Nat.le_of_ble_eq_true rfl)
  rw [lg_entry_eq]
  generalize (lg_sl ([.ref (ad x0), .ref (ad x1)]) ++ List.replicate (3 - (lg_sl ([.ref (ad x0), .ref (ad x1)])).length) Slot.unset).toArray = ls_ at hl ⊢
  refine wGen (fun Q hQ => ?_)
  obtain ⟨X, hX⟩ : ∃ X, f_Y5_pourInto S0 x0 x1 = X := ⟨_, rfl⟩
  have B_Y5_pourInto_42 : ∀ (S : Cst) (x2 : Int32) (H : Heap) (locs : List Loc) (ls_ : Array Slot), b_Y5_pourInto_42 S x0 x1 x2 = X → q_Y5_pourInto_42 S x0 x1 x2 → eK S0 S → va_P G vwCl (wsC K ad S) H → va_D A (wsC K ad S) → va_S A s.heap H locs → lv_has ls_ 3 [(0, .ref (ad x0)), (1, .ref (ad x1)), (2, .int x2)] → W p l e ({ frames := 1, cells := 0, slots := 0, locals := 21 } : Room) s m #[Value.ref (ad x0), Value.ref (ad x1)] below meth c H locs 0 0 Q (F0 m 42 ls_ []) := by
    intro S x2 H locs ls_ hE hp hZ hP hD hS hl
    unfold b_Y5_pourInto_42 at hE
    unfold q_Y5_pourInto_42 at hp
    refine lv_aload_n hx hb dX5_pourInto_42 rfl (lv_at hl 0 rfl) ?_
    refine lv_iconst (v := 0) hx hb dX5_pourInto_43 (by decide) ?_
    refine va_put (D := G) (ci := 4) (v := .int 0) (ty := .int) (C := RX5) (T := TX5) (N := 2) hx hb hts iX5 tyX5 tyX5_ok nmX5 hown hK hP hD hS x0 (at_4 (k_x0.e hZ)) rfl 1 (by decide) (hw (.fieldLink RX5 17 "MotionFloor$Pile" "size" "I") (List.mem_of_getElem? (i := 0) rfl)) (fun _ h9 => h9) rfl (by decide +kernel) rfl rfl (Nat.le_of_ble_eq_true rfl) dX5_pourInto_44 (fun H locs hP hD hS => ?_)
    rw [st_4_1 (k_x0.e hZ)] at hP hD
    have hZ := hZ.tr (eK.si S x0 1 (0 : Int32))
    subst hQ
    exact W.vret hx hb hr (fun t ht hW => ⟨⟨(siC S x0 1 (0 : Int32)), rfl, ⟨hE.trans hX.symm, hZ⟩, by rw [ht]; exact hP, hD⟩, hS.F ht⟩) hS.2.2 dX5_pourInto_47
  have L_2 : ∀ (n : Nat) (S : Cst) (x2 : Int32) (H : Heap) (locs : List Loc) (ls_ : Array Slot), lp_Y5_pourInto_2 x0 x1 n S x2 = X → lq_Y5_pourInto_2 x0 x1 n S x2 → eK S0 S → va_P G vwCl (wsC K ad S) H → va_D A (wsC K ad S) → va_S A s.heap H locs → lv_has ls_ 3 [(0, .ref (ad x0)), (1, .ref (ad x1)), (2, .int x2)] → W p l e ({ frames := 1, cells := 0, slots := 0, locals := 21 } : Room) s m #[Value.ref (ad x0), Value.ref (ad x1)] below meth c H locs 0 0 Q (F0 m 2 ls_ []) := by
    intro n1
    induction n1 with
    | zero => intro S x2 H locs ls_ hE hp; exact False.elim hp
    | succ n1 ih1 =>
      intro S x2 H locs ls_ hO1 hp hZ hP hD hS hl
      rw [lp_Y5_pourInto_2] at hO1
      rw [lq_Y5_pourInto_2] at hp
      obtain ⟨hp, hq1⟩ := hp
      generalize hE : st_Y5_pourInto_2 S x0 x1 x2 = Y1 at hO1 hq1
      unfold st_Y5_pourInto_2 at hE
      unfold ps_Y5_pourInto_2 at hp
      have B_Y5_pourInto_29a : ∀ (S : Cst) (x2 : Int32) (H : Heap) (locs : List Loc) (ls_ : Array Slot), b_Y5_pourInto_29a S x0 x1 x2 = Y1 → q_Y5_pourInto_29a S x0 x1 x2 → eK S0 S → va_P G vwCl (wsC K ad S) H → va_D A (wsC K ad S) → va_S A s.heap H locs → lv_has ls_ 3 [(0, .ref (ad x0)), (1, .ref (ad x1)), (2, .int x2)] → W p l e ({ frames := 1, cells := 0, slots := 0, locals := 21 } : Room) s m #[Value.ref (ad x0), Value.ref (ad x1)] below meth c H locs 0 0 Q (F0 m 29 ls_ []) := by
        intro S x2 H locs ls_ hE hp hZ hP hD hS hl
        unfold b_Y5_pourInto_29a at hE
        unfold q_Y5_pourInto_29a at hp
        refine lv_aload_n hx hb dX5_pourInto_29 rfl (lv_at hl 0 rfl) ?_
        refine va_get (D := G) (ci := 4) (v := va_re ad (grC S x0 0)) (C := RX5) (T := TX5) (N := 2) hx hb hts iX5 hown hK hP x0 (at_4 (k_x0.e hZ)) rfl 0 (by decide) (hw (.fieldLink RX5 11 "MotionFloor$Pile" "motions" "[LMotionFloor$Motion;") (List.mem_of_getElem? (i := 1) rfl)) (fun _ h9 => h9) rfl dX5_pourInto_30 ?_
        refine lv_iload_n hx hb dX5_pourInto_33 rfl (lv_at hl 2 rfl) ?_
        refine lv_null hx hb dX5_pourInto_34 ?_
        rw [← re_none (ad := ad) (r := none) rfl]
        obtain ⟨hy9, hp⟩ := hp
        refine cTop3 (r := (grC S x0 0)) hy9.1 ?_
        rw [re_none (ad := ad) (r := none) rfl]
        obtain ⟨hy10, hp⟩ := hp
        refine va_astqN hx hb hK hP hD hS ((grC S x0 0).getD 0) 3 (at_23 hy9.2) rfl hy10 dX5_pourInto_35 (fun H locs hP hD hS => ?_)
        rw [sn_23 hy9.2] at hP hD
        have hZ := hZ.tr (eK.sr S ((grC S x0 0).getD 0) x2.toNatClampNeg none)
        refine lv_iinc (i := 2) (v := (x2 + 1)) (lv' := [(2, .int (x2 + 1)), (0, .ref (ad x0)), (1, .ref (ad x1))]) hx hb dX5_pourInto_36 hl (k := 2) rfl rfl (by decide) rfl (fun ls_ hl => ?_)
        refine lv_goto (tgt := 2) hx hb dX5_pourInto_39 (by decide) ?_
        subst hE
        dsimp only at hO1 hq1
        exact ih1 (srC S ((grC S x0 0).getD 0) x2.toNatClampNeg none) (x2 + 1) _ _ _ hO1 hq1 hZ hP hD hS (lv_sub hl [1, 2, 0] rfl)
      refine lv_iload_n hx hb dX5_pourInto_2 rfl (lv_at hl 2 rfl) ?_
      refine lv_aload_n hx hb dX5_pourInto_3 rfl (lv_at hl 0 rfl) ?_
      refine va_get (D := G) (ci := 4) (v := .int (giC S x0 1)) (C := RX5) (T := TX5) (N := 2) hx hb hts iX5 hown hK hP x0 (at_4 (k_x0.e hZ)) rfl 1 (by decide) (hw (.fieldLink RX5 17 "MotionFloor$Pile" "size" "I") (List.mem_of_getElem? (i := 0) rfl)) (fun _ h9 => h9) rfl dX5_pourInto_4 ?_
      refine lv_icmp_ge (tgt := 42) hx hb dX5_pourInto_7 (by decide) (fun c1 => ?_) (fun c1 => ?_)
      · rw [if_pos c1] at hE hp
        subst hE
        have hE := hO1
        dsimp only at hE
        exact B_Y5_pourInto_42 S x2 _ _ _ hE hp hZ hP hD hS (lv_sub hl [0, 1, 2] rfl)
      · rw [if_neg c1] at hE hp
        refine lv_iload_n hx hb dX5_pourInto_10 rfl (lv_at hl 2 rfl) ?_
        refine lv_aload_n hx hb dX5_pourInto_11 rfl (lv_at hl 0 rfl) ?_
        refine va_get (D := G) (ci := 4) (v := va_re ad (grC S x0 0)) (C := RX5) (T := TX5) (N := 2) hx hb hts iX5 hown hK hP x0 (at_4 (k_x0.e hZ)) rfl 0 (by decide) (hw (.fieldLink RX5 11 "MotionFloor$Pile" "motions" "[LMotionFloor$Motion;") (List.mem_of_getElem? (i := 1) rfl)) (fun _ h9 => h9) rfl dX5_pourInto_12 ?_
        obtain ⟨hy2, hp⟩ := hp
        refine cTop (r := (grC S x0 0)) hy2.1 ?_
        refine va_alen (v := (Int32.ofNat (lnC S ((grC S x0 0).getD 0)))) hx hb hK hP ((grC S x0 0).getD 0) 3 (at_23 hy2.2) rfl rfl dX5_pourInto_15 ?_
        refine lv_icmp_ge (tgt := 42) hx hb dX5_pourInto_16 (by decide) (fun c3 => ?_) (fun c3 => ?_)
        · rw [if_pos c3] at hE hp
          subst hE
          have hE := hO1
          dsimp only at hE
          exact B_Y5_pourInto_42 S x2 _ _ _ hE hp hZ hP hD hS (lv_sub hl [0, 1, 2] rfl)
        · rw [if_neg c3] at hE hp
          refine lv_aload_n hx hb dX5_pourInto_19 rfl (lv_at hl 1 rfl) ?_
          refine lv_aload_n hx hb dX5_pourInto_20 rfl (lv_at hl 0 rfl) ?_
          refine va_get (D := G) (ci := 4) (v := va_re ad (grC S x0 0)) (C := RX5) (T := TX5) (N := 2) hx hb hts iX5 hown hK hP x0 (at_4 (k_x0.e hZ)) rfl 0 (by decide) (hw (.fieldLink RX5 11 "MotionFloor$Pile" "motions" "[LMotionFloor$Motion;") (List.mem_of_getElem? (i := 1) rfl)) (fun _ h9 => h9) rfl dX5_pourInto_21 ?_
          refine lv_iload_n hx hb dX5_pourInto_24 rfl (lv_at hl 2 rfl) ?_
          obtain ⟨hy4, hp⟩ := hp
          refine cTop2 (r := (grC S x0 0)) hy4.1 ?_
          obtain ⟨hy5, hp⟩ := hp
          refine cAald hx hb hK hP ((grC S x0 0).getD 0) 3 (at_23 hy4.2) rfl hy5 dX5_pourInto_25 ?_
          obtain ⟨hy6, hp⟩ := hp
          refine cGov (va_runV (As := [va_re ad (grC S ((grC S x0 0).getD 0) x2.toNatClampNeg)]) (rest := []) ⟨hx, hb, hml, hown, hts⟩ (c_Y5_put l G K ad S x1 (grC S ((grC S x0 0).getD 0) x2.toNatClampNeg) _) (cwV 1 hts (wGV t_ (mw (.methodLink RX5 25 yX5_put) (List.mem_of_getElem? (i := 2) rfl)) (mw (.instanceMethod yX5_put) (List.mem_of_getElem? (i := 3) rfl)) (mw (.selects RX5 yX5_put yX5_put) (List.mem_of_getElem? (i := 4) rfl)) (mw (.initialized RX5) (List.mem_of_getElem? (i := 5) rfl)) j_Y5_put) rfl rfl rfl (by decide +kernel) ⟨Nat.le_of_ble_eq_true rfl, Nat.le_of_ble_eq_true rfl⟩) (cPV hK hTE hP hD 4 rfl (at_4 (k_x1.e hZ)) ⟨(k_x1.e hZ), hy6⟩) rfl rfl hl.1 rfl (lv_room (Nat.le_of_ble_eq_true rfl)) dX5_pourInto_26 ⟨Nat.le_of_ble_eq_true rfl, Nat.le_of_ble_eq_true rfl⟩) hP hD hS hA (fun u7 H locs hv hP hD hS => ?_)
          obtain ⟨hv, hz⟩ := hv
          have hZ := hZ.tr hz
          rw [← hv] at hE hp
          dsimp only at hE hp
          exact B_Y5_pourInto_29a u7 x2 _ _ _ hE hp hZ hP hD hS (lv_sub hl [0, 1, 2] rfl)
  have B_M : ∀ (S : Cst) (H : Heap) (locs : List Loc) (ls_ : Array Slot), f_Y5_pourInto S x0 x1 = X → p_Y5_pourInto S x0 x1 → eK S0 S → va_P G vwCl (wsC K ad S) H → va_D A (wsC K ad S) → va_S A s.heap H locs → lv_has ls_ 3 [(0, .ref (ad x0)), (1, .ref (ad x1))] → W p l e ({ frames := 1, cells := 0, slots := 0, locals := 21 } : Room) s m #[Value.ref (ad x0), Value.ref (ad x1)] below meth c H locs 0 0 Q (F0 m 0 ls_ []) := by
    intro S H locs ls_ hE hp hZ hP hD hS hl
    unfold f_Y5_pourInto at hE
    unfold p_Y5_pourInto at hp
    refine lv_iconst (v := 0) hx hb dX5_pourInto_0 (by decide) ?_
    refine lv_istore_n (i := 2) (lv' := [(2, .int 0), (0, .ref (ad x0)), (1, .ref (ad x1))]) hx hb dX5_pourInto_1 rfl hl (by decide) rfl (fun ls_ hl => ?_)
    exact L_2 100000 S 0 _ _ _ hE hp hZ hP hD hS (lv_sub hl [1, 2, 0] rfl)
  exact B_M S0 _ _ _ hX hp (eK.rf S0) hP hD hS hl
theorem gdX6_takeFrom_19 : ckS (List.drop 19 cX6_takeFrom.data.toList) 19 [(19, .aload_n 1, 1), (20, .iconst 0, 1), (21, .putfield 9, 3), (24, .return_, 1)] = true := by decide +kernel
theorem dX6_takeFrom_19 : decode cX6_takeFrom 19 = .ok (.aload_n 1, 1) := ckS_g gdX6_takeFrom_19 0 rfl
theorem dX6_takeFrom_20 : decode cX6_takeFrom 20 = .ok (.iconst 0, 1) := ckS_g gdX6_takeFrom_19 1 rfl
theorem dX6_takeFrom_21 : decode cX6_takeFrom 21 = .ok (.putfield 9, 3) := ckS_g gdX6_takeFrom_19 2 rfl
theorem dX6_takeFrom_24 : decode cX6_takeFrom 24 = .ok (.return_, 1) := ckS_g gdX6_takeFrom_19 3 rfl
set_option maxRecDepth 100000 in
theorem zc162 : wZ (.selects RX5 yX5_pourInto yX5_pourInto) := ⟨wT3 (List.mem_of_getElem? (i := 137) (by decide +kernel)), Or.inl rfl⟩
set_option maxRecDepth 100000 in
theorem zc163 : wZ (.instanceMethod yX5_pourInto) := ⟨wT3 (List.mem_of_getElem? (i := 136) (by decide +kernel)), Or.inl rfl⟩
set_option maxRecDepth 100000 in
theorem zc164 : wZ (.methodLink RX6 45 yX5_pourInto) := ⟨wT3 (List.mem_of_getElem? (i := 135) (by decide +kernel)), Or.inl rfl⟩
set_option maxRecDepth 100000 in
theorem zc165 : wZ (.code yX6_takeFrom cX6_takeFrom 2 none) := ⟨wT3 (List.mem_of_getElem? (i := 134) rfl), Or.inl rfl⟩
def b_Y6_takeFrom_19a (S : Cst) (x0 : Nat) (x1 : Nat)  : Int32 × Cst := (0, (siC S x1 0 (0 : Int32)))
def q_Y6_takeFrom_19a (S : Cst) (x0 : Nat) (x1 : Nat)  : Prop := True
def f_Y6_takeFrom (S : Cst) (x0 : Nat) (x1 : Nat) : Int32 × Cst := (b_Y6_takeFrom_19a ((f_Y5_pourInto (siC S x0 0 (giC S x1 0)) ((grC (siC S x0 0 (giC S x1 0)) x1 1).getD 0) ((grC (siC S x0 0 (giC S x1 0)) x0 1).getD 0)).2) x0 x1)
def p_Y6_takeFrom (S : Cst) (x0 : Nat) (x1 : Nat) : Prop := (iR (siC S x0 0 (giC S x1 0)) (grC (siC S x0 0 (giC S x1 0)) x1 1) 4) ∧ (iR (siC S x0 0 (giC S x1 0)) (grC (siC S x0 0 (giC S x1 0)) x0 1) 4) ∧ (p_Y5_pourInto (siC S x0 0 (giC S x1 0)) ((grC (siC S x0 0 (giC S x1 0)) x1 1).getD 0) ((grC (siC S x0 0 (giC S x1 0)) x0 1).getD 0)) ∧ (q_Y6_takeFrom_19a ((f_Y5_pourInto (siC S x0 0 (giC S x1 0)) ((grC (siC S x0 0 (giC S x1 0)) x1 1).getD 0) ((grC (siC S x0 0 (giC S x1 0)) x0 1).getD 0)).2) x0 x1)
def e_Y6_takeFrom : List Cond := [.fieldLink RX6 9 "MotionFloor$Place" "sort" "I", .fieldLink RX6 18 "MotionFloor$Place" "pile" "LMotionFloor$Pile;", .methodLink RX6 45 yX5_pourInto, .instanceMethod yX5_pourInto, .selects RX5 yX5_pourInto yX5_pourInto, .initialized RX5]
def v_Y6_takeFrom : List Cond := .code yX6_takeFrom cX6_takeFrom 2 none :: (e_Y6_takeFrom ++ (wsX60 ++ (v_Y5_pourInto ++ [])))
theorem te_Y6_takeFrom : GoodIn lw_tbl e_Y6_takeFrom := wGc zc110 (wGc zc125 (wGc zc164 (wGc zc163 (wGc zc162 (wGc zc34 (wG0))))))
theorem t_Y6_takeFrom : GoodIn lw_tbl v_Y6_takeFrom := wGc zc165 (wGa te_Y6_takeFrom (wGa zcX6 (wGa t_Y5_pourInto (wG0))))
set_option maxHeartbeats 4000000 in
set_option maxRecDepth 100000 in
theorem c_Y6_takeFrom (l : Launch) (G : va_G) (K : Nat → ClassId) (ad : Nat → Nat) (S0 : Cst) (x0 : Nat) (x1 : Nat)  (sz : Nat) : Met l yX6_takeFrom v_Y6_takeFrom ({ frames := 2, cells := 0, slots := 0, locals := 43 }) (va_Pc [.ref (ad x0), .ref (ad x1)] (cSt G K ad sz S0 (iK S0 x0 5 ∧ iK S0 x1 5 ∧ p_Y6_takeFrom S0 x0 x1))) (va_Qv (fun u : Cst => (0, u) = f_Y6_takeFrom S0 x0 x1 ∧ eK S0 u) (cBt G K ad (va_A (wsC K ad S0) sz)) (va_A (wsC K ad S0) sz)) 0 0 (va_A (wsC K ad S0) sz) := by
  refine Met.ofW (cc := cX6_takeFrom) (maxL := 2) (ret := none) (by decide) rfl ?_
  intro p e s m args below meth c s₁ B hml hv
  obtain ⟨rfl, ⟨hsz, hP, hK, hD0, hTE⟩, hp⟩ := hv
  obtain ⟨k_x0, hp⟩ := hp
  obtain ⟨k_x1, hp⟩ := hp
  have hx := B.exec
  have hb := B.bytes
  have hr := B.returns
  have hts := atoms_spec (ws := v_Y6_takeFrom) B.pre
  have t_ := t_Y6_takeFrom
  have mw : ∀ w ∈ e_Y6_takeFrom, w ∈ v_Y6_takeFrom := fun w h => List.mem_cons_of_mem _ (List.mem_append_left _ h)
  have hw := fun w (h : w ∈ e_Y6_takeFrom) => hts w (mw w h)
  have iX6 : ∀ w ∈ wsX60, w ∈ v_Y6_takeFrom := fun w h => List.mem_cons_of_mem _ (List.mem_append_right _ (List.mem_append_left _ h))
  have j_Y5_pourInto : ∀ w ∈ v_Y5_pourInto, w ∈ v_Y6_takeFrom := fun w h => List.mem_cons_of_mem _ (List.mem_append_right _ (List.mem_append_right _ (List.mem_append_left _ h)))
  have hown : s.vm.findClass RX6 = some m.cls := findClass_of_methodNamed B.named
  have hlocks := B.notSynchronized
  subst hsz
  have hD := hD0.self (sz := s.heap.size)
  generalize hAe : va_A (wsC K ad S0) s.heap.size = A at hD ⊢
  have hA : ∀ q : Nat, s.heap.size ≤ q → A q := fun q h => by rw [← hAe]; exact Or.inr h
  have hS : va_S A s.heap s.heap [] := va_S.rf
  have hl : lv_has (lg_sl ([.ref (ad x0), .ref (ad x1)]) ++ List.replicate (2 - (lg_sl ([.ref (ad x0), .ref (ad x1)])).length) Slot.unset).toArray 2 [(0, .ref (ad x0)), (1, .ref (ad x1))] := by
    exact lv_entry ([.ref (ad x0), .ref (ad x1)]) (n := 2) (Nat.le_of_ble_eq_true rfl)
  rw [lg_entry_eq]
  generalize (lg_sl ([.ref (ad x0), .ref (ad x1)]) ++ List.replicate (2 - (lg_sl ([.ref (ad x0), .ref (ad x1)])).length) Slot.unset).toArray = ls_ at hl ⊢
  refine wGen (fun Q hQ => ?_)
  obtain ⟨X, hX⟩ : ∃ X, f_Y6_takeFrom S0 x0 x1 = X := ⟨_, rfl⟩
  have B_Y6_takeFrom_19a : ∀ (S : Cst)  (H : Heap) (locs : List Loc) (ls_ : Array Slot), b_Y6_takeFrom_19a S x0 x1 = X → q_Y6_takeFrom_19a S x0 x1 → eK S0 S → va_P G vwCl (wsC K ad S) H → va_D A (wsC K ad S) → va_S A s.heap H locs → lv_has ls_ 2 [(0, .ref (ad x0)), (1, .ref (ad x1))] → W p l e ({ frames := 2, cells := 0, slots := 0, locals := 43 } : Room) s m #[Value.ref (ad x0), Value.ref (ad x1)] below meth c H locs 0 0 Q (F0 m 19 ls_ []) := by
    intro S H locs ls_ hE hp hZ hP hD hS hl
    unfold b_Y6_takeFrom_19a at hE
    unfold q_Y6_takeFrom_19a at hp
    refine lv_aload_n hx hb dX6_takeFrom_19 rfl (lv_at hl 1 rfl) ?_
    refine lv_iconst (v := 0) hx hb dX6_takeFrom_20 (by decide) ?_
    refine va_put (D := G) (ci := 5) (v := .int 0) (ty := .int) (C := RX6) (T := TX6) (N := 2) hx hb hts iX6 tyX6 tyX6_ok nmX6 hown hK hP hD hS x1 (at_5 (k_x1.e hZ)) rfl 0 (by decide) (hw (.fieldLink RX6 9 "MotionFloor$Place" "sort" "I") (List.mem_of_getElem? (i := 0) rfl)) (fun _ h9 => h9) rfl (by decide +kernel) rfl rfl (Nat.le_of_ble_eq_true rfl) dX6_takeFrom_21 (fun H locs hP hD hS => ?_)
    rw [st_5_0 (k_x1.e hZ)] at hP hD
    have hZ := hZ.tr (eK.si S x1 0 (0 : Int32))
    subst hQ
    exact W.vret hx hb hr (fun t ht hW => ⟨⟨(siC S x1 0 (0 : Int32)), rfl, ⟨hE.trans hX.symm, hZ⟩, by rw [ht]; exact hP, hD⟩, hS.F ht⟩) hS.2.2 dX6_takeFrom_24
  have B_M : ∀ (S : Cst) (H : Heap) (locs : List Loc) (ls_ : Array Slot), f_Y6_takeFrom S x0 x1 = X → p_Y6_takeFrom S x0 x1 → eK S0 S → va_P G vwCl (wsC K ad S) H → va_D A (wsC K ad S) → va_S A s.heap H locs → lv_has ls_ 2 [(0, .ref (ad x0)), (1, .ref (ad x1))] → W p l e ({ frames := 2, cells := 0, slots := 0, locals := 43 } : Room) s m #[Value.ref (ad x0), Value.ref (ad x1)] below meth c H locs 0 0 Q (F0 m 0 ls_ []) := by
    intro S H locs ls_ hE hp hZ hP hD hS hl
    unfold f_Y6_takeFrom at hE
    unfold p_Y6_takeFrom at hp
    refine lv_aload_n hx hb dX6_takeFrom_0 rfl (lv_at hl 0 rfl) ?_
    refine lv_aload_n hx hb dX6_takeFrom_1 rfl (lv_at hl 1 rfl) ?_
    refine va_get (D := G) (ci := 5) (v := .int (giC S x1 0)) (C := RX6) (T := TX6) (N := 2) hx hb hts iX6 hown hK hP x1 (at_5 (k_x1.e hZ)) rfl 0 (by decide) (hw (.fieldLink RX6 9 "MotionFloor$Place" "sort" "I") (List.mem_of_getElem? (i := 0) rfl)) (fun _ h9 => h9) rfl dX6_takeFrom_2 ?_
    refine va_put (D := G) (ci := 5) (v := .int (giC S x1 0)) (ty := .int) (C := RX6) (T := TX6) (N := 2) hx hb hts iX6 tyX6 tyX6_ok nmX6 hown hK hP hD hS x0 (at_5 (k_x0.e hZ)) rfl 0 (by decide) (hw (.fieldLink RX6 9 "MotionFloor$Place" "sort" "I") (List.mem_of_getElem? (i := 0) rfl)) (fun _ h9 => h9) rfl (by decide +kernel) rfl rfl (Nat.le_of_ble_eq_true rfl) dX6_takeFrom_5 (fun H locs hP hD hS => ?_)
    rw [st_5_0 (k_x0.e hZ)] at hP hD
    have hZ := hZ.tr (eK.si S x0 0 (giC S x1 0))
    refine lv_aload_n hx hb dX6_takeFrom_8 rfl (lv_at hl 1 rfl) ?_
    refine va_get (D := G) (ci := 5) (v := va_re ad (grC (siC S x0 0 (giC S x1 0)) x1 1)) (C := RX6) (T := TX6) (N := 2) hx hb hts iX6 hown hK hP x1 (at_5 (k_x1.e hZ)) rfl 1 (by decide) (hw (.fieldLink RX6 18 "MotionFloor$Place" "pile" "LMotionFloor$Pile;") (List.mem_of_getElem? (i := 1) rfl)) (fun _ h9 => h9) rfl dX6_takeFrom_9 ?_
    refine lv_aload_n hx hb dX6_takeFrom_12 rfl (lv_at hl 0 rfl) ?_
    refine va_get (D := G) (ci := 5) (v := va_re ad (grC (siC S x0 0 (giC S x1 0)) x0 1)) (C := RX6) (T := TX6) (N := 2) hx hb hts iX6 hown hK hP x0 (at_5 (k_x0.e hZ)) rfl 1 (by decide) (hw (.fieldLink RX6 18 "MotionFloor$Place" "pile" "LMotionFloor$Pile;") (List.mem_of_getElem? (i := 1) rfl)) (fun _ h9 => h9) rfl dX6_takeFrom_13 ?_
    obtain ⟨hy1, hp⟩ := hp
    refine cTop2 (r := (grC (siC S x0 0 (giC S x1 0)) x1 1)) hy1.1 ?_
    obtain ⟨hy2, hp⟩ := hp
    refine cTop (r := (grC (siC S x0 0 (giC S x1 0)) x0 1)) hy2.1 ?_
    obtain ⟨hy3, hp⟩ := hp
    refine cGov (va_runV (As := [.ref (ad ((grC (siC S x0 0 (giC S x1 0)) x0 1).getD 0))]) (rest := []) ⟨hx, hb, hml, hown, hts⟩ (c_Y5_pourInto l G K ad (siC S x0 0 (giC S x1 0)) ((grC (siC S x0 0 (giC S x1 0)) x1 1).getD 0) ((grC (siC S x0 0 (giC S x1 0)) x0 1).getD 0) _) (cwV 1 hts (wGV t_ (mw (.methodLink RX6 45 yX5_pourInto) (List.mem_of_getElem? (i := 2) rfl)) (mw (.instanceMethod yX5_pourInto) (List.mem_of_getElem? (i := 3) rfl)) (mw (.selects RX5 yX5_pourInto yX5_pourInto) (List.mem_of_getElem? (i := 4) rfl)) (mw (.initialized RX5) (List.mem_of_getElem? (i := 5) rfl)) j_Y5_pourInto) rfl rfl rfl (by decide +kernel) ⟨Nat.le_of_ble_eq_true rfl, Nat.le_of_ble_eq_true rfl⟩) (cPV hK hTE hP hD 4 rfl (at_4 hy1.2) ⟨hy1.2, hy2.2, hy3⟩) rfl rfl hl.1 rfl (lv_room (Nat.le_of_ble_eq_true rfl)) dX6_takeFrom_16 ⟨Nat.le_of_ble_eq_true rfl, Nat.le_of_ble_eq_true rfl⟩) hP hD hS hA (fun u4 H locs hv hP hD hS => ?_)
    obtain ⟨hv, hz⟩ := hv
    have hZ := hZ.tr hz
    rw [← hv] at hE hp
    dsimp only at hE hp
    exact B_Y6_takeFrom_19a u4 _ _ _ hE hp hZ hP hD hS (lv_sub hl [0, 1] rfl)
  exact B_M S0 _ _ _ hX hp (eK.rf S0) hP hD hS hl
theorem gdX1_layDown_27 : ckS (List.drop 27 cX1_layDown.data.toList) 27 [(27, .aload_n 3, 1), (28, .getfield 163, 3), (31, .ifCond .ne 33, 3), (34, .aload_n 3, 1), (35, .iconst 1, 1), (36, .putfield 163, 3), (39, .aload_n 3, 1), (40, .aload_n 3, 1), (41, .invokevirtual 167, 3)] = true := by decide +kernel
theorem dX1_layDown_27 : decode cX1_layDown 27 = .ok (.aload_n 3, 1) := ckS_g gdX1_layDown_27 0 rfl
theorem dX1_layDown_28 : decode cX1_layDown 28 = .ok (.getfield 163, 3) := ckS_g gdX1_layDown_27 1 rfl
theorem dX1_layDown_31 : decode cX1_layDown 31 = .ok (.ifCond .ne 33, 3) := ckS_g gdX1_layDown_27 2 rfl
theorem dX1_layDown_34 : decode cX1_layDown 34 = .ok (.aload_n 3, 1) := ckS_g gdX1_layDown_27 3 rfl
theorem dX1_layDown_35 : decode cX1_layDown 35 = .ok (.iconst 1, 1) := ckS_g gdX1_layDown_27 4 rfl
theorem dX1_layDown_36 : decode cX1_layDown 36 = .ok (.putfield 163, 3) := ckS_g gdX1_layDown_27 5 rfl
theorem dX1_layDown_39 : decode cX1_layDown 39 = .ok (.aload_n 3, 1) := ckS_g gdX1_layDown_27 6 rfl
theorem dX1_layDown_40 : decode cX1_layDown 40 = .ok (.aload_n 3, 1) := ckS_g gdX1_layDown_27 7 rfl
theorem dX1_layDown_41 : decode cX1_layDown 41 = .ok (.invokevirtual 167, 3) := ckS_g gdX1_layDown_27 8 rfl
theorem gdX4_amends_0 : ckS (List.drop 0 cX4_amends.data.toList) 0 [(0, .aload_n 0, 1), (1, .getfield 36, 3), (4, .iconst 2, 1), (5, .if_icmp .eq 11, 3), (8, .aload_n 0, 1), (9, .getfield 36, 3), (12, .iconst 3, 1), (13, .if_icmp .ne 7, 3), (16, .iconst 1, 1), (17, .goto 4, 3), (20, .iconst 0, 1), (21, .ireturn, 1)] = true := by decide +kernel
theorem dX4_amends_0 : decode cX4_amends 0 = .ok (.aload_n 0, 1) := ckS_g gdX4_amends_0 0 rfl
theorem dX4_amends_1 : decode cX4_amends 1 = .ok (.getfield 36, 3) := ckS_g gdX4_amends_0 1 rfl
theorem dX4_amends_4 : decode cX4_amends 4 = .ok (.iconst 2, 1) := ckS_g gdX4_amends_0 2 rfl
theorem dX4_amends_5 : decode cX4_amends 5 = .ok (.if_icmp .eq 11, 3) := ckS_g gdX4_amends_0 3 rfl
theorem dX4_amends_8 : decode cX4_amends 8 = .ok (.aload_n 0, 1) := ckS_g gdX4_amends_0 4 rfl
theorem dX4_amends_9 : decode cX4_amends 9 = .ok (.getfield 36, 3) := ckS_g gdX4_amends_0 5 rfl
theorem dX4_amends_12 : decode cX4_amends 12 = .ok (.iconst 3, 1) := ckS_g gdX4_amends_0 6 rfl
theorem dX4_amends_13 : decode cX4_amends 13 = .ok (.if_icmp .ne 7, 3) := ckS_g gdX4_amends_0 7 rfl
theorem dX4_amends_16 : decode cX4_amends 16 = .ok (.iconst 1, 1) := ckS_g gdX4_amends_0 8 rfl
theorem dX4_amends_17 : decode cX4_amends 17 = .ok (.goto 4, 3) := ckS_g gdX4_amends_0 9 rfl
theorem dX4_amends_20 : decode cX4_amends 20 = .ok (.iconst 0, 1) := ckS_g gdX4_amends_0 10 rfl
theorem dX4_amends_21 : decode cX4_amends 21 = .ok (.ireturn, 1) := ckS_g gdX4_amends_0 11 rfl
set_option maxRecDepth 100000 in
theorem zc166 : wZ (.fieldLink RX4 36 "MotionFloor$Motion" "kind" "I") := ⟨wT3 (List.mem_of_getElem? (i := 15) (by decide +kernel)), Or.inl rfl⟩
set_option maxRecDepth 100000 in
theorem zc167 : wZ (.code yX4_amends cX4_amends 1 (some .boolean)) := ⟨wT2 (List.mem_of_getElem? (i := 104) rfl), Or.inl rfl⟩
def b_Y4_amends_21 (S : Cst) (x0 : Nat) (y0 : Int32) : Int32 := y0
def q_Y4_amends_21 (S : Cst) (x0 : Nat) (y0 : Int32) : Prop := (narrow .boolean (.int y0) = .int y0) ∧ True
def b_Y4_amends_16 (S : Cst) (x0 : Nat)  : Int32 := (b_Y4_amends_21 S x0 1)
def q_Y4_amends_16 (S : Cst) (x0 : Nat)  : Prop := (q_Y4_amends_21 S x0 1)
def f_Y4_amends (S : Cst) (x0 : Nat) : Int32 := if (giC S x0 2) = 2 then (b_Y4_amends_16 S x0) else if (giC S x0 2) = 3 then (b_Y4_amends_16 S x0) else (b_Y4_amends_21 S x0 0)
def p_Y4_amends (S : Cst) (x0 : Nat) : Prop := (if (giC S x0 2) = 2 then (q_Y4_amends_16 S x0) else (if (giC S x0 2) = 3 then (q_Y4_amends_16 S x0) else (q_Y4_amends_21 S x0 0)))
def e_Y4_amends : List Cond := [.fieldLink RX4 36 "MotionFloor$Motion" "kind" "I"]
def v_Y4_amends : List Cond := .code yX4_amends cX4_amends 1 (some .boolean) :: (e_Y4_amends ++ (wsX40 ++ []))
theorem te_Y4_amends : GoodIn lw_tbl e_Y4_amends := wGc zc166 (wG0)
theorem t_Y4_amends : GoodIn lw_tbl v_Y4_amends := wGc zc167 (wGa te_Y4_amends (wGa zcX4 (wG0)))
set_option maxHeartbeats 4000000 in
set_option maxRecDepth 100000 in
theorem c_Y4_amends (l : Launch) (G : va_G) (K : Nat → ClassId) (ad : Nat → Nat) (S : Cst) (x0 : Nat)  (sz : Nat) : Met l yX4_amends v_Y4_amends ({ frames := 0, cells := 0, slots := 0, locals := 0 }) (va_Pc [.ref (ad x0)] (cSt G K ad sz S (iK S x0 3 ∧ p_Y4_amends S x0))) (va_Qi (fun (r : Int32) (u : Cst) => (r, u) = (f_Y4_amends S x0, S)) (cBt G K ad (va_A (wsC K ad S) sz)) (va_A (wsC K ad S) sz)) 0 0 (va_A (wsC K ad S) sz) := by
  refine Met.ofW (cc := cX4_amends) (maxL := 1) (ret := (some .boolean)) (by decide) rfl ?_
  intro p e s m args below meth c s₁ B hml hv
  obtain ⟨rfl, ⟨hsz, hP, hK, hD0, hTE⟩, hp⟩ := hv
  obtain ⟨k_x0, hp⟩ := hp
  have hx := B.exec
  have hb := B.bytes
  have hr := B.returns
  have hts := atoms_spec (ws := v_Y4_amends) B.pre
  have t_ := t_Y4_amends
  have mw : ∀ w ∈ e_Y4_amends, w ∈ v_Y4_amends := fun w h => List.mem_cons_of_mem _ (List.mem_append_left _ h)
  have hw := fun w (h : w ∈ e_Y4_amends) => hts w (mw w h)
  have iX4 : ∀ w ∈ wsX40, w ∈ v_Y4_amends := fun w h => List.mem_cons_of_mem _ (List.mem_append_right _ (List.mem_append_left _ h))
  have hown : s.vm.findClass RX4 = some m.cls := findClass_of_methodNamed B.named
  have hlocks := B.notSynchronized
  subst hsz
  have hD := hD0.self (sz := s.heap.size)
  generalize hAe : va_A (wsC K ad S) s.heap.size = A at hD ⊢
  have hA : ∀ q : Nat, s.heap.size ≤ q → A q := fun q h => by rw [← hAe]; exact Or.inr h
  have hS : va_S A s.heap s.heap [] := va_S.rf
  have hl : lv_has (lg_sl ([.ref (ad x0)]) ++ List.replicate (1 - (lg_sl ([.ref (ad x0)])).length) Slot.unset).toArray 1 [(0, .ref (ad x0))] := by
    exact lv_entry ([.ref (ad x0)]) (n := 1) (Nat.le_of_ble_eq_true rfl)
  rw [lg_entry_eq]
  generalize (lg_sl ([.ref (ad x0)]) ++ List.replicate (1 - (lg_sl ([.ref (ad x0)])).length) Slot.unset).toArray = ls_ at hl ⊢
  refine wGen (fun Q hQ => ?_)
  obtain ⟨X, hX⟩ : ∃ X, f_Y4_amends S x0 = X := ⟨_, rfl⟩
  have B_Y4_amends_21 : ∀ (y0 : Int32) (H : Heap) (locs : List Loc) (ls_ : Array Slot), b_Y4_amends_21 S x0 y0 = X → q_Y4_amends_21 S x0 y0 → va_P G vwCl (wsC K ad S) H → va_D A (wsC K ad S) → va_S A s.heap H locs → lv_has ls_ 1 [(0, .ref (ad x0))] → W p l e ({ frames := 0, cells := 0, slots := 0, locals := 0 } : Room) s m #[Value.ref (ad x0)] below meth c H locs 0 0 Q (F0 m 21 ls_ [.int y0]) := by
    intro y0 H locs ls_ hE hp hP hD hS hl
    unfold b_Y4_amends_21 at hE
    unfold q_Y4_amends_21 at hp
    obtain ⟨hy2, hp⟩ := hp
    subst hQ
    exact W.zret (v := y0) (ty := .boolean) hx hb hr hy2 (fun t ht hW => ⟨⟨y0, S, rfl, (pair_i (hE.trans hX.symm)), by rw [ht]; exact hP, hD⟩, hS.F ht⟩) hS.2.2 dX4_amends_21
  have B_Y4_amends_16 : ∀  (H : Heap) (locs : List Loc) (ls_ : Array Slot), b_Y4_amends_16 S x0 = X → q_Y4_amends_16 S x0 → va_P G vwCl (wsC K ad S) H → va_D A (wsC K ad S) → va_S A s.heap H locs → lv_has ls_ 1 [(0, .ref (ad x0))] → W p l e ({ frames := 0, cells := 0, slots := 0, locals := 0 } : Room) s m #[Value.ref (ad x0)] below meth c H locs 0 0 Q (F0 m 16 ls_ []) := by
    intro  H locs ls_ hE hp hP hD hS hl
    unfold b_Y4_amends_16 at hE
    unfold q_Y4_amends_16 at hp
    refine lv_iconst (v := 1) hx hb dX4_amends_16 (by decide) ?_
    refine lv_goto (tgt := 21) hx hb dX4_amends_17 (by decide) ?_
    exact B_Y4_amends_21 1 _ _ _ hE hp hP hD hS (lv_sub hl [0] rfl)
  have B_M : ∀ (H : Heap) (locs : List Loc) (ls_ : Array Slot), f_Y4_amends S x0 = X → p_Y4_amends S x0 → va_P G vwCl (wsC K ad S) H → va_D A (wsC K ad S) → va_S A s.heap H locs → lv_has ls_ 1 [(0, .ref (ad x0))] → W p l e ({ frames := 0, cells := 0, slots := 0, locals := 0 } : Room) s m #[Value.ref (ad x0)] below meth c H locs 0 0 Q (F0 m 0 ls_ []) := by
    intro  H locs ls_ hE hp hP hD hS hl
    unfold f_Y4_amends at hE
    unfold p_Y4_amends at hp
    refine lv_aload_n hx hb dX4_amends_0 rfl (lv_at hl 0 rfl) ?_
    refine va_get (D := G) (ci := 3) (v := .int (giC S x0 2)) (C := RX4) (T := TX4) (N := 16) hx hb hts iX4 hown hK hP x0 (at_3 k_x0) rfl 2 (by decide) (hw (.fieldLink RX4 36 "MotionFloor$Motion" "kind" "I") (List.mem_of_getElem? (i := 0) rfl)) (fun _ h9 => h9) rfl dX4_amends_1 ?_
    refine lv_iconst (v := 2) hx hb dX4_amends_4 (by decide) ?_
    refine lv_icmp_eq (tgt := 16) hx hb dX4_amends_5 (by decide) (fun c1 => ?_) (fun c1 => ?_)
    · rw [if_pos c1] at hE hp
      exact B_Y4_amends_16  _ _ _ hE hp hP hD hS (lv_sub hl [0] rfl)
    · rw [if_neg c1] at hE hp
      refine lv_aload_n hx hb dX4_amends_8 rfl (lv_at hl 0 rfl) ?_
      refine va_get (D := G) (ci := 3) (v := .int (giC S x0 2)) (C := RX4) (T := TX4) (N := 16) hx hb hts iX4 hown hK hP x0 (at_3 k_x0) rfl 2 (by decide) (hw (.fieldLink RX4 36 "MotionFloor$Motion" "kind" "I") (List.mem_of_getElem? (i := 0) rfl)) (fun _ h9 => h9) rfl dX4_amends_9 ?_
      refine lv_iconst (v := 3) hx hb dX4_amends_12 (by decide) ?_
      refine lv_icmp_ne (tgt := 20) hx hb dX4_amends_13 (by decide) (fun c3 => ?_) (fun c3 => ?_)
      · rw [if_neg c3] at hE hp
        refine lv_iconst (v := 0) hx hb dX4_amends_20 (by decide) ?_
        exact B_Y4_amends_21 0 _ _ _ hE hp hP hD hS (lv_sub hl [0] rfl)
      · rw [if_pos c3] at hE hp
        exact B_Y4_amends_16  _ _ _ hE hp hP hD hS (lv_sub hl [0] rfl)
  exact B_M  _ _ _ hX hp hP hD hS hl
theorem gdX1_layDown_44 : ckS (List.drop 44 cX1_layDown.data.toList) 44 [(44, .ifCond .eq 16, 3), (47, .aload 4, 2), (49, .ifnull 11, 3), (52, .aload 4, 2), (54, .getfield 171, 3), (57, .goto 4, 3), (60, .iconst 0, 1), (61, .putfield 174, 3)] = true := by decide +kernel
theorem dX1_layDown_44 : decode cX1_layDown 44 = .ok (.ifCond .eq 16, 3) := ckS_g gdX1_layDown_44 0 rfl
theorem dX1_layDown_47 : decode cX1_layDown 47 = .ok (.aload 4, 2) := ckS_g gdX1_layDown_44 1 rfl
theorem dX1_layDown_49 : decode cX1_layDown 49 = .ok (.ifnull 11, 3) := ckS_g gdX1_layDown_44 2 rfl
theorem dX1_layDown_52 : decode cX1_layDown 52 = .ok (.aload 4, 2) := ckS_g gdX1_layDown_44 3 rfl
theorem dX1_layDown_54 : decode cX1_layDown 54 = .ok (.getfield 171, 3) := ckS_g gdX1_layDown_44 4 rfl
theorem dX1_layDown_57 : decode cX1_layDown 57 = .ok (.goto 4, 3) := ckS_g gdX1_layDown_44 5 rfl
theorem dX1_layDown_60 : decode cX1_layDown 60 = .ok (.iconst 0, 1) := ckS_g gdX1_layDown_44 6 rfl
theorem dX1_layDown_61 : decode cX1_layDown 61 = .ok (.putfield 174, 3) := ckS_g gdX1_layDown_44 7 rfl
set_option maxRecDepth 100000 in
theorem zc168 : wZ (.fieldLink RX1 171 "MotionFloor$Motion" "name" "I") := ⟨wT3 (List.mem_of_getElem? (i := 8) (by decide +kernel)), Or.inl rfl⟩
set_option maxRecDepth 100000 in
theorem zc169 : wZ (.fieldLink RX1 174 "MotionFloor$Motion" "subject" "I") := ⟨wT3 (List.mem_of_getElem? (i := 12) (by decide +kernel)), Or.inl rfl⟩
set_option maxRecDepth 100000 in
theorem zc170 : wZ (.initialized RX4) := ⟨wT1 (List.mem_of_getElem? (i := 14) (by decide +kernel)), Or.inl rfl⟩
set_option maxRecDepth 100000 in
theorem zc171 : wZ (.selects RX4 yX4_amends yX4_amends) := ⟨wT2 (List.mem_of_getElem? (i := 103) (by decide +kernel)), Or.inl rfl⟩
set_option maxRecDepth 100000 in
theorem zc172 : wZ (.instanceMethod yX4_amends) := ⟨wT2 (List.mem_of_getElem? (i := 102) (by decide +kernel)), Or.inl rfl⟩
set_option maxRecDepth 100000 in
theorem zc173 : wZ (.methodLink RX1 167 yX4_amends) := ⟨wT3 (List.mem_of_getElem? (i := 130) (by decide +kernel)), Or.inl rfl⟩
set_option maxRecDepth 100000 in
theorem zc174 : wZ (.fieldLink RX1 163 "MotionFloor$Motion" "laid" "Z") := ⟨wT3 (List.mem_of_getElem? (i := 48) (by decide +kernel)), Or.inl rfl⟩
set_option maxRecDepth 100000 in
theorem zc175 : wZ (.selects RX6 yX6_takeFrom yX6_takeFrom) := ⟨wT3 (List.mem_of_getElem? (i := 133) (by decide +kernel)), Or.inl rfl⟩
set_option maxRecDepth 100000 in
theorem zc176 : wZ (.instanceMethod yX6_takeFrom) := ⟨wT3 (List.mem_of_getElem? (i := 132) (by decide +kernel)), Or.inl rfl⟩
set_option maxRecDepth 100000 in
theorem zc177 : wZ (.methodLink RX1 177 yX6_takeFrom) := ⟨wT3 (List.mem_of_getElem? (i := 131) (by decide +kernel)), Or.inl rfl⟩
set_option maxRecDepth 100000 in
theorem zc178 : wZ (.selects RX5 yX5_top yX5_top) := ⟨wT2 (List.mem_of_getElem? (i := 77) (by decide +kernel)), Or.inl rfl⟩
set_option maxRecDepth 100000 in
theorem zc179 : wZ (.instanceMethod yX5_top) := ⟨wT2 (List.mem_of_getElem? (i := 76) (by decide +kernel)), Or.inl rfl⟩
set_option maxRecDepth 100000 in
theorem zc180 : wZ (.methodLink RX1 15 yX5_top) := ⟨wT2 (List.mem_of_getElem? (i := 197) (by decide +kernel)), Or.inl rfl⟩
set_option maxRecDepth 100000 in
theorem zc181 : wZ (.fieldLink RX1 9 "MotionFloor$Assembly" "pending" "LMotionFloor$Pile;") := ⟨wT1 (List.mem_of_getElem? (i := 183) (by decide +kernel)), Or.inl rfl⟩
set_option maxRecDepth 100000 in
theorem zc182 : wZ (.selects RX0 yX0_placeAt yX0_placeAt) := ⟨wT2 (List.mem_of_getElem? (i := 116) (by decide +kernel)), Or.inl rfl⟩
set_option maxRecDepth 100000 in
theorem zc183 : wZ (.instanceMethod yX0_placeAt) := ⟨wT2 (List.mem_of_getElem? (i := 115) (by decide +kernel)), Or.inl rfl⟩
set_option maxRecDepth 100000 in
theorem zc184 : wZ (.methodLink RX1 159 yX0_placeAt) := ⟨wT3 (List.mem_of_getElem? (i := 129) (by decide +kernel)), Or.inl rfl⟩
set_option maxRecDepth 100000 in
theorem zc185 : wZ (.code yX1_layDown cX1_layDown 5 (some .int)) := ⟨wT3 (List.mem_of_getElem? (i := 128) rfl), Or.inl rfl⟩
def b_Y1_layDown_76 (S : Cst) (x0 : Nat) (x1 : Int32) (x2 : Option Nat) (x3 : Option Nat) (x4 : Option Nat) : Int32 × Cst := (x1, S)
def q_Y1_layDown_76 (S : Cst) (x0 : Nat) (x1 : Int32) (x2 : Option Nat) (x3 : Option Nat) (x4 : Option Nat) : Prop := True
def b_Y1_layDown_64 (S : Cst) (x0 : Nat) (x1 : Int32) (x2 : Option Nat) (x3 : Option Nat) (x4 : Option Nat) : Int32 × Cst := if x2 = none then (b_Y1_layDown_76 S x0 x1 x2 x3 x4) else (b_Y1_layDown_76 ((f_Y6_takeFrom S (x2.getD 0) ((grC S x0 2).getD 0)).2) x0 x1 x2 x3 x4)
def q_Y1_layDown_64 (S : Cst) (x0 : Nat) (x1 : Int32) (x2 : Option Nat) (x3 : Option Nat) (x4 : Option Nat) : Prop := (if x2 = none then (q_Y1_layDown_76 S x0 x1 x2 x3 x4) else (iR S x2 5) ∧ (iR S (grC S x0 2) 5) ∧ (p_Y6_takeFrom S (x2.getD 0) ((grC S x0 2).getD 0)) ∧ (q_Y1_layDown_76 ((f_Y6_takeFrom S (x2.getD 0) ((grC S x0 2).getD 0)).2) x0 x1 x2 x3 x4))
def b_Y1_layDown_61 (S : Cst) (x0 : Nat) (x1 : Int32) (x2 : Option Nat) (x3 : Option Nat) (x4 : Option Nat) (y0 : Int32) (o1 : Option Nat) : Int32 × Cst := (b_Y1_layDown_64 (siC S (o1.getD 0) 1 y0) x0 x1 x2 x3 x4)
def q_Y1_layDown_61 (S : Cst) (x0 : Nat) (x1 : Int32) (x2 : Option Nat) (x3 : Option Nat) (x4 : Option Nat) (y0 : Int32) (o1 : Option Nat) : Prop := (iR S o1 3) ∧ (q_Y1_layDown_64 (siC S (o1.getD 0) 1 y0) x0 x1 x2 x3 x4)
def b_Y1_layDown_60 (S : Cst) (x0 : Nat) (x1 : Int32) (x2 : Option Nat) (x3 : Option Nat) (x4 : Option Nat) (o0 : Option Nat) : Int32 × Cst := (b_Y1_layDown_61 S x0 x1 x2 x3 x4 0 o0)
def q_Y1_layDown_60 (S : Cst) (x0 : Nat) (x1 : Int32) (x2 : Option Nat) (x3 : Option Nat) (x4 : Option Nat) (o0 : Option Nat) : Prop := (q_Y1_layDown_61 S x0 x1 x2 x3 x4 0 o0)
def b_Y1_layDown_44a (S : Cst) (x0 : Nat) (x1 : Int32) (x2 : Option Nat) (x3 : Option Nat) (x4 : Option Nat) (y0 : Int32) (o1 : Option Nat) : Int32 × Cst := if y0 = 0 then (b_Y1_layDown_60 S x0 x1 x2 x3 x4 o1) else if x4 = none then (b_Y1_layDown_60 S x0 x1 x2 x3 x4 o1) else (b_Y1_layDown_61 S x0 x1 x2 x3 x4 (giC S (x4.getD 0) 0) o1)
def q_Y1_layDown_44a (S : Cst) (x0 : Nat) (x1 : Int32) (x2 : Option Nat) (x3 : Option Nat) (x4 : Option Nat) (y0 : Int32) (o1 : Option Nat) : Prop := (if y0 = 0 then (q_Y1_layDown_60 S x0 x1 x2 x3 x4 o1) else (if x4 = none then (q_Y1_layDown_60 S x0 x1 x2 x3 x4 o1) else (iR S x4 3) ∧ (q_Y1_layDown_61 S x0 x1 x2 x3 x4 (giC S (x4.getD 0) 0) o1)))
def f_Y1_layDown (S : Cst) (x0 : Nat) (x1 : Int32) : Int32 × Cst := if (f_Y6_motion S ((grC S x0 2).getD 0)) = none then (b_Y1_layDown_64 S x0 x1 (f_Y0_placeAt S x0 x1) (f_Y6_motion S ((grC S x0 2).getD 0)) (f_Y5_top S ((grC S x0 1).getD 0))) else if (giC S ((f_Y6_motion S ((grC S x0 2).getD 0)).getD 0) 10) = 0 then (b_Y1_layDown_44a (siC S ((f_Y6_motion S ((grC S x0 2).getD 0)).getD 0) 10 (1 : Int32)) x0 x1 (f_Y0_placeAt S x0 x1) (f_Y6_motion S ((grC S x0 2).getD 0)) (f_Y5_top S ((grC S x0 1).getD 0)) (f_Y4_amends (siC S ((f_Y6_motion S ((grC S x0 2).getD 0)).getD 0) 10 (1 : Int32)) ((f_Y6_motion S ((grC S x0 2).getD 0)).getD 0)) (f_Y6_motion S ((grC S x0 2).getD 0))) else (b_Y1_layDown_64 S x0 x1 (f_Y0_placeAt S x0 x1) (f_Y6_motion S ((grC S x0 2).getD 0)) (f_Y5_top S ((grC S x0 1).getD 0)))
def p_Y1_layDown (S : Cst) (x0 : Nat) (x1 : Int32) : Prop := (p_Y0_placeAt S x0 x1) ∧ (iR S (grC S x0 2) 5) ∧ (p_Y6_motion S ((grC S x0 2).getD 0)) ∧ (iR S (grC S x0 1) 4) ∧ (p_Y5_top S ((grC S x0 1).getD 0)) ∧ (if (f_Y6_motion S ((grC S x0 2).getD 0)) = none then (q_Y1_layDown_64 S x0 x1 (f_Y0_placeAt S x0 x1) (f_Y6_motion S ((grC S x0 2).getD 0)) (f_Y5_top S ((grC S x0 1).getD 0))) else (iR S (f_Y6_motion S ((grC S x0 2).getD 0)) 3) ∧ (if (giC S ((f_Y6_motion S ((grC S x0 2).getD 0)).getD 0) 10) = 0 then (iR S (f_Y6_motion S ((grC S x0 2).getD 0)) 3) ∧ (iR (siC S ((f_Y6_motion S ((grC S x0 2).getD 0)).getD 0) 10 (1 : Int32)) (f_Y6_motion S ((grC S x0 2).getD 0)) 3) ∧ (p_Y4_amends (siC S ((f_Y6_motion S ((grC S x0 2).getD 0)).getD 0) 10 (1 : Int32)) ((f_Y6_motion S ((grC S x0 2).getD 0)).getD 0)) ∧ (q_Y1_layDown_44a (siC S ((f_Y6_motion S ((grC S x0 2).getD 0)).getD 0) 10 (1 : Int32)) x0 x1 (f_Y0_placeAt S x0 x1) (f_Y6_motion S ((grC S x0 2).getD 0)) (f_Y5_top S ((grC S x0 1).getD 0)) (f_Y4_amends (siC S ((f_Y6_motion S ((grC S x0 2).getD 0)).getD 0) 10 (1 : Int32)) ((f_Y6_motion S ((grC S x0 2).getD 0)).getD 0)) (f_Y6_motion S ((grC S x0 2).getD 0))) else (q_Y1_layDown_64 S x0 x1 (f_Y0_placeAt S x0 x1) (f_Y6_motion S ((grC S x0 2).getD 0)) (f_Y5_top S ((grC S x0 1).getD 0)))))
def e_Y1_layDown : List Cond := [.methodLink RX1 159 yX0_placeAt, .instanceMethod yX0_placeAt, .selects RX0 yX0_placeAt yX0_placeAt, .initialized RX0, .fieldLink RX1 121 "MotionFloor$Assembly" "draft" "LMotionFloor$Place;", .methodLink RX1 139 yX6_motion, .instanceMethod yX6_motion, .selects RX6 yX6_motion yX6_motion, .initialized RX6, .fieldLink RX1 9 "MotionFloor$Assembly" "pending" "LMotionFloor$Pile;", .methodLink RX1 15 yX5_top, .instanceMethod yX5_top, .selects RX5 yX5_top yX5_top, .initialized RX5, .methodLink RX1 177 yX6_takeFrom, .instanceMethod yX6_takeFrom, .selects RX6 yX6_takeFrom yX6_takeFrom, .fieldLink RX1 163 "MotionFloor$Motion" "laid" "Z", .methodLink RX1 167 yX4_amends, .instanceMethod yX4_amends, .selects RX4 yX4_amends yX4_amends, .initialized RX4, .fieldLink RX1 174 "MotionFloor$Motion" "subject" "I", .fieldLink RX1 171 "MotionFloor$Motion" "name" "I"]
def v_Y1_layDown : List Cond := .code yX1_layDown cX1_layDown 5 (some .int) :: (e_Y1_layDown ++ (wsX00 ++ (wsX40 ++ (v_Y0_placeAt ++ (v_Y6_motion ++ (v_Y5_top ++ (v_Y6_takeFrom ++ (v_Y4_amends ++ []))))))))
theorem te_Y1_layDown : GoodIn lw_tbl e_Y1_layDown := wGc zc184 (wGc zc183 (wGc zc182 (wGc zc39 (wGc zc146 (wGc zc145 (wGc zc128 (wGc zc127 (wGc zc112 (wGc zc181 (wGc zc180 (wGc zc179 (wGc zc178 (wGc zc34 (wGc zc177 (wGc zc176 (wGc zc175 (wGc zc174 (wGc zc173 (wGc zc172 (wGc zc171 (wGc zc170 (wGc zc169 (wGc zc168 (wG0))))))))))))))))))))))))
theorem t_Y1_layDown : GoodIn lw_tbl v_Y1_layDown := wGc zc185 (wGa te_Y1_layDown (wGa zcX0 (wGa zcX4 (wGa t_Y0_placeAt (wGa t_Y6_motion (wGa t_Y5_top (wGa t_Y6_takeFrom (wGa t_Y4_amends (wG0)))))))))
set_option maxHeartbeats 4000000 in
set_option maxRecDepth 100000 in
theorem c_Y1_layDown (l : Launch) (G : va_G) (K : Nat → ClassId) (ad : Nat → Nat) (S0 : Cst) (x0 : Nat) (a1 : Int32) (sz : Nat) : Met l yX1_layDown v_Y1_layDown ({ frames := 3, cells := 0, slots := 0, locals := 64 }) (va_Pc [.ref (ad x0), .int a1] (cSt G K ad sz S0 (iK S0 x0 0 ∧ p_Y1_layDown S0 x0 a1))) (va_Qi (fun (r : Int32) (u : Cst) => (r, u) = f_Y1_layDown S0 x0 a1 ∧ eK S0 u) (cBt G K ad (va_A (wsC K ad S0) sz)) (va_A (wsC K ad S0) sz)) 0 0 (va_A (wsC K ad S0) sz) := by
  refine Met.ofW (cc := cX1_layDown) (maxL := 5) (ret := (some .int)) (by decide) rfl ?_
  intro p e s m args below meth c s₁ B hml hv
  obtain ⟨rfl, ⟨hsz, hP, hK, hD0, hTE⟩, hp⟩ := hv
  obtain ⟨k_x0, hp⟩ := hp
  have hx := B.exec
  have hb := B.bytes
  have hr := B.returns
  have hts := atoms_spec (ws := v_Y1_layDown) B.pre
  have t_ := t_Y1_layDown
  have mw : ∀ w ∈ e_Y1_layDown, w ∈ v_Y1_layDown := fun w h => List.mem_cons_of_mem _ (List.mem_append_left _ h)
  have hw := fun w (h : w ∈ e_Y1_layDown) => hts w (mw w h)
  have iX0 : ∀ w ∈ wsX00, w ∈ v_Y1_layDown := fun w h => List.mem_cons_of_mem _ (List.mem_append_right _ (List.mem_append_left _ h))
  have iX4 : ∀ w ∈ wsX40, w ∈ v_Y1_layDown := fun w h => List.mem_cons_of_mem _ (List.mem_append_right _ (List.mem_append_right _ (List.mem_append_left _ h)))
  have j_Y0_placeAt : ∀ w ∈ v_Y0_placeAt, w ∈ v_Y1_layDown := fun w h => List.mem_cons_of_mem _ (List.mem_append_right _ (List.mem_append_right _ (List.mem_append_right _ (List.mem_append_left _ h))))
  have j_Y6_motion : ∀ w ∈ v_Y6_motion, w ∈ v_Y1_layDown := fun w h => List.mem_cons_of_mem _ (List.mem_append_right _ (List.mem_append_right _ (List.mem_append_right _ (List.mem_append_right _ (List.mem_append_left _ h)))))
  have j_Y5_top : ∀ w ∈ v_Y5_top, w ∈ v_Y1_layDown := fun w h => List.mem_cons_of_mem _ (List.mem_append_right _ (List.mem_append_right _ (List.mem_append_right _ (List.mem_append_right _ (List.mem_append_right _ (List.mem_append_left _ h))))))
  have j_Y6_takeFrom : ∀ w ∈ v_Y6_takeFrom, w ∈ v_Y1_layDown := fun w h => List.mem_cons_of_mem _ (List.mem_append_right _ (List.mem_append_right _ (List.mem_append_right _ (List.mem_append_right _ (List.mem_append_right _ (List.mem_append_right _ (List.mem_append_left _ h)))))))
  have j_Y4_amends : ∀ w ∈ v_Y4_amends, w ∈ v_Y1_layDown := fun w h => List.mem_cons_of_mem _ (List.mem_append_right _ (List.mem_append_right _ (List.mem_append_right _ (List.mem_append_right _ (List.mem_append_right _ (List.mem_append_right _ (List.mem_append_right _ (List.mem_append_left _ h))))))))
  have hown : s.vm.findClass RX1 = some m.cls := findClass_of_methodNamed B.named
  have hlocks := B.notSynchronized
  subst hsz
  have hD := hD0.self (sz := s.heap.size)
  generalize hAe : va_A (wsC K ad S0) s.heap.size = A at hD ⊢
  have hA : ∀ q : Nat, s.heap.size ≤ q → A q := fun q h => by rw [← hAe]; exact Or.inr h
  have hS : va_S A s.heap s.heap [] := va_S.rf
  have hl : lv_has (lg_sl ([.ref (ad x0), .int a1]) ++ List.replicate (5 - (lg_sl ([.ref (ad x0), .int a1])).length) Slot.unset).toArray 5 [(0, .ref (ad x0)), (1, .int a1)] := by
    exact lv_entry ([.ref (ad x0), .int a1]) (n := 5) (Nat.le_of_ble_eq_true rfl)
  rw [lg_entry_eq]
  generalize (lg_sl ([.ref (ad x0), .int a1]) ++ List.replicate (5 - (lg_sl ([.ref (ad x0), .int a1])).length) Slot.unset).toArray = ls_ at hl ⊢
  refine wGen (fun Q hQ => ?_)
  obtain ⟨X, hX⟩ : ∃ X, f_Y1_layDown S0 x0 a1 = X := ⟨_, rfl⟩
  have B_Y1_layDown_76 : ∀ (S : Cst) (x1 : Int32) (x2 : Option Nat) (x3 : Option Nat) (x4 : Option Nat) (H : Heap) (locs : List Loc) (ls_ : Array Slot), b_Y1_layDown_76 S x0 x1 x2 x3 x4 = X → q_Y1_layDown_76 S x0 x1 x2 x3 x4 → eK S0 S → va_P G vwCl (wsC K ad S) H → va_D A (wsC K ad S) → va_S A s.heap H locs → lv_has ls_ 5 [(0, .ref (ad x0)), (1, .int x1), (2, va_re ad x2), (3, va_re ad x3), (4, va_re ad x4)] → W p l e ({ frames := 3, cells := 0, slots := 0, locals := 64 } : Room) s m #[Value.ref (ad x0), Value.int a1] below meth c H locs 0 0 Q (F0 m 76 ls_ []) := by
    intro S x1 x2 x3 x4 H locs ls_ hE hp hZ hP hD hS hl
    unfold b_Y1_layDown_76 at hE
    unfold q_Y1_layDown_76 at hp
    refine lv_iload_n hx hb dX1_layDown_76 rfl (lv_at hl 1 rfl) ?_
    subst hQ
    exact W.iret (v := x1) hx hb hr (fun t ht hW => ⟨⟨x1, S, rfl, ⟨hE.trans hX.symm, hZ⟩, by rw [ht]; exact hP, hD⟩, hS.F ht⟩) hS.2.2 dX1_layDown_77
  have B_Y1_layDown_64 : ∀ (S : Cst) (x1 : Int32) (x2 : Option Nat) (x3 : Option Nat) (x4 : Option Nat) (H : Heap) (locs : List Loc) (ls_ : Array Slot), b_Y1_layDown_64 S x0 x1 x2 x3 x4 = X → q_Y1_layDown_64 S x0 x1 x2 x3 x4 → eK S0 S → va_P G vwCl (wsC K ad S) H → va_D A (wsC K ad S) → va_S A s.heap H locs → lv_has ls_ 5 [(0, .ref (ad x0)), (1, .int x1), (2, va_re ad x2), (3, va_re ad x3), (4, va_re ad x4)] → W p l e ({ frames := 3, cells := 0, slots := 0, locals := 64 } : Room) s m #[Value.ref (ad x0), Value.int a1] below meth c H locs 0 0 Q (F0 m 64 ls_ []) := by
    intro S x1 x2 x3 x4 H locs ls_ hE hp hZ hP hD hS hl
    unfold b_Y1_layDown_64 at hE
    unfold q_Y1_layDown_64 at hp
    refine cAload_n (ad := ad) (r := x2) hx hb dX1_layDown_64 rfl (lv_at hl 2 rfl) ?_
    refine cIfnull (ad := ad) (r := x2) (tgt := 76) hx hb dX1_layDown_65 (by decide) (fun c13 => ?_) (fun c13 => ?_)
    · rw [if_pos c13] at hE hp
      exact B_Y1_layDown_76 S x1 x2 x3 x4 _ _ _ hE hp hZ hP hD hS (lv_sub hl [0, 1, 2, 3, 4] rfl)
    · rw [if_neg c13] at hE hp
      refine cAload_n (ad := ad) (r := x2) hx hb dX1_layDown_68 rfl (lv_at hl 2 rfl) ?_
      refine lv_aload_n hx hb dX1_layDown_69 rfl (lv_at hl 0 rfl) ?_
      refine va_get (D := G) (ci := 0) (v := va_re ad (grC S x0 2)) (C := RX0) (T := TX0) (N := 11) hx hb hts iX0 hown hK hP x0 (at_0 (k_x0.e hZ)) rfl 2 (by decide) (hw (.fieldLink RX1 121 "MotionFloor$Assembly" "draft" "LMotionFloor$Place;") (List.mem_of_getElem? (i := 4) rfl)) (fun _ h9 => h9) rfl dX1_layDown_70 ?_
      obtain ⟨hy14, hp⟩ := hp
      refine cTop2 (r := x2) hy14.1 ?_
      obtain ⟨hy15, hp⟩ := hp
      refine cTop (r := (grC S x0 2)) hy15.1 ?_
      obtain ⟨hy16, hp⟩ := hp
      refine cGov (va_runV (As := [.ref (ad ((grC S x0 2).getD 0))]) (rest := []) ⟨hx, hb, hml, hown, hts⟩ (c_Y6_takeFrom l G K ad S (x2.getD 0) ((grC S x0 2).getD 0) _) (cwV 1 hts (wGV t_ (mw (.methodLink RX1 177 yX6_takeFrom) (List.mem_of_getElem? (i := 14) rfl)) (mw (.instanceMethod yX6_takeFrom) (List.mem_of_getElem? (i := 15) rfl)) (mw (.selects RX6 yX6_takeFrom yX6_takeFrom) (List.mem_of_getElem? (i := 16) rfl)) (mw (.initialized RX6) (List.mem_of_getElem? (i := 8) rfl)) j_Y6_takeFrom) rfl rfl rfl (by decide +kernel) ⟨Nat.le_of_ble_eq_true rfl, Nat.le_of_ble_eq_true rfl⟩) (cPV hK hTE hP hD 5 rfl (at_5 hy14.2) ⟨hy14.2, hy15.2, hy16⟩) rfl rfl hl.1 rfl (lv_room (Nat.le_of_ble_eq_true rfl)) dX1_layDown_73 ⟨Nat.le_of_ble_eq_true rfl, Nat.le_of_ble_eq_true rfl⟩) hP hD hS hA (fun u17 H locs hv hP hD hS => ?_)
      obtain ⟨hv, hz⟩ := hv
      have hZ := hZ.tr hz
      rw [← hv] at hE hp
      dsimp only at hE hp
      exact B_Y1_layDown_76 u17 x1 x2 x3 x4 _ _ _ hE hp hZ hP hD hS (lv_sub hl [0, 1, 2, 3, 4] rfl)
  have B_Y1_layDown_61 : ∀ (S : Cst) (x1 : Int32) (x2 : Option Nat) (x3 : Option Nat) (x4 : Option Nat) (y0 : Int32) (o1 : Option Nat) (H : Heap) (locs : List Loc) (ls_ : Array Slot), b_Y1_layDown_61 S x0 x1 x2 x3 x4 y0 o1 = X → q_Y1_layDown_61 S x0 x1 x2 x3 x4 y0 o1 → eK S0 S → va_P G vwCl (wsC K ad S) H → va_D A (wsC K ad S) → va_S A s.heap H locs → lv_has ls_ 5 [(0, .ref (ad x0)), (1, .int x1), (2, va_re ad x2), (3, va_re ad x3), (4, va_re ad x4)] → W p l e ({ frames := 3, cells := 0, slots := 0, locals := 64 } : Room) s m #[Value.ref (ad x0), Value.int a1] below meth c H locs 0 0 Q (F0 m 61 ls_ [.int y0, va_re ad o1]) := by
    intro S x1 x2 x3 x4 y0 o1 H locs ls_ hE hp hZ hP hD hS hl
    unfold b_Y1_layDown_61 at hE
    unfold q_Y1_layDown_61 at hp
    obtain ⟨hy27, hp⟩ := hp
    refine cTop2 (r := o1) hy27.1 ?_
    refine va_put (D := G) (ci := 3) (v := .int y0) (ty := .int) (C := RX4) (T := TX4) (N := 16) hx hb hts iX4 tyX4 tyX4_ok nmX4 hown hK hP hD hS (o1.getD 0) (at_3 hy27.2) rfl 1 (by decide) (hw (.fieldLink RX1 174 "MotionFloor$Motion" "subject" "I") (List.mem_of_getElem? (i := 22) rfl)) (fun _ h9 => h9) rfl (by decide +kernel) rfl rfl (Nat.le_of_ble_eq_true rfl) dX1_layDown_61 (fun H locs hP hD hS => ?_)
    rw [st_3_1 hy27.2] at hP hD
    have hZ := hZ.tr (eK.si S (o1.getD 0) 1 y0)
    exact B_Y1_layDown_64 (siC S (o1.getD 0) 1 y0) x1 x2 x3 x4 _ _ _ hE hp hZ hP hD hS (lv_sub hl [0, 1, 2, 3, 4] rfl)
  have B_Y1_layDown_60 : ∀ (S : Cst) (x1 : Int32) (x2 : Option Nat) (x3 : Option Nat) (x4 : Option Nat) (o0 : Option Nat) (H : Heap) (locs : List Loc) (ls_ : Array Slot), b_Y1_layDown_60 S x0 x1 x2 x3 x4 o0 = X → q_Y1_layDown_60 S x0 x1 x2 x3 x4 o0 → eK S0 S → va_P G vwCl (wsC K ad S) H → va_D A (wsC K ad S) → va_S A s.heap H locs → lv_has ls_ 5 [(0, .ref (ad x0)), (1, .int x1), (2, va_re ad x2), (3, va_re ad x3), (4, va_re ad x4)] → W p l e ({ frames := 3, cells := 0, slots := 0, locals := 64 } : Room) s m #[Value.ref (ad x0), Value.int a1] below meth c H locs 0 0 Q (F0 m 60 ls_ [va_re ad o0]) := by
    intro S x1 x2 x3 x4 o0 H locs ls_ hE hp hZ hP hD hS hl
    unfold b_Y1_layDown_60 at hE
    unfold q_Y1_layDown_60 at hp
    refine lv_iconst (v := 0) hx hb dX1_layDown_60 (by decide) ?_
    exact B_Y1_layDown_61 S x1 x2 x3 x4 0 o0 _ _ _ hE hp hZ hP hD hS (lv_sub hl [0, 1, 2, 3, 4] rfl)
  have B_Y1_layDown_44a : ∀ (S : Cst) (x1 : Int32) (x2 : Option Nat) (x3 : Option Nat) (x4 : Option Nat) (y0 : Int32) (o1 : Option Nat) (H : Heap) (locs : List Loc) (ls_ : Array Slot), b_Y1_layDown_44a S x0 x1 x2 x3 x4 y0 o1 = X → q_Y1_layDown_44a S x0 x1 x2 x3 x4 y0 o1 → eK S0 S → va_P G vwCl (wsC K ad S) H → va_D A (wsC K ad S) → va_S A s.heap H locs → lv_has ls_ 5 [(0, .ref (ad x0)), (1, .int x1), (2, va_re ad x2), (3, va_re ad x3), (4, va_re ad x4)] → W p l e ({ frames := 3, cells := 0, slots := 0, locals := 64 } : Room) s m #[Value.ref (ad x0), Value.int a1] below meth c H locs 0 0 Q (F0 m 44 ls_ [.int y0, va_re ad o1]) := by
    intro S x1 x2 x3 x4 y0 o1 H locs ls_ hE hp hZ hP hD hS hl
    unfold b_Y1_layDown_44a at hE
    unfold q_Y1_layDown_44a at hp
    refine lv_if_eq (tgt := 60) hx hb dX1_layDown_44 (by decide) (fun c26 => ?_) (fun c26 => ?_)
    · rw [if_pos c26] at hE hp
      exact B_Y1_layDown_60 S x1 x2 x3 x4 o1 _ _ _ hE hp hZ hP hD hS (lv_sub hl [0, 1, 2, 3, 4] rfl)
    · rw [if_neg c26] at hE hp
      refine cAload (ad := ad) (r := x4) hx hb dX1_layDown_47 (lv_at hl 4 rfl) ?_
      refine cIfnull (ad := ad) (r := x4) (tgt := 60) hx hb dX1_layDown_49 (by decide) (fun c28 => ?_) (fun c28 => ?_)
      · rw [if_pos c28] at hE hp
        exact B_Y1_layDown_60 S x1 x2 x3 x4 o1 _ _ _ hE hp hZ hP hD hS (lv_sub hl [0, 1, 2, 3, 4] rfl)
      · rw [if_neg c28] at hE hp
        refine cAload (ad := ad) (r := x4) hx hb dX1_layDown_52 (lv_at hl 4 rfl) ?_
        obtain ⟨hy29, hp⟩ := hp
        refine cTop (r := x4) hy29.1 ?_
        refine va_get (D := G) (ci := 3) (v := .int (giC S (x4.getD 0) 0)) (C := RX4) (T := TX4) (N := 16) hx hb hts iX4 hown hK hP (x4.getD 0) (at_3 hy29.2) rfl 0 (by decide) (hw (.fieldLink RX1 171 "MotionFloor$Motion" "name" "I") (List.mem_of_getElem? (i := 23) rfl)) (fun _ h9 => h9) rfl dX1_layDown_54 ?_
        refine lv_goto (tgt := 61) hx hb dX1_layDown_57 (by decide) ?_
        exact B_Y1_layDown_61 S x1 x2 x3 x4 (giC S (x4.getD 0) 0) o1 _ _ _ hE hp hZ hP hD hS (lv_sub hl [0, 1, 2, 3, 4] rfl)
  have B_M : ∀ (S : Cst) (x1 : Int32) (H : Heap) (locs : List Loc) (ls_ : Array Slot), f_Y1_layDown S x0 x1 = X → p_Y1_layDown S x0 x1 → eK S0 S → va_P G vwCl (wsC K ad S) H → va_D A (wsC K ad S) → va_S A s.heap H locs → lv_has ls_ 5 [(0, .ref (ad x0)), (1, .int x1)] → W p l e ({ frames := 3, cells := 0, slots := 0, locals := 64 } : Room) s m #[Value.ref (ad x0), Value.int a1] below meth c H locs 0 0 Q (F0 m 0 ls_ []) := by
    intro S x1 H locs ls_ hE hp hZ hP hD hS hl
    unfold f_Y1_layDown at hE
    unfold p_Y1_layDown at hp
    refine lv_aload_n hx hb dX1_layDown_0 rfl (lv_at hl 0 rfl) ?_
    refine lv_iload_n hx hb dX1_layDown_1 rfl (lv_at hl 1 rfl) ?_
    obtain ⟨hy1, hp⟩ := hp
    refine cGoq (va_runV (As := [.int x1]) (rest := []) ⟨hx, hb, hml, hown, hts⟩ (c_Y0_placeAt l G K ad S x0 x1 _) (cwV 1 hts (wGV t_ (mw (.methodLink RX1 159 yX0_placeAt) (List.mem_of_getElem? (i := 0) rfl)) (mw (.instanceMethod yX0_placeAt) (List.mem_of_getElem? (i := 1) rfl)) (mw (.selects RX0 yX0_placeAt yX0_placeAt) (List.mem_of_getElem? (i := 2) rfl)) (mw (.initialized RX0) (List.mem_of_getElem? (i := 3) rfl)) j_Y0_placeAt) rfl rfl rfl (by decide +kernel) ⟨Nat.le_of_ble_eq_true rfl, Nat.le_of_ble_eq_true rfl⟩) (cPV hK hTE hP hD 0 rfl (at_0 (k_x0.e hZ)) ⟨(k_x0.e hZ), hy1⟩) rfl rfl hl.1 rfl (lv_room (Nat.le_of_ble_eq_true rfl)) dX1_layDown_2 ⟨Nat.le_of_ble_eq_true rfl, Nat.le_of_ble_eq_true rfl⟩) hP hD hS hA (fun r3 u2 H locs hv hP hD hS => ?_)
    have h1 := congrArg Prod.fst hv
    have h2 := (congrArg Prod.snd hv).symm
    dsimp only at h1 h2
    subst h1
    subst h2
    refine cAstore_n (ad := ad) (r := (f_Y0_placeAt S x0 x1)) (i := 2) (lv' := [(2, va_re ad (f_Y0_placeAt S x0 x1)), (0, .ref (ad x0)), (1, .int x1)]) hx hb dX1_layDown_5 rfl hl (by decide) rfl (fun ls_ hl => ?_)
    refine lv_aload_n hx hb dX1_layDown_6 rfl (lv_at hl 1 rfl) ?_
    refine va_get (D := G) (ci := 0) (v := va_re ad (grC S x0 2)) (C := RX0) (T := TX0) (N := 11) hx hb hts iX0 hown hK hP x0 (at_0 (k_x0.e hZ)) rfl 2 (by decide) (hw (.fieldLink RX1 121 "MotionFloor$Assembly" "draft" "LMotionFloor$Place;") (List.mem_of_getElem? (i := 4) rfl)) (fun _ h9 => h9) rfl dX1_layDown_7 ?_
    obtain ⟨hy4, hp⟩ := hp
    refine cTop (r := (grC S x0 2)) hy4.1 ?_
    obtain ⟨hy5, hp⟩ := hp
    refine cGoq (va_runV (As := []) (rest := []) ⟨hx, hb, hml, hown, hts⟩ (c_Y6_motion l G K ad S ((grC S x0 2).getD 0) _) (cwV 0 hts (wGV t_ (mw (.methodLink RX1 139 yX6_motion) (List.mem_of_getElem? (i := 5) rfl)) (mw (.instanceMethod yX6_motion) (List.mem_of_getElem? (i := 6) rfl)) (mw (.selects RX6 yX6_motion yX6_motion) (List.mem_of_getElem? (i := 7) rfl)) (mw (.initialized RX6) (List.mem_of_getElem? (i := 8) rfl)) j_Y6_motion) rfl rfl rfl (by decide +kernel) ⟨Nat.le_of_ble_eq_true rfl, Nat.le_of_ble_eq_true rfl⟩) (cPV hK hTE hP hD 5 rfl (at_5 hy4.2) ⟨hy4.2, hy5⟩) rfl rfl hl.1 rfl (lv_room (Nat.le_of_ble_eq_true rfl)) dX1_layDown_10 ⟨Nat.le_of_ble_eq_true rfl, Nat.le_of_ble_eq_true rfl⟩) hP hD hS hA (fun r7 u6 H locs hv hP hD hS => ?_)
    have h1 := congrArg Prod.fst hv
    have h2 := (congrArg Prod.snd hv).symm
    dsimp only at h1 h2
    subst h1
    subst h2
    refine cAstore_n (ad := ad) (r := (f_Y6_motion S ((grC S x0 2).getD 0))) (i := 3) (lv' := [(3, va_re ad (f_Y6_motion S ((grC S x0 2).getD 0))), (2, va_re ad (f_Y0_placeAt S x0 x1)), (0, .ref (ad x0)), (1, .int x1)]) hx hb dX1_layDown_13 rfl hl (by decide) (by simp [List.filter, re_cat]) (fun ls_ hl => ?_)
    refine lv_aload_n hx hb dX1_layDown_14 rfl (lv_at hl 2 rfl) ?_
    refine va_get (D := G) (ci := 0) (v := va_re ad (grC S x0 1)) (C := RX0) (T := TX0) (N := 11) hx hb hts iX0 hown hK hP x0 (at_0 (k_x0.e hZ)) rfl 1 (by decide) (hw (.fieldLink RX1 9 "MotionFloor$Assembly" "pending" "LMotionFloor$Pile;") (List.mem_of_getElem? (i := 9) rfl)) (fun _ h9 => h9) rfl dX1_layDown_15 ?_
    obtain ⟨hy8, hp⟩ := hp
    refine cTop (r := (grC S x0 1)) hy8.1 ?_
    obtain ⟨hy9, hp⟩ := hp
    refine cGoq (va_runV (As := []) (rest := []) ⟨hx, hb, hml, hown, hts⟩ (c_Y5_top l G K ad S ((grC S x0 1).getD 0) _) (cwV 0 hts (wGV t_ (mw (.methodLink RX1 15 yX5_top) (List.mem_of_getElem? (i := 10) rfl)) (mw (.instanceMethod yX5_top) (List.mem_of_getElem? (i := 11) rfl)) (mw (.selects RX5 yX5_top yX5_top) (List.mem_of_getElem? (i := 12) rfl)) (mw (.initialized RX5) (List.mem_of_getElem? (i := 13) rfl)) j_Y5_top) rfl rfl rfl (by decide +kernel) ⟨Nat.le_of_ble_eq_true rfl, Nat.le_of_ble_eq_true rfl⟩) (cPV hK hTE hP hD 4 rfl (at_4 hy8.2) ⟨hy8.2, hy9⟩) rfl rfl hl.1 rfl (lv_room (Nat.le_of_ble_eq_true rfl)) dX1_layDown_18 ⟨Nat.le_of_ble_eq_true rfl, Nat.le_of_ble_eq_true rfl⟩) hP hD hS hA (fun r11 u10 H locs hv hP hD hS => ?_)
    have h1 := congrArg Prod.fst hv
    have h2 := (congrArg Prod.snd hv).symm
    dsimp only at h1 h2
    subst h1
    subst h2
    refine cAstore (ad := ad) (r := (f_Y5_top S ((grC S x0 1).getD 0))) (i := 4) (lv' := [(4, va_re ad (f_Y5_top S ((grC S x0 1).getD 0))), (3, va_re ad (f_Y6_motion S ((grC S x0 2).getD 0))), (2, va_re ad (f_Y0_placeAt S x0 x1)), (0, .ref (ad x0)), (1, .int x1)]) hx hb dX1_layDown_21 hl (by decide) (by simp [List.filter, re_cat]) (fun ls_ hl => ?_)
    refine cAload_n (ad := ad) (r := (f_Y6_motion S ((grC S x0 2).getD 0))) hx hb dX1_layDown_23 rfl (lv_at hl 1 rfl) ?_
    refine cIfnull (ad := ad) (r := (f_Y6_motion S ((grC S x0 2).getD 0))) (tgt := 64) hx hb dX1_layDown_24 (by decide) (fun c12 => ?_) (fun c12 => ?_)
    · rw [if_pos c12] at hE hp
      exact B_Y1_layDown_64 S x1 (f_Y0_placeAt S x0 x1) (f_Y6_motion S ((grC S x0 2).getD 0)) (f_Y5_top S ((grC S x0 1).getD 0)) _ _ _ hE hp hZ hP hD hS (lv_sub hl [3, 4, 2, 1, 0] rfl)
    · rw [if_neg c12] at hE hp
      refine cAload_n (ad := ad) (r := (f_Y6_motion S ((grC S x0 2).getD 0))) hx hb dX1_layDown_27 rfl (lv_at hl 1 rfl) ?_
      obtain ⟨hy19, hp⟩ := hp
      refine cTop (r := (f_Y6_motion S ((grC S x0 2).getD 0))) hy19.1 ?_
      refine va_get (D := G) (ci := 3) (v := .int (giC S ((f_Y6_motion S ((grC S x0 2).getD 0)).getD 0) 10)) (C := RX4) (T := TX4) (N := 16) hx hb hts iX4 hown hK hP ((f_Y6_motion S ((grC S x0 2).getD 0)).getD 0) (at_3 hy19.2) rfl 10 (by decide) (hw (.fieldLink RX1 163 "MotionFloor$Motion" "laid" "Z") (List.mem_of_getElem? (i := 17) rfl)) (fun _ h9 => h9) rfl dX1_layDown_28 ?_
      refine lv_if_ne (tgt := 64) hx hb dX1_layDown_31 (by decide) (fun c20 => ?_) (fun c20 => ?_)
      · rw [if_neg c20] at hE hp
        exact B_Y1_layDown_64 S x1 (f_Y0_placeAt S x0 x1) (f_Y6_motion S ((grC S x0 2).getD 0)) (f_Y5_top S ((grC S x0 1).getD 0)) _ _ _ hE hp hZ hP hD hS (lv_sub hl [3, 4, 2, 1, 0] rfl)
      · rw [if_pos c20] at hE hp
        refine cAload_n (ad := ad) (r := (f_Y6_motion S ((grC S x0 2).getD 0))) hx hb dX1_layDown_34 rfl (lv_at hl 1 rfl) ?_
        refine lv_iconst (v := 1) hx hb dX1_layDown_35 (by decide) ?_
        obtain ⟨hy21, hp⟩ := hp
        refine cTop2 (r := (f_Y6_motion S ((grC S x0 2).getD 0))) hy21.1 ?_
        refine va_put (D := G) (ci := 3) (v := .int 1) (ty := .boolean) (C := RX4) (T := TX4) (N := 16) hx hb hts iX4 tyX4 tyX4_ok nmX4 hown hK hP hD hS ((f_Y6_motion S ((grC S x0 2).getD 0)).getD 0) (at_3 hy21.2) rfl 10 (by decide) (hw (.fieldLink RX1 163 "MotionFloor$Motion" "laid" "Z") (List.mem_of_getElem? (i := 17) rfl)) (fun _ h9 => h9) rfl (by decide +kernel) rfl rfl (Nat.le_of_ble_eq_true rfl) dX1_layDown_36 (fun H locs hP hD hS => ?_)
        rw [st_3_10 hy21.2] at hP hD
        have hZ := hZ.tr (eK.si S ((f_Y6_motion S ((grC S x0 2).getD 0)).getD 0) 10 (1 : Int32))
        refine cAload_n (ad := ad) (r := (f_Y6_motion S ((grC S x0 2).getD 0))) hx hb dX1_layDown_39 rfl (lv_at hl 1 rfl) ?_
        refine cAload_n (ad := ad) (r := (f_Y6_motion S ((grC S x0 2).getD 0))) hx hb dX1_layDown_40 rfl (lv_at hl 1 rfl) ?_
        obtain ⟨hy22, hp⟩ := hp
        refine cTop (r := (f_Y6_motion S ((grC S x0 2).getD 0))) hy22.1 ?_
        obtain ⟨hy23, hp⟩ := hp
        refine cGoi (va_runV (As := []) (rest := [va_re ad (f_Y6_motion S ((grC S x0 2).getD 0))]) ⟨hx, hb, hml, hown, hts⟩ (c_Y4_amends l G K ad (siC S ((f_Y6_motion S ((grC S x0 2).getD 0)).getD 0) 10 (1 : Int32)) ((f_Y6_motion S ((grC S x0 2).getD 0)).getD 0) _) (cwV 0 hts (wGV t_ (mw (.methodLink RX1 167 yX4_amends) (List.mem_of_getElem? (i := 18) rfl)) (mw (.instanceMethod yX4_amends) (List.mem_of_getElem? (i := 19) rfl)) (mw (.selects RX4 yX4_amends yX4_amends) (List.mem_of_getElem? (i := 20) rfl)) (mw (.initialized RX4) (List.mem_of_getElem? (i := 21) rfl)) j_Y4_amends) rfl rfl rfl (by decide +kernel) ⟨Nat.le_of_ble_eq_true rfl, Nat.le_of_ble_eq_true rfl⟩) (cPV hK hTE hP hD 3 rfl (at_3 hy22.2) ⟨hy22.2, hy23⟩) rfl rfl hl.1 rfl (lv_room (by simp only [List.map_cons, List.map_nil, List.sum_cons, List.sum_nil, re_cat]; exact Nat.le_of_ble_eq_true rfl)) dX1_layDown_41 ⟨Nat.le_of_ble_eq_true rfl, Nat.le_of_ble_eq_true rfl⟩) hP hD hS hA (fun r25 u24 H locs hv hP hD hS => ?_)
        have h1 := congrArg Prod.fst hv
        have h2 := (congrArg Prod.snd hv).symm
        dsimp only at h1 h2
        subst h1
        subst h2
        exact B_Y1_layDown_44a (siC S ((f_Y6_motion S ((grC S x0 2).getD 0)).getD 0) 10 (1 : Int32)) x1 (f_Y0_placeAt S x0 x1) (f_Y6_motion S ((grC S x0 2).getD 0)) (f_Y5_top S ((grC S x0 1).getD 0)) (f_Y4_amends (siC S ((f_Y6_motion S ((grC S x0 2).getD 0)).getD 0) 10 (1 : Int32)) ((f_Y6_motion S ((grC S x0 2).getD 0)).getD 0)) (f_Y6_motion S ((grC S x0 2).getD 0)) _ _ _ hE hp hZ hP hD hS (lv_sub hl [3, 4, 2, 1, 0] rfl)
  exact B_M S0 a1 _ _ _ hX hp (eK.rf S0) hP hD hS hl
theorem gdX1_takeUp_0 : ckS (List.drop 0 cX1_takeUp.data.toList) 0 [(0, .aload_n 0, 1), (1, .iload_n 1, 1), (2, .invokevirtual 159, 3), (5, .astore_n 2, 1), (6, .aload_n 2, 1), (7, .ifnull 11, 3), (18, .aload_n 0, 1), (19, .getfield 121, 3), (22, .getfield 180, 3), (25, .iconst 1, 1), (26, .if_icmp .ne 11, 3), (37, .aload_n 0, 1), (38, .getfield 121, 3), (41, .invokevirtual 183, 3)] = true := by decide +kernel
theorem dX1_takeUp_0 : decode cX1_takeUp 0 = .ok (.aload_n 0, 1) := ckS_g gdX1_takeUp_0 0 rfl
theorem dX1_takeUp_1 : decode cX1_takeUp 1 = .ok (.iload_n 1, 1) := ckS_g gdX1_takeUp_0 1 rfl
theorem dX1_takeUp_2 : decode cX1_takeUp 2 = .ok (.invokevirtual 159, 3) := ckS_g gdX1_takeUp_0 2 rfl
theorem dX1_takeUp_5 : decode cX1_takeUp 5 = .ok (.astore_n 2, 1) := ckS_g gdX1_takeUp_0 3 rfl
theorem dX1_takeUp_6 : decode cX1_takeUp 6 = .ok (.aload_n 2, 1) := ckS_g gdX1_takeUp_0 4 rfl
theorem dX1_takeUp_7 : decode cX1_takeUp 7 = .ok (.ifnull 11, 3) := ckS_g gdX1_takeUp_0 5 rfl
theorem dX1_takeUp_18 : decode cX1_takeUp 18 = .ok (.aload_n 0, 1) := ckS_g gdX1_takeUp_0 6 rfl
theorem dX1_takeUp_19 : decode cX1_takeUp 19 = .ok (.getfield 121, 3) := ckS_g gdX1_takeUp_0 7 rfl
theorem dX1_takeUp_22 : decode cX1_takeUp 22 = .ok (.getfield 180, 3) := ckS_g gdX1_takeUp_0 8 rfl
theorem dX1_takeUp_25 : decode cX1_takeUp 25 = .ok (.iconst 1, 1) := ckS_g gdX1_takeUp_0 9 rfl
theorem dX1_takeUp_26 : decode cX1_takeUp 26 = .ok (.if_icmp .ne 11, 3) := ckS_g gdX1_takeUp_0 10 rfl
theorem dX1_takeUp_37 : decode cX1_takeUp 37 = .ok (.aload_n 0, 1) := ckS_g gdX1_takeUp_0 11 rfl
theorem dX1_takeUp_38 : decode cX1_takeUp 38 = .ok (.getfield 121, 3) := ckS_g gdX1_takeUp_0 12 rfl
theorem dX1_takeUp_41 : decode cX1_takeUp 41 = .ok (.invokevirtual 183, 3) := ckS_g gdX1_takeUp_0 13 rfl
theorem gdX6_kind_0 : ckS (List.drop 0 cX6_kind.data.toList) 0 [(0, .aload_n 0, 1), (1, .getfield 18, 3), (4, .iconst 0, 1), (5, .invokevirtual 22, 3), (8, .astore_n 1, 1), (9, .aload_n 0, 1), (10, .getfield 9, 3), (13, .iconst 3, 1), (14, .if_icmp .ne 6, 3), (17, .bipush 7, 2), (19, .ireturn, 1), (20, .aload_n 1, 1), (21, .ifnonnull 7, 3), (24, .iconst 0, 1), (25, .goto 7, 3), (28, .aload_n 1, 1), (29, .getfield 26, 3), (32, .ireturn, 1)] = true := by decide +kernel
theorem dX6_kind_0 : decode cX6_kind 0 = .ok (.aload_n 0, 1) := ckS_g gdX6_kind_0 0 rfl
theorem dX6_kind_1 : decode cX6_kind 1 = .ok (.getfield 18, 3) := ckS_g gdX6_kind_0 1 rfl
theorem dX6_kind_4 : decode cX6_kind 4 = .ok (.iconst 0, 1) := ckS_g gdX6_kind_0 2 rfl
theorem dX6_kind_5 : decode cX6_kind 5 = .ok (.invokevirtual 22, 3) := ckS_g gdX6_kind_0 3 rfl
theorem dX6_kind_8 : decode cX6_kind 8 = .ok (.astore_n 1, 1) := ckS_g gdX6_kind_0 4 rfl
theorem dX6_kind_9 : decode cX6_kind 9 = .ok (.aload_n 0, 1) := ckS_g gdX6_kind_0 5 rfl
theorem dX6_kind_10 : decode cX6_kind 10 = .ok (.getfield 9, 3) := ckS_g gdX6_kind_0 6 rfl
theorem dX6_kind_13 : decode cX6_kind 13 = .ok (.iconst 3, 1) := ckS_g gdX6_kind_0 7 rfl
theorem dX6_kind_14 : decode cX6_kind 14 = .ok (.if_icmp .ne 6, 3) := ckS_g gdX6_kind_0 8 rfl
theorem dX6_kind_17 : decode cX6_kind 17 = .ok (.bipush 7, 2) := ckS_g gdX6_kind_0 9 rfl
theorem dX6_kind_19 : decode cX6_kind 19 = .ok (.ireturn, 1) := ckS_g gdX6_kind_0 10 rfl
theorem dX6_kind_20 : decode cX6_kind 20 = .ok (.aload_n 1, 1) := ckS_g gdX6_kind_0 11 rfl
theorem dX6_kind_21 : decode cX6_kind 21 = .ok (.ifnonnull 7, 3) := ckS_g gdX6_kind_0 12 rfl
theorem dX6_kind_24 : decode cX6_kind 24 = .ok (.iconst 0, 1) := ckS_g gdX6_kind_0 13 rfl
theorem dX6_kind_25 : decode cX6_kind 25 = .ok (.goto 7, 3) := ckS_g gdX6_kind_0 14 rfl
theorem dX6_kind_28 : decode cX6_kind 28 = .ok (.aload_n 1, 1) := ckS_g gdX6_kind_0 15 rfl
theorem dX6_kind_29 : decode cX6_kind 29 = .ok (.getfield 26, 3) := ckS_g gdX6_kind_0 16 rfl
theorem dX6_kind_32 : decode cX6_kind 32 = .ok (.ireturn, 1) := ckS_g gdX6_kind_0 17 rfl
set_option maxRecDepth 100000 in
theorem zc186 : wZ (.fieldLink RX6 26 "MotionFloor$Motion" "kind" "I") := ⟨wT3 (List.mem_of_getElem? (i := 17) (by decide +kernel)), Or.inl rfl⟩
set_option maxRecDepth 100000 in
theorem zc187 : wZ (.code yX6_kind cX6_kind 2 (some .int)) := ⟨wT3 (List.mem_of_getElem? (i := 146) rfl), Or.inl rfl⟩
def b_Y6_kind_32 (S : Cst) (x0 : Nat) (x1 : Option Nat) (y0 : Int32) : Int32 := y0
def q_Y6_kind_32 (S : Cst) (x0 : Nat) (x1 : Option Nat) (y0 : Int32) : Prop := True
def f_Y6_kind (S : Cst) (x0 : Nat) : Int32 := if (giC S x0 0) = 3 then (7 : Int32) else if (f_Y5_at S ((grC S x0 1).getD 0) (0 : Int32)) = none then (b_Y6_kind_32 S x0 (f_Y5_at S ((grC S x0 1).getD 0) (0 : Int32)) 0) else (b_Y6_kind_32 S x0 (f_Y5_at S ((grC S x0 1).getD 0) (0 : Int32)) (giC S ((f_Y5_at S ((grC S x0 1).getD 0) (0 : Int32)).getD 0) 2))
def p_Y6_kind (S : Cst) (x0 : Nat) : Prop := (iR S (grC S x0 1) 4) ∧ (p_Y5_at S ((grC S x0 1).getD 0) (0 : Int32)) ∧ (if (giC S x0 0) = 3 then True else (if (f_Y5_at S ((grC S x0 1).getD 0) (0 : Int32)) = none then (q_Y6_kind_32 S x0 (f_Y5_at S ((grC S x0 1).getD 0) (0 : Int32)) 0) else (iR S (f_Y5_at S ((grC S x0 1).getD 0) (0 : Int32)) 3) ∧ (q_Y6_kind_32 S x0 (f_Y5_at S ((grC S x0 1).getD 0) (0 : Int32)) (giC S ((f_Y5_at S ((grC S x0 1).getD 0) (0 : Int32)).getD 0) 2))))
def e_Y6_kind : List Cond := [.fieldLink RX6 18 "MotionFloor$Place" "pile" "LMotionFloor$Pile;", .methodLink RX6 22 yX5_at, .instanceMethod yX5_at, .selects RX5 yX5_at yX5_at, .initialized RX5, .fieldLink RX6 9 "MotionFloor$Place" "sort" "I", .fieldLink RX6 26 "MotionFloor$Motion" "kind" "I"]
def v_Y6_kind : List Cond := .code yX6_kind cX6_kind 2 (some .int) :: (e_Y6_kind ++ (wsX60 ++ (wsX40 ++ (v_Y5_at ++ []))))
theorem te_Y6_kind : GoodIn lw_tbl e_Y6_kind := wGc zc125 (wGc zc124 (wGc zc123 (wGc zc122 (wGc zc34 (wGc zc110 (wGc zc186 (wG0)))))))
theorem t_Y6_kind : GoodIn lw_tbl v_Y6_kind := wGc zc187 (wGa te_Y6_kind (wGa zcX6 (wGa zcX4 (wGa t_Y5_at (wG0)))))
set_option maxHeartbeats 4000000 in
set_option maxRecDepth 100000 in
theorem c_Y6_kind (l : Launch) (G : va_G) (K : Nat → ClassId) (ad : Nat → Nat) (S : Cst) (x0 : Nat)  (sz : Nat) : Met l yX6_kind v_Y6_kind ({ frames := 1, cells := 0, slots := 0, locals := 21 }) (va_Pc [.ref (ad x0)] (cSt G K ad sz S (iK S x0 5 ∧ p_Y6_kind S x0))) (va_Qi (fun (r : Int32) (u : Cst) => (r, u) = (f_Y6_kind S x0, S)) (cBt G K ad (va_A (wsC K ad S) sz)) (va_A (wsC K ad S) sz)) 0 0 (va_A (wsC K ad S) sz) := by
  refine Met.ofW (cc := cX6_kind) (maxL := 2) (ret := (some .int)) (by decide) rfl ?_
  intro p e s m args below meth c s₁ B hml hv
  obtain ⟨rfl, ⟨hsz, hP, hK, hD0, hTE⟩, hp⟩ := hv
  obtain ⟨k_x0, hp⟩ := hp
  have hx := B.exec
  have hb := B.bytes
  have hr := B.returns
  have hts := atoms_spec (ws := v_Y6_kind) B.pre
  have t_ := t_Y6_kind
  have mw : ∀ w ∈ e_Y6_kind, w ∈ v_Y6_kind := fun w h => List.mem_cons_of_mem _ (List.mem_append_left _ h)
  have hw := fun w (h : w ∈ e_Y6_kind) => hts w (mw w h)
  have iX6 : ∀ w ∈ wsX60, w ∈ v_Y6_kind := fun w h => List.mem_cons_of_mem _ (List.mem_append_right _ (List.mem_append_left _ h))
  have iX4 : ∀ w ∈ wsX40, w ∈ v_Y6_kind := fun w h => List.mem_cons_of_mem _ (List.mem_append_right _ (List.mem_append_right _ (List.mem_append_left _ h)))
  have j_Y5_at : ∀ w ∈ v_Y5_at, w ∈ v_Y6_kind := fun w h => List.mem_cons_of_mem _ (List.mem_append_right _ (List.mem_append_right _ (List.mem_append_right _ (List.mem_append_left _ h))))
  have hown : s.vm.findClass RX6 = some m.cls := findClass_of_methodNamed B.named
  have hlocks := B.notSynchronized
  subst hsz
  have hD := hD0.self (sz := s.heap.size)
  generalize hAe : va_A (wsC K ad S) s.heap.size = A at hD ⊢
  have hA : ∀ q : Nat, s.heap.size ≤ q → A q := fun q h => by rw [← hAe]; exact Or.inr h
  have hS : va_S A s.heap s.heap [] := va_S.rf
  have hl : lv_has (lg_sl ([.ref (ad x0)]) ++ List.replicate (2 - (lg_sl ([.ref (ad x0)])).length) Slot.unset).toArray 2 [(0, .ref (ad x0))] := by
    exact lv_entry ([.ref (ad x0)]) (n := 2) (Nat.le_of_ble_eq_true rfl)
  rw [lg_entry_eq]
  generalize (lg_sl ([.ref (ad x0)]) ++ List.replicate (2 - (lg_sl ([.ref (ad x0)])).length) Slot.unset).toArray = ls_ at hl ⊢
  refine wGen (fun Q hQ => ?_)
  obtain ⟨X, hX⟩ : ∃ X, f_Y6_kind S x0 = X := ⟨_, rfl⟩
  have B_Y6_kind_32 : ∀ (x1 : Option Nat) (y0 : Int32) (H : Heap) (locs : List Loc) (ls_ : Array Slot), b_Y6_kind_32 S x0 x1 y0 = X → q_Y6_kind_32 S x0 x1 y0 → va_P G vwCl (wsC K ad S) H → va_D A (wsC K ad S) → va_S A s.heap H locs → lv_has ls_ 2 [(0, .ref (ad x0)), (1, va_re ad x1)] → W p l e ({ frames := 1, cells := 0, slots := 0, locals := 21 } : Room) s m #[Value.ref (ad x0)] below meth c H locs 0 0 Q (F0 m 32 ls_ [.int y0]) := by
    intro x1 y0 H locs ls_ hE hp hP hD hS hl
    unfold b_Y6_kind_32 at hE
    unfold q_Y6_kind_32 at hp
    subst hQ
    exact W.iret (v := y0) hx hb hr (fun t ht hW => ⟨⟨y0, S, rfl, (pair_i (hE.trans hX.symm)), by rw [ht]; exact hP, hD⟩, hS.F ht⟩) hS.2.2 dX6_kind_32
  have B_M : ∀ (H : Heap) (locs : List Loc) (ls_ : Array Slot), f_Y6_kind S x0 = X → p_Y6_kind S x0 → va_P G vwCl (wsC K ad S) H → va_D A (wsC K ad S) → va_S A s.heap H locs → lv_has ls_ 2 [(0, .ref (ad x0))] → W p l e ({ frames := 1, cells := 0, slots := 0, locals := 21 } : Room) s m #[Value.ref (ad x0)] below meth c H locs 0 0 Q (F0 m 0 ls_ []) := by
    intro  H locs ls_ hE hp hP hD hS hl
    unfold f_Y6_kind at hE
    unfold p_Y6_kind at hp
    refine lv_aload_n hx hb dX6_kind_0 rfl (lv_at hl 0 rfl) ?_
    refine va_get (D := G) (ci := 5) (v := va_re ad (grC S x0 1)) (C := RX6) (T := TX6) (N := 2) hx hb hts iX6 hown hK hP x0 (at_5 k_x0) rfl 1 (by decide) (hw (.fieldLink RX6 18 "MotionFloor$Place" "pile" "LMotionFloor$Pile;") (List.mem_of_getElem? (i := 0) rfl)) (fun _ h9 => h9) rfl dX6_kind_1 ?_
    refine lv_iconst (v := 0) hx hb dX6_kind_4 (by decide) ?_
    obtain ⟨hy1, hp⟩ := hp
    refine cTop2 (r := (grC S x0 1)) hy1.1 ?_
    obtain ⟨hy2, hp⟩ := hp
    refine cGoq (va_runV (As := [.int 0]) (rest := []) ⟨hx, hb, hml, hown, hts⟩ (c_Y5_at l G K ad S ((grC S x0 1).getD 0) (0 : Int32) _) (cwV 1 hts (wGV t_ (mw (.methodLink RX6 22 yX5_at) (List.mem_of_getElem? (i := 1) rfl)) (mw (.instanceMethod yX5_at) (List.mem_of_getElem? (i := 2) rfl)) (mw (.selects RX5 yX5_at yX5_at) (List.mem_of_getElem? (i := 3) rfl)) (mw (.initialized RX5) (List.mem_of_getElem? (i := 4) rfl)) j_Y5_at) rfl rfl rfl (by decide +kernel) ⟨Nat.le_of_ble_eq_true rfl, Nat.le_of_ble_eq_true rfl⟩) (cPV hK hTE hP hD 4 rfl (at_4 hy1.2) ⟨hy1.2, hy2⟩) rfl rfl hl.1 rfl (lv_room (Nat.le_of_ble_eq_true rfl)) dX6_kind_5 ⟨Nat.le_of_ble_eq_true rfl, Nat.le_of_ble_eq_true rfl⟩) hP hD hS hA (fun r4 u3 H locs hv hP hD hS => ?_)
    have h1 := congrArg Prod.fst hv
    have h2 := (congrArg Prod.snd hv).symm
    dsimp only at h1 h2
    subst h1
    subst h2
    refine cAstore_n (ad := ad) (r := (f_Y5_at S ((grC S x0 1).getD 0) (0 : Int32))) (i := 1) (lv' := [(1, va_re ad (f_Y5_at S ((grC S x0 1).getD 0) (0 : Int32))), (0, .ref (ad x0))]) hx hb dX6_kind_8 rfl hl (by decide) rfl (fun ls_ hl => ?_)
    refine lv_aload_n hx hb dX6_kind_9 rfl (lv_at hl 1 rfl) ?_
    refine va_get (D := G) (ci := 5) (v := .int (giC S x0 0)) (C := RX6) (T := TX6) (N := 2) hx hb hts iX6 hown hK hP x0 (at_5 k_x0) rfl 0 (by decide) (hw (.fieldLink RX6 9 "MotionFloor$Place" "sort" "I") (List.mem_of_getElem? (i := 5) rfl)) (fun _ h9 => h9) rfl dX6_kind_10 ?_
    refine lv_iconst (v := 3) hx hb dX6_kind_13 (by decide) ?_
    refine lv_icmp_ne (tgt := 20) hx hb dX6_kind_14 (by decide) (fun c5 => ?_) (fun c5 => ?_)
    · rw [if_neg c5] at hE hp
      refine cAload_n (ad := ad) (r := (f_Y5_at S ((grC S x0 1).getD 0) (0 : Int32))) hx hb dX6_kind_20 rfl (lv_at hl 0 rfl) ?_
      refine cIfnonnull (ad := ad) (r := (f_Y5_at S ((grC S x0 1).getD 0) (0 : Int32))) (tgt := 28) hx hb dX6_kind_21 (by decide) (fun c6 => ?_) (fun c6 => ?_)
      · rw [if_pos c6] at hE hp
        refine lv_iconst (v := 0) hx hb dX6_kind_24 (by decide) ?_
        refine lv_goto (tgt := 32) hx hb dX6_kind_25 (by decide) ?_
        exact B_Y6_kind_32 (f_Y5_at S ((grC S x0 1).getD 0) (0 : Int32)) 0 _ _ _ hE hp hP hD hS (lv_sub hl [1, 0] rfl)
      · rw [if_neg c6] at hE hp
        refine cAload_n (ad := ad) (r := (f_Y5_at S ((grC S x0 1).getD 0) (0 : Int32))) hx hb dX6_kind_28 rfl (lv_at hl 0 rfl) ?_
        obtain ⟨hy7, hp⟩ := hp
        refine cTop (r := (f_Y5_at S ((grC S x0 1).getD 0) (0 : Int32))) hy7.1 ?_
        refine va_get (D := G) (ci := 3) (v := .int (giC S ((f_Y5_at S ((grC S x0 1).getD 0) (0 : Int32)).getD 0) 2)) (C := RX4) (T := TX4) (N := 16) hx hb hts iX4 hown hK hP ((f_Y5_at S ((grC S x0 1).getD 0) (0 : Int32)).getD 0) (at_3 hy7.2) rfl 2 (by decide) (hw (.fieldLink RX6 26 "MotionFloor$Motion" "kind" "I") (List.mem_of_getElem? (i := 6) rfl)) (fun _ h9 => h9) rfl dX6_kind_29 ?_
        exact B_Y6_kind_32 (f_Y5_at S ((grC S x0 1).getD 0) (0 : Int32)) (giC S ((f_Y5_at S ((grC S x0 1).getD 0) (0 : Int32)).getD 0) 2) _ _ _ hE hp hP hD hS (lv_sub hl [1, 0] rfl)
    · rw [if_pos c5] at hE hp
      refine lv_bipush (v := 7) hx hb dX6_kind_17 (by decide) ?_
      subst hQ
      exact W.iret (v := (7 : Int32)) hx hb hr (fun t ht hW => ⟨⟨(7 : Int32), S, rfl, (pair_i (hE.trans hX.symm)), by rw [ht]; exact hP, hD⟩, hS.F ht⟩) hS.2.2 dX6_kind_19
  exact B_M  _ _ _ hX hp hP hD hS hl
