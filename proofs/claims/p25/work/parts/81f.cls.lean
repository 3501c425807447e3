theorem gdX4_renew_5 : ckS (List.drop 5 cX4_renew.data.toList) 5 [(5, .aload_n 0, 1), (6, .getfield 12, 3), (9, .iconst 0, 1), (10, .putfield 26, 3), (13, .return_, 1)] = true := by decide +kernel
theorem dX4_renew_5 : decode cX4_renew 5 = .ok (.aload_n 0, 1) := ckS_g gdX4_renew_5 0 rfl
theorem dX4_renew_6 : decode cX4_renew 6 = .ok (.getfield 12, 3) := ckS_g gdX4_renew_5 1 rfl
theorem dX4_renew_9 : decode cX4_renew 9 = .ok (.iconst 0, 1) := ckS_g gdX4_renew_5 2 rfl
theorem dX4_renew_10 : decode cX4_renew 10 = .ok (.putfield 26, 3) := ckS_g gdX4_renew_5 3 rfl
theorem dX4_renew_13 : decode cX4_renew 13 = .ok (.return_, 1) := ckS_g gdX4_renew_5 4 rfl
set_option maxRecDepth 100000 in
theorem zc261 : wZ (.fieldLink RX4 26 "MotionFloor$Text" "size" "I") := ⟨wT1 (List.mem_of_getElem? (i := 154) (by decide +kernel)), Or.inl rfl⟩
set_option maxRecDepth 100000 in
theorem zc262 : wZ (.fieldLink RX4 12 "MotionFloor$Motion" "text" "LMotionFloor$Text;") := ⟨wT3 (List.mem_of_getElem? (i := 53) (by decide +kernel)), Or.inl rfl⟩
set_option maxRecDepth 100000 in
theorem zc263 : wZ (.selects RX4 yX4_keepTextAs yX4_keepTextAs) := ⟨wT3 (List.mem_of_getElem? (i := 102) (by decide +kernel)), Or.inl rfl⟩
set_option maxRecDepth 100000 in
theorem zc264 : wZ (.instanceMethod yX4_keepTextAs) := ⟨wT3 (List.mem_of_getElem? (i := 101) (by decide +kernel)), Or.inl rfl⟩
set_option maxRecDepth 100000 in
theorem zc265 : wZ (.methodLink RX4 22 yX4_keepTextAs) := ⟨wT3 (List.mem_of_getElem? (i := 100) (by decide +kernel)), Or.inl rfl⟩
set_option maxRecDepth 100000 in
theorem zc266 : wZ (.code yX4_renew cX4_renew 2 none) := ⟨wT3 (List.mem_of_getElem? (i := 99) rfl), Or.inl rfl⟩
def b_Y4_renew_5a (S : Cst) (x0 : Nat) (x1 : Int32) : Int32 × Cst := (0, (siC S ((grC S x0 12).getD 0) 1 (0 : Int32)))
def q_Y4_renew_5a (S : Cst) (x0 : Nat) (x1 : Int32) : Prop := (iR S (grC S x0 12) 6) ∧ True
def f_Y4_renew (S : Cst) (x0 : Nat) (x1 : Int32) : Int32 × Cst := (b_Y4_renew_5a ((f_Y4_keepTextAs S x0 x1).2) x0 x1)
def p_Y4_renew (S : Cst) (x0 : Nat) (x1 : Int32) : Prop := (p_Y4_keepTextAs S x0 x1) ∧ (q_Y4_renew_5a ((f_Y4_keepTextAs S x0 x1).2) x0 x1)
def e_Y4_renew : List Cond := [.methodLink RX4 22 yX4_keepTextAs, .instanceMethod yX4_keepTextAs, .selects RX4 yX4_keepTextAs yX4_keepTextAs, .initialized RX4, .fieldLink RX4 12 "MotionFloor$Motion" "text" "LMotionFloor$Text;", .fieldLink RX4 26 "MotionFloor$Text" "size" "I"]
def v_Y4_renew : List Cond := .code yX4_renew cX4_renew 2 none :: (e_Y4_renew ++ (wsX40 ++ (wsX90 ++ (v_Y4_keepTextAs ++ []))))
theorem te_Y4_renew : GoodIn lw_tbl e_Y4_renew := wGc zc265 (wGc zc264 (wGc zc263 (wGc zc170 (wGc zc262 (wGc zc261 (wG0))))))
theorem t_Y4_renew : GoodIn lw_tbl v_Y4_renew := wGc zc266 (wGa te_Y4_renew (wGa zcX4 (wGa zcX9 (wGa t_Y4_keepTextAs (wG0)))))
set_option maxHeartbeats 4000000 in
set_option maxRecDepth 100000 in
theorem c_Y4_renew (l : Launch) (G : va_G) (K : Nat → ClassId) (ad : Nat → Nat) (S0 : Cst) (x0 : Nat) (a1 : Int32) (sz : Nat) : Met l yX4_renew v_Y4_renew ({ frames := 2, cells := 0, slots := 0, locals := 44 }) (va_Pc [.ref (ad x0), .int a1] (cSt G K ad sz S0 (iK S0 x0 3 ∧ p_Y4_renew S0 x0 a1))) (va_Qv (fun u : Cst => (0, u) = f_Y4_renew S0 x0 a1 ∧ eK S0 u) (cBt G K ad (va_A (wsC K ad S0) sz)) (va_A (wsC K ad S0) sz)) 0 0 (va_A (wsC K ad S0) sz) := by
  refine Met.ofW (cc := cX4_renew) (maxL := 2) (ret := none) (by decide) rfl ?_
  intro p e s m args below meth c s₁ B hml hv
  obtain ⟨rfl, ⟨hsz, hP, hK, hD0, hTE⟩, hp⟩ := hv
  obtain ⟨k_x0, hp⟩ := hp
  have hx := B.exec
  have hb := B.bytes
  have hr := B.returns
  have hts := atoms_spec (ws := v_Y4_renew) B.pre
  have t_ := t_Y4_renew
  have mw : ∀ w ∈ e_Y4_renew, w ∈ v_Y4_renew := fun w h => List.mem_cons_of_mem _ (List.mem_append_left _ h)
  have hw := fun w (h : w ∈ e_Y4_renew) => hts w (mw w h)
  have iX4 : ∀ w ∈ wsX40, w ∈ v_Y4_renew := fun w h => List.mem_cons_of_mem _ (List.mem_append_right _ (List.mem_append_left _ h))
  have iX9 : ∀ w ∈ wsX90, w ∈ v_Y4_renew := fun w h => List.mem_cons_of_mem _ (List.mem_append_right _ (List.mem_append_right _ (List.mem_append_left _ h)))
  have j_Y4_keepTextAs : ∀ w ∈ v_Y4_keepTextAs, w ∈ v_Y4_renew := fun w h => List.mem_cons_of_mem _ (List.mem_append_right _ (List.mem_append_right _ (List.mem_append_right _ (List.mem_append_left _ h))))
  have hown : s.vm.findClass RX4 = some m.cls := findClass_of_methodNamed B.named
  have hlocks := B.notSynchronized
  subst hsz
  have hD := hD0.self (sz := s.heap.size)
  generalize hAe : va_A (wsC K ad S0) s.heap.size = A at hD ⊢
  have hA : ∀ q : Nat, s.heap.size ≤ q → A q := fun q h => by rw [← hAe]; exact Or.inr h
  have hS : va_S A s.heap s.heap [] := va_S.rf
  have hl : lv_has (lg_sl ([.ref (ad x0), .int a1]) ++ List.replicate (2 - (lg_sl ([.ref (ad x0), .int a1])).length) Slot.unset).toArray 2 [(0, .ref (ad x0)), (1, .int a1)] := by
    exact lv_entry ([.ref (ad x0), .int a1]) (n := 2) (Nat.le_of_ble_eq_true rfl)
  rw [lg_entry_eq]
  generalize (lg_sl ([.ref (ad x0), .int a1]) ++ List.replicate (2 - (lg_sl ([.ref (ad x0), .int a1])).length) Slot.unset).toArray = ls_ at hl ⊢
  refine wGen (fun Q hQ => ?_)
  obtain ⟨X, hX⟩ : ∃ X, f_Y4_renew S0 x0 a1 = X := ⟨_, rfl⟩
  have B_Y4_renew_5a : ∀ (S : Cst) (x1 : Int32) (H : Heap) (locs : List Loc) (ls_ : Array Slot), b_Y4_renew_5a S x0 x1 = X → q_Y4_renew_5a S x0 x1 → eK S0 S → va_P G vwCl (wsC K ad S) H → va_D A (wsC K ad S) → va_S A s.heap H locs → lv_has ls_ 2 [(0, .ref (ad x0)), (1, .int x1)] → W p l e ({ frames := 2, cells := 0, slots := 0, locals := 44 } : Room) s m #[Value.ref (ad x0), Value.int a1] below meth c H locs 0 0 Q (F0 m 5 ls_ []) := by
    intro S x1 H locs ls_ hE hp hZ hP hD hS hl
    unfold b_Y4_renew_5a at hE
    unfold q_Y4_renew_5a at hp
    refine lv_aload_n hx hb dX4_renew_5 rfl (lv_at hl 0 rfl) ?_
    refine va_get (D := G) (ci := 3) (v := va_re ad (grC S x0 12)) (C := RX4) (T := TX4) (N := 16) hx hb hts iX4 hown hK hP x0 (at_3 (k_x0.e hZ)) rfl 12 (by decide) (hw (.fieldLink RX4 12 "MotionFloor$Motion" "text" "LMotionFloor$Text;") (List.mem_of_getElem? (i := 4) rfl)) (fun _ h9 => h9) rfl dX4_renew_6 ?_
    refine lv_iconst (v := 0) hx hb dX4_renew_9 (by decide) ?_
    obtain ⟨hy4, hp⟩ := hp
    refine cTop2 (r := (grC S x0 12)) hy4.1 ?_
    refine va_put (D := G) (ci := 6) (v := .int 0) (ty := .int) (C := RX9) (T := TX9) (N := 2) hx hb hts iX9 tyX9 tyX9_ok nmX9 hown hK hP hD hS ((grC S x0 12).getD 0) (at_6 hy4.2) rfl 1 (by decide) (hw (.fieldLink RX4 26 "MotionFloor$Text" "size" "I") (List.mem_of_getElem? (i := 5) rfl)) (fun _ h9 => h9) rfl (by decide +kernel) rfl rfl (Nat.le_of_ble_eq_true rfl) dX4_renew_10 (fun H locs hP hD hS => ?_)
    rw [st_6_1 hy4.2] at hP hD
    have hZ := hZ.tr (eK.si S ((grC S x0 12).getD 0) 1 (0 : Int32))
    subst hQ
    exact W.vret hx hb hr (fun t ht hW => ⟨⟨(siC S ((grC S x0 12).getD 0) 1 (0 : Int32)), rfl, ⟨hE.trans hX.symm, hZ⟩, by rw [ht]; exact hP, hD⟩, hS.F ht⟩) hS.2.2 dX4_renew_13
  have B_M : ∀ (S : Cst) (x1 : Int32) (H : Heap) (locs : List Loc) (ls_ : Array Slot), f_Y4_renew S x0 x1 = X → p_Y4_renew S x0 x1 → eK S0 S → va_P G vwCl (wsC K ad S) H → va_D A (wsC K ad S) → va_S A s.heap H locs → lv_has ls_ 2 [(0, .ref (ad x0)), (1, .int x1)] → W p l e ({ frames := 2, cells := 0, slots := 0, locals := 44 } : Room) s m #[Value.ref (ad x0), Value.int a1] below meth c H locs 0 0 Q (F0 m 0 ls_ []) := by
    intro S x1 H locs ls_ hE hp hZ hP hD hS hl
    unfold f_Y4_renew at hE
    unfold p_Y4_renew at hp
    refine lv_aload_n hx hb dX4_renew_0 rfl (lv_at hl 0 rfl) ?_
    refine lv_iload_n hx hb dX4_renew_1 rfl (lv_at hl 1 rfl) ?_
    obtain ⟨hy1, hp⟩ := hp
    refine cGov (va_runV (As := [.int x1]) (rest := []) ⟨hx, hb, hml, hown, hts⟩ (c_Y4_keepTextAs l G K ad S x0 x1 _) (cwV 1 hts (wGV t_ (mw (.methodLink RX4 22 yX4_keepTextAs) (List.mem_of_getElem? (i := 0) rfl)) (mw (.instanceMethod yX4_keepTextAs) (List.mem_of_getElem? (i := 1) rfl)) (mw (.selects RX4 yX4_keepTextAs yX4_keepTextAs) (List.mem_of_getElem? (i := 2) rfl)) (mw (.initialized RX4) (List.mem_of_getElem? (i := 3) rfl)) j_Y4_keepTextAs) rfl rfl rfl (by decide +kernel) ⟨Nat.le_of_ble_eq_true rfl, Nat.le_of_ble_eq_true rfl⟩) (cPV hK hTE hP hD 3 rfl (at_3 (k_x0.e hZ)) ⟨(k_x0.e hZ), hy1⟩) rfl rfl hl.1 rfl (lv_room (Nat.le_of_ble_eq_true rfl)) dX4_renew_2 ⟨Nat.le_of_ble_eq_true rfl, Nat.le_of_ble_eq_true rfl⟩) hP hD hS hA (fun u2 H locs hv hP hD hS => ?_)
    obtain ⟨hv, hz⟩ := hv
    have hZ := hZ.tr hz
    rw [← hv] at hE hp
    dsimp only at hE hp
    exact B_Y4_renew_5a u2 x1 _ _ _ hE hp hZ hP hD hS (lv_sub hl [0, 1] rfl)
  exact B_M S0 a1 _ _ _ hX hp (eK.rf S0) hP hD hS hl
theorem gdX4_become_0 : ckS (List.drop 0 cX4_become.data.toList) 0 [(0, .aload_n 0, 1), (1, .aload_n 1, 1), (2, .getfield 30, 3), (5, .putfield 30, 3), (8, .aload_n 0, 1), (9, .aload_n 1, 1), (10, .getfield 33, 3), (13, .putfield 33, 3), (16, .aload_n 0, 1), (17, .aload_n 1, 1), (18, .getfield 36, 3), (21, .putfield 36, 3), (24, .aload_n 0, 1), (25, .aload_n 1, 1), (26, .getfield 39, 3), (29, .putfield 39, 3), (32, .aload_n 0, 1), (33, .aload_n 1, 1), (34, .getfield 42, 3), (37, .putfield 42, 3), (40, .aload_n 0, 1), (41, .aload_n 1, 1), (42, .getfield 45, 3), (45, .putfield 45, 3), (48, .aload_n 0, 1), (49, .aload_n 1, 1), (50, .getfield 48, 3), (53, .putfield 48, 3), (56, .aload_n 0, 1), (57, .aload_n 1, 1), (58, .getfield 51, 3), (61, .putfield 51, 3), (64, .aload_n 0, 1), (65, .aload_n 1, 1), (66, .getfield 55, 3), (69, .putfield 55, 3), (72, .aload_n 0, 1), (73, .aload_n 1, 1), (74, .getfield 58, 3), (77, .putfield 58, 3)] = true := by decide +kernel
theorem dX4_become_0 : decode cX4_become 0 = .ok (.aload_n 0, 1) := ckS_g gdX4_become_0 0 rfl
theorem dX4_become_1 : decode cX4_become 1 = .ok (.aload_n 1, 1) := ckS_g gdX4_become_0 1 rfl
theorem dX4_become_2 : decode cX4_become 2 = .ok (.getfield 30, 3) := ckS_g gdX4_become_0 2 rfl
theorem dX4_become_5 : decode cX4_become 5 = .ok (.putfield 30, 3) := ckS_g gdX4_become_0 3 rfl
theorem dX4_become_8 : decode cX4_become 8 = .ok (.aload_n 0, 1) := ckS_g gdX4_become_0 4 rfl
theorem dX4_become_9 : decode cX4_become 9 = .ok (.aload_n 1, 1) := ckS_g gdX4_become_0 5 rfl
theorem dX4_become_10 : decode cX4_become 10 = .ok (.getfield 33, 3) := ckS_g gdX4_become_0 6 rfl
theorem dX4_become_13 : decode cX4_become 13 = .ok (.putfield 33, 3) := ckS_g gdX4_become_0 7 rfl
theorem dX4_become_16 : decode cX4_become 16 = .ok (.aload_n 0, 1) := ckS_g gdX4_become_0 8 rfl
theorem dX4_become_17 : decode cX4_become 17 = .ok (.aload_n 1, 1) := ckS_g gdX4_become_0 9 rfl
theorem dX4_become_18 : decode cX4_become 18 = .ok (.getfield 36, 3) := ckS_g gdX4_become_0 10 rfl
theorem dX4_become_21 : decode cX4_become 21 = .ok (.putfield 36, 3) := ckS_g gdX4_become_0 11 rfl
theorem dX4_become_24 : decode cX4_become 24 = .ok (.aload_n 0, 1) := ckS_g gdX4_become_0 12 rfl
theorem dX4_become_25 : decode cX4_become 25 = .ok (.aload_n 1, 1) := ckS_g gdX4_become_0 13 rfl
theorem dX4_become_26 : decode cX4_become 26 = .ok (.getfield 39, 3) := ckS_g gdX4_become_0 14 rfl
theorem dX4_become_29 : decode cX4_become 29 = .ok (.putfield 39, 3) := ckS_g gdX4_become_0 15 rfl
theorem dX4_become_32 : decode cX4_become 32 = .ok (.aload_n 0, 1) := ckS_g gdX4_become_0 16 rfl
theorem dX4_become_33 : decode cX4_become 33 = .ok (.aload_n 1, 1) := ckS_g gdX4_become_0 17 rfl
theorem dX4_become_34 : decode cX4_become 34 = .ok (.getfield 42, 3) := ckS_g gdX4_become_0 18 rfl
theorem dX4_become_37 : decode cX4_become 37 = .ok (.putfield 42, 3) := ckS_g gdX4_become_0 19 rfl
theorem dX4_become_40 : decode cX4_become 40 = .ok (.aload_n 0, 1) := ckS_g gdX4_become_0 20 rfl
theorem dX4_become_41 : decode cX4_become 41 = .ok (.aload_n 1, 1) := ckS_g gdX4_become_0 21 rfl
theorem dX4_become_42 : decode cX4_become 42 = .ok (.getfield 45, 3) := ckS_g gdX4_become_0 22 rfl
theorem dX4_become_45 : decode cX4_become 45 = .ok (.putfield 45, 3) := ckS_g gdX4_become_0 23 rfl
theorem dX4_become_48 : decode cX4_become 48 = .ok (.aload_n 0, 1) := ckS_g gdX4_become_0 24 rfl
theorem dX4_become_49 : decode cX4_become 49 = .ok (.aload_n 1, 1) := ckS_g gdX4_become_0 25 rfl
theorem dX4_become_50 : decode cX4_become 50 = .ok (.getfield 48, 3) := ckS_g gdX4_become_0 26 rfl
theorem dX4_become_53 : decode cX4_become 53 = .ok (.putfield 48, 3) := ckS_g gdX4_become_0 27 rfl
theorem dX4_become_56 : decode cX4_become 56 = .ok (.aload_n 0, 1) := ckS_g gdX4_become_0 28 rfl
theorem dX4_become_57 : decode cX4_become 57 = .ok (.aload_n 1, 1) := ckS_g gdX4_become_0 29 rfl
theorem dX4_become_58 : decode cX4_become 58 = .ok (.getfield 51, 3) := ckS_g gdX4_become_0 30 rfl
theorem dX4_become_61 : decode cX4_become 61 = .ok (.putfield 51, 3) := ckS_g gdX4_become_0 31 rfl
theorem dX4_become_64 : decode cX4_become 64 = .ok (.aload_n 0, 1) := ckS_g gdX4_become_0 32 rfl
theorem dX4_become_65 : decode cX4_become 65 = .ok (.aload_n 1, 1) := ckS_g gdX4_become_0 33 rfl
theorem dX4_become_66 : decode cX4_become 66 = .ok (.getfield 55, 3) := ckS_g gdX4_become_0 34 rfl
theorem dX4_become_69 : decode cX4_become 69 = .ok (.putfield 55, 3) := ckS_g gdX4_become_0 35 rfl
theorem dX4_become_72 : decode cX4_become 72 = .ok (.aload_n 0, 1) := ckS_g gdX4_become_0 36 rfl
theorem dX4_become_73 : decode cX4_become 73 = .ok (.aload_n 1, 1) := ckS_g gdX4_become_0 37 rfl
theorem dX4_become_74 : decode cX4_become 74 = .ok (.getfield 58, 3) := ckS_g gdX4_become_0 38 rfl
theorem dX4_become_77 : decode cX4_become 77 = .ok (.putfield 58, 3) := ckS_g gdX4_become_0 39 rfl
theorem gdX4_become_80 : ckS (List.drop 80 cX4_become.data.toList) 80 [(80, .aload_n 0, 1), (81, .aload_n 1, 1), (82, .getfield 61, 3), (85, .putfield 61, 3), (88, .aload_n 0, 1), (89, .aload_n 1, 1), (90, .getfield 64, 3), (93, .putfield 64, 3), (96, .aload_n 0, 1), (97, .getfield 12, 3), (100, .aload_n 1, 1), (101, .getfield 12, 3), (104, .invokevirtual 76, 3)] = true := by decide +kernel
theorem dX4_become_80 : decode cX4_become 80 = .ok (.aload_n 0, 1) := ckS_g gdX4_become_80 0 rfl
theorem dX4_become_81 : decode cX4_become 81 = .ok (.aload_n 1, 1) := ckS_g gdX4_become_80 1 rfl
theorem dX4_become_82 : decode cX4_become 82 = .ok (.getfield 61, 3) := ckS_g gdX4_become_80 2 rfl
theorem dX4_become_85 : decode cX4_become 85 = .ok (.putfield 61, 3) := ckS_g gdX4_become_80 3 rfl
theorem dX4_become_88 : decode cX4_become 88 = .ok (.aload_n 0, 1) := ckS_g gdX4_become_80 4 rfl
theorem dX4_become_89 : decode cX4_become 89 = .ok (.aload_n 1, 1) := ckS_g gdX4_become_80 5 rfl
theorem dX4_become_90 : decode cX4_become 90 = .ok (.getfield 64, 3) := ckS_g gdX4_become_80 6 rfl
theorem dX4_become_93 : decode cX4_become 93 = .ok (.putfield 64, 3) := ckS_g gdX4_become_80 7 rfl
theorem dX4_become_96 : decode cX4_become 96 = .ok (.aload_n 0, 1) := ckS_g gdX4_become_80 8 rfl
theorem dX4_become_97 : decode cX4_become 97 = .ok (.getfield 12, 3) := ckS_g gdX4_become_80 9 rfl
theorem dX4_become_100 : decode cX4_become 100 = .ok (.aload_n 1, 1) := ckS_g gdX4_become_80 10 rfl
theorem dX4_become_101 : decode cX4_become 101 = .ok (.getfield 12, 3) := ckS_g gdX4_become_80 11 rfl
theorem dX4_become_104 : decode cX4_become 104 = .ok (.invokevirtual 76, 3) := ckS_g gdX4_become_80 12 rfl
theorem gdX9_become_0 : ckS (List.drop 0 cX9_become.data.toList) 0 [(0, .aload_n 0, 1), (1, .iconst 0, 1), (2, .aload_n 1, 1), (3, .getfield 15, 3), (6, .aload_n 0, 1), (7, .getfield 9, 3), (10, .arraylength, 1), (11, .invokestatic 19, 3), (14, .invokestatic 25, 3), (17, .putfield 15, 3), (20, .aload_n 1, 1), (21, .getfield 9, 3), (24, .iconst 0, 1), (25, .aload_n 0, 1), (26, .getfield 9, 3), (29, .iconst 0, 1), (30, .aload_n 0, 1), (31, .getfield 15, 3), (34, .invokestatic 28, 3), (37, .return_, 1)] = true := by decide +kernel
theorem dX9_become_0 : decode cX9_become 0 = .ok (.aload_n 0, 1) := ckS_g gdX9_become_0 0 rfl
theorem dX9_become_1 : decode cX9_become 1 = .ok (.iconst 0, 1) := ckS_g gdX9_become_0 1 rfl
theorem dX9_become_2 : decode cX9_become 2 = .ok (.aload_n 1, 1) := ckS_g gdX9_become_0 2 rfl
theorem dX9_become_3 : decode cX9_become 3 = .ok (.getfield 15, 3) := ckS_g gdX9_become_0 3 rfl
theorem dX9_become_6 : decode cX9_become 6 = .ok (.aload_n 0, 1) := ckS_g gdX9_become_0 4 rfl
theorem dX9_become_7 : decode cX9_become 7 = .ok (.getfield 9, 3) := ckS_g gdX9_become_0 5 rfl
theorem dX9_become_10 : decode cX9_become 10 = .ok (.arraylength, 1) := ckS_g gdX9_become_0 6 rfl
theorem dX9_become_11 : decode cX9_become 11 = .ok (.invokestatic 19, 3) := ckS_g gdX9_become_0 7 rfl
theorem dX9_become_14 : decode cX9_become 14 = .ok (.invokestatic 25, 3) := ckS_g gdX9_become_0 8 rfl
theorem dX9_become_17 : decode cX9_become 17 = .ok (.putfield 15, 3) := ckS_g gdX9_become_0 9 rfl
theorem dX9_become_20 : decode cX9_become 20 = .ok (.aload_n 1, 1) := ckS_g gdX9_become_0 10 rfl
theorem dX9_become_21 : decode cX9_become 21 = .ok (.getfield 9, 3) := ckS_g gdX9_become_0 11 rfl
theorem dX9_become_24 : decode cX9_become 24 = .ok (.iconst 0, 1) := ckS_g gdX9_become_0 12 rfl
theorem dX9_become_25 : decode cX9_become 25 = .ok (.aload_n 0, 1) := ckS_g gdX9_become_0 13 rfl
theorem dX9_become_26 : decode cX9_become 26 = .ok (.getfield 9, 3) := ckS_g gdX9_become_0 14 rfl
theorem dX9_become_29 : decode cX9_become 29 = .ok (.iconst 0, 1) := ckS_g gdX9_become_0 15 rfl
theorem dX9_become_30 : decode cX9_become 30 = .ok (.aload_n 0, 1) := ckS_g gdX9_become_0 16 rfl
theorem dX9_become_31 : decode cX9_become 31 = .ok (.getfield 15, 3) := ckS_g gdX9_become_0 17 rfl
theorem dX9_become_34 : decode cX9_become 34 = .ok (.invokestatic 28, 3) := ckS_g gdX9_become_0 18 rfl
theorem dX9_become_37 : decode cX9_become 37 = .ok (.return_, 1) := ckS_g gdX9_become_0 19 rfl
set_option maxRecDepth 100000 in
theorem zc267 : wZ (.methodLink RX9 28 arraycopyName) := ⟨wT4 (List.mem_of_getElem? (i := 6) (by decide +kernel)), Or.inl rfl⟩
set_option maxRecDepth 100000 in
theorem zc268 : wZ (.code Lib.Math.max.name Lib.Math.max.code 2 (some .int)) := ⟨wT1 (List.mem_of_getElem? (i := 129) rfl), Or.inl rfl⟩
set_option maxRecDepth 100000 in
theorem zc269 : wZ (.static Lib.Math.max.name) := ⟨wT1 (List.mem_of_getElem? (i := 128) (by decide +kernel)), Or.inl rfl⟩
set_option maxRecDepth 100000 in
theorem zc270 : wZ (.methodLink RX9 25 Lib.Math.max.name) := ⟨wT4 (List.mem_of_getElem? (i := 5) (by decide +kernel)), Or.inl rfl⟩
set_option maxRecDepth 100000 in
theorem zc271 : wZ (.code Lib.Math.min.name Lib.Math.min.code 2 (some .int)) := ⟨wT3 (List.mem_of_getElem? (i := 196) rfl), Or.inl rfl⟩
set_option maxRecDepth 100000 in
theorem zc272 : wZ (.initialized "java/lang/Math") := ⟨wT1 (List.mem_of_getElem? (i := 7) (by decide +kernel)), Or.inl rfl⟩
set_option maxRecDepth 100000 in
theorem zc273 : wZ (.static Lib.Math.min.name) := ⟨wT3 (List.mem_of_getElem? (i := 195) (by decide +kernel)), Or.inl rfl⟩
set_option maxRecDepth 100000 in
theorem zc274 : wZ (.methodLink RX9 19 Lib.Math.min.name) := ⟨wT4 (List.mem_of_getElem? (i := 4) (by decide +kernel)), Or.inl rfl⟩
set_option maxRecDepth 100000 in
theorem zc275 : wZ (.code yX9_become cX9_become 2 none) := ⟨wT4 (List.mem_of_getElem? (i := 3) rfl), Or.inl rfl⟩
def b_Y9_become_20a (S : Cst) (x0 : Nat) (x1 : Nat)  : Int32 × Cst := (0, (sfC S ((grC S x0 0).getD 0) (va_cpy (giC S ((grC S x1 0).getD 0)) (giC S ((grC S x0 0).getD 0)) (0 : Int32).toNatClampNeg (0 : Int32).toNatClampNeg (giC S x0 1).toNatClampNeg)))
def q_Y9_become_20a (S : Cst) (x0 : Nat) (x1 : Nat)  : Prop := (iR S (grC S x1 0) 20) ∧ (iR S (grC S x0 0) 20) ∧ ((¬ (0 : Int32) < 0 ∧ ¬ (0 : Int32) < 0 ∧ ¬ (giC S x0 1) < 0) ∧ (0 : Int32).toNatClampNeg + (giC S x0 1).toNatClampNeg ≤ lnC S ((grC S x1 0).getD 0) ∧ (0 : Int32).toNatClampNeg + (giC S x0 1).toNatClampNeg ≤ lnC S ((grC S x0 0).getD 0)) ∧ True
def f_Y9_become (S : Cst) (x0 : Nat) (x1 : Nat) : Int32 × Cst := (b_Y9_become_20a (siC S x0 1 (if (0 : Int32) < (if (Int32.ofNat (lnC S ((grC S x0 0).getD 0))) < (giC S x1 1) then (Int32.ofNat (lnC S ((grC S x0 0).getD 0))) else (giC S x1 1)) then (if (Int32.ofNat (lnC S ((grC S x0 0).getD 0))) < (giC S x1 1) then (Int32.ofNat (lnC S ((grC S x0 0).getD 0))) else (giC S x1 1)) else (0 : Int32))) x0 x1)
def p_Y9_become (S : Cst) (x0 : Nat) (x1 : Nat) : Prop := (iR S (grC S x0 0) 20) ∧ (q_Y9_become_20a (siC S x0 1 (if (0 : Int32) < (if (Int32.ofNat (lnC S ((grC S x0 0).getD 0))) < (giC S x1 1) then (Int32.ofNat (lnC S ((grC S x0 0).getD 0))) else (giC S x1 1)) then (if (Int32.ofNat (lnC S ((grC S x0 0).getD 0))) < (giC S x1 1) then (Int32.ofNat (lnC S ((grC S x0 0).getD 0))) else (giC S x1 1)) else (0 : Int32))) x0 x1)
def e_Y9_become : List Cond := [.fieldLink RX9 15 "MotionFloor$Text" "size" "I", .fieldLink RX9 9 "MotionFloor$Text" "words" "[I", .methodLink RX9 19 Lib.Math.min.name, .static Lib.Math.min.name, .initialized "java/lang/Math", .code Lib.Math.min.name Lib.Math.min.code 2 (some .int), .methodLink RX9 25 Lib.Math.max.name, .static Lib.Math.max.name, .code Lib.Math.max.name Lib.Math.max.code 2 (some .int), .methodLink RX9 28 arraycopyName, .native arraycopyName, .static arraycopyName, .initialized "java/lang/System"]
def v_Y9_become : List Cond := .code yX9_become cX9_become 2 none :: (e_Y9_become ++ (wsX90 ++ []))
theorem te_Y9_become : GoodIn lw_tbl e_Y9_become := wGc zc120 (wGc zc119 (wGc zc274 (wGc zc273 (wGc zc272 (wGc zc271 (wGc zc270 (wGc zc269 (wGc zc268 (wGc zc267 (wGc zc207 (wGc zc206 (wGc zc205 (wG0)))))))))))))
theorem t_Y9_become : GoodIn lw_tbl v_Y9_become := wGc zc275 (wGa te_Y9_become (wGa zcX9 (wG0)))
set_option maxHeartbeats 4000000 in
set_option maxRecDepth 100000 in
theorem c_Y9_become (l : Launch) (G : va_G) (K : Nat → ClassId) (ad : Nat → Nat) (S0 : Cst) (x0 : Nat) (x1 : Nat)  (sz : Nat) : Met l yX9_become v_Y9_become ({ frames := 1, cells := 0, slots := 0, locals := 60 }) (va_Pc [.ref (ad x0), .ref (ad x1)] (cSt G K ad sz S0 (iK S0 x0 6 ∧ iK S0 x1 6 ∧ p_Y9_become S0 x0 x1))) (va_Qv (fun u : Cst => (0, u) = f_Y9_become S0 x0 x1 ∧ eK S0 u) (cBt G K ad (va_A (wsC K ad S0) sz)) (va_A (wsC K ad S0) sz)) 0 0 (va_A (wsC K ad S0) sz) := by
  refine Met.ofW (cc := cX9_become) (maxL := 2) (ret := none) (by decide) rfl ?_
  intro p e s m args below meth c s₁ B hml hv
  obtain ⟨rfl, ⟨hsz, hP, hK, hD0, hTE⟩, hp⟩ := hv
  obtain ⟨k_x0, hp⟩ := hp
  obtain ⟨k_x1, hp⟩ := hp
  have hx := B.exec
  have hb := B.bytes
  have hr := B.returns
  have hts := atoms_spec (ws := v_Y9_become) B.pre
  have t_ := t_Y9_become
  have mw : ∀ w ∈ e_Y9_become, w ∈ v_Y9_become := fun w h => List.mem_cons_of_mem _ (List.mem_append_left _ h)
  have hw := fun w (h : w ∈ e_Y9_become) => hts w (mw w h)
  have iX9 : ∀ w ∈ wsX90, w ∈ v_Y9_become := fun w h => List.mem_cons_of_mem _ (List.mem_append_right _ (List.mem_append_left _ h))
  have hown : s.vm.findClass RX9 = some m.cls := findClass_of_methodNamed B.named
  have hlocks := B.notSynchronized
  subst hsz
  have hD := hD0.self (sz := s.heap.size)
  generalize hAe : va_A (wsC K ad S0) s.heap.size = A at hD ⊢
  have hA : ∀ q : Nat, s.heap.size ≤ q → A q := fun q h => by rw [← hAe]; exact Or.inr h
  have hS : va_S A s.heap s.heap [] := va_S.rf
  have hl : lv_has (lg_sl ([.ref (ad x0), .ref (ad x1)]) ++ List.replicate (2 - (lg_sl ([.ref (ad x0), .ref (ad x1)])).length) Slot.unset).toArray 2 [(0, .ref (ad x0)), (1, .ref (ad x1))] := by
    exact lv_entry ([.ref (ad x0), .ref (ad x1)]) (n := 2) (Nat.le_of_ble_eq_true rfl)
  rw [lg_entry_eq]
  generalize (lg_sl ([.ref (ad x0), .ref (ad x1)]) ++ List.replicate (2 - (lg_sl ([.ref (ad x0), .ref (ad x1)])).length) Slot.unset).toArray = ls_ at hl ⊢
  refine wGen (fun Q hQ => ?_)
  obtain ⟨X, hX⟩ : ∃ X, f_Y9_become S0 x0 x1 = X := ⟨_, rfl⟩
  have B_Y9_become_20a : ∀ (S : Cst)  (H : Heap) (locs : List Loc) (ls_ : Array Slot), b_Y9_become_20a S x0 x1 = X → q_Y9_become_20a S x0 x1 → eK S0 S → va_P G vwCl (wsC K ad S) H → va_D A (wsC K ad S) → va_S A s.heap H locs → lv_has ls_ 2 [(0, .ref (ad x0)), (1, .ref (ad x1))] → W p l e ({ frames := 1, cells := 0, slots := 0, locals := 60 } : Room) s m #[Value.ref (ad x0), Value.ref (ad x1)] below meth c H locs 0 0 Q (F0 m 20 ls_ []) := by
    intro S H locs ls_ hE hp hZ hP hD hS hl
    unfold b_Y9_become_20a at hE
    unfold q_Y9_become_20a at hp
    refine lv_aload_n hx hb dX9_become_20 rfl (lv_at hl 1 rfl) ?_
    refine va_get (D := G) (ci := 6) (v := va_re ad (grC S x1 0)) (C := RX9) (T := TX9) (N := 2) hx hb hts iX9 hown hK hP x1 (at_6 (k_x1.e hZ)) rfl 0 (by decide) (hw (.fieldLink RX9 9 "MotionFloor$Text" "words" "[I") (List.mem_of_getElem? (i := 1) rfl)) (fun _ h9 => h9) rfl dX9_become_21 ?_
    refine lv_iconst (v := 0) hx hb dX9_become_24 (by decide) ?_
    refine lv_aload_n hx hb dX9_become_25 rfl (lv_at hl 0 rfl) ?_
    refine va_get (D := G) (ci := 6) (v := va_re ad (grC S x0 0)) (C := RX9) (T := TX9) (N := 2) hx hb hts iX9 hown hK hP x0 (at_6 (k_x0.e hZ)) rfl 0 (by decide) (hw (.fieldLink RX9 9 "MotionFloor$Text" "words" "[I") (List.mem_of_getElem? (i := 1) rfl)) (fun _ h9 => h9) rfl dX9_become_26 ?_
    refine lv_iconst (v := 0) hx hb dX9_become_29 (by decide) ?_
    refine lv_aload_n hx hb dX9_become_30 rfl (lv_at hl 0 rfl) ?_
    refine va_get (D := G) (ci := 6) (v := .int (giC S x0 1)) (C := RX9) (T := TX9) (N := 2) hx hb hts iX9 hown hK hP x0 (at_6 (k_x0.e hZ)) rfl 1 (by decide) (hw (.fieldLink RX9 15 "MotionFloor$Text" "size" "I") (List.mem_of_getElem? (i := 0) rfl)) (fun _ h9 => h9) rfl dX9_become_31 ?_
    obtain ⟨hy2, hp⟩ := hp
    refine cTop5 (r := (grC S x1 0)) hy2.1 ?_
    obtain ⟨hy3, hp⟩ := hp
    refine cTop3 (r := (grC S x0 0)) hy3.1 ?_
    obtain ⟨hy4, hp⟩ := hp
    refine va_copyi hx hb (by rw [hml]; exact hl.1.symm) hown (hw (.methodLink RX9 28 arraycopyName) (List.mem_of_getElem? (i := 9) rfl)) (hw (.native arraycopyName) (List.mem_of_getElem? (i := 10) rfl)) (hw (.static arraycopyName) (List.mem_of_getElem? (i := 11) rfl)) (hw (.initialized "java/lang/System") (List.mem_of_getElem? (i := 12) rfl)) hK hP hD hS ((grC S x1 0).getD 0) ((grC S x0 0).getD 0) 0 0 (at_20 hy2.2) (at_20 hy3.2) rfl rfl rfl hy4.1.1 hy4.1.2.1 hy4.1.2.2 hy4.2.1 hy4.2.2 (fun i hi => rfl) (Nat.le_of_ble_eq_true rfl) (Nat.le_of_ble_eq_true rfl) dX9_become_34 (fun H locs hP hD hS => ?_)
    rw [sf_20 hy3.2] at hP hD
    have hZ := hZ.tr (eK.sf S ((grC S x0 0).getD 0) (va_cpy (giC S ((grC S x1 0).getD 0)) (giC S ((grC S x0 0).getD 0)) (0 : Int32).toNatClampNeg (0 : Int32).toNatClampNeg (giC S x0 1).toNatClampNeg))
    subst hQ
    exact W.vret hx hb hr (fun t ht hW => ⟨⟨(sfC S ((grC S x0 0).getD 0) (va_cpy (giC S ((grC S x1 0).getD 0)) (giC S ((grC S x0 0).getD 0)) (0 : Int32).toNatClampNeg (0 : Int32).toNatClampNeg (giC S x0 1).toNatClampNeg)), rfl, ⟨hE.trans hX.symm, hZ⟩, by rw [ht]; exact hP, hD⟩, hS.F ht⟩) hS.2.2 dX9_become_37
  have B_M : ∀ (S : Cst) (H : Heap) (locs : List Loc) (ls_ : Array Slot), f_Y9_become S x0 x1 = X → p_Y9_become S x0 x1 → eK S0 S → va_P G vwCl (wsC K ad S) H → va_D A (wsC K ad S) → va_S A s.heap H locs → lv_has ls_ 2 [(0, .ref (ad x0)), (1, .ref (ad x1))] → W p l e ({ frames := 1, cells := 0, slots := 0, locals := 60 } : Room) s m #[Value.ref (ad x0), Value.ref (ad x1)] below meth c H locs 0 0 Q (F0 m 0 ls_ []) := by
    intro S H locs ls_ hE hp hZ hP hD hS hl
    unfold f_Y9_become at hE
    unfold p_Y9_become at hp
    refine lv_aload_n hx hb dX9_become_0 rfl (lv_at hl 0 rfl) ?_
    refine lv_iconst (v := 0) hx hb dX9_become_1 (by decide) ?_
    refine lv_aload_n hx hb dX9_become_2 rfl (lv_at hl 1 rfl) ?_
    refine va_get (D := G) (ci := 6) (v := .int (giC S x1 1)) (C := RX9) (T := TX9) (N := 2) hx hb hts iX9 hown hK hP x1 (at_6 (k_x1.e hZ)) rfl 1 (by decide) (hw (.fieldLink RX9 15 "MotionFloor$Text" "size" "I") (List.mem_of_getElem? (i := 0) rfl)) (fun _ h9 => h9) rfl dX9_become_3 ?_
    refine lv_aload_n hx hb dX9_become_6 rfl (lv_at hl 0 rfl) ?_
    refine va_get (D := G) (ci := 6) (v := va_re ad (grC S x0 0)) (C := RX9) (T := TX9) (N := 2) hx hb hts iX9 hown hK hP x0 (at_6 (k_x0.e hZ)) rfl 0 (by decide) (hw (.fieldLink RX9 9 "MotionFloor$Text" "words" "[I") (List.mem_of_getElem? (i := 1) rfl)) (fun _ h9 => h9) rfl dX9_become_7 ?_
    obtain ⟨hy1, hp⟩ := hp
    refine cTop (r := (grC S x0 0)) hy1.1 ?_
    refine va_alen (v := (Int32.ofNat (lnC S ((grC S x0 0).getD 0)))) hx hb hK hP ((grC S x0 0).getD 0) 0 (at_20 hy1.2) rfl rfl dX9_become_10 ?_
    refine va_mmin hx hb (by rw [hml]; exact hl.1.symm) hown (hw (.methodLink RX9 19 Lib.Math.min.name) (List.mem_of_getElem? (i := 2) rfl)) (hw (.static Lib.Math.min.name) (List.mem_of_getElem? (i := 3) rfl)) (hw (.initialized "java/lang/Math") (List.mem_of_getElem? (i := 4) rfl)) (hw (.code Lib.Math.min.name Lib.Math.min.code 2 (some .int)) (List.mem_of_getElem? (i := 5) rfl)) (Nat.le_of_ble_eq_true rfl) (Nat.le_of_ble_eq_true rfl) (Nat.le_of_ble_eq_true rfl) (Nat.le_of_ble_eq_true rfl) dX9_become_11 ?_
    refine va_mmax hx hb (by rw [hml]; exact hl.1.symm) hown (hw (.methodLink RX9 25 Lib.Math.max.name) (List.mem_of_getElem? (i := 6) rfl)) (hw (.static Lib.Math.max.name) (List.mem_of_getElem? (i := 7) rfl)) (hw (.initialized "java/lang/Math") (List.mem_of_getElem? (i := 4) rfl)) (hw (.code Lib.Math.max.name Lib.Math.max.code 2 (some .int)) (List.mem_of_getElem? (i := 8) rfl)) (Nat.le_of_ble_eq_true rfl) (Nat.le_of_ble_eq_true rfl) (Nat.le_of_ble_eq_true rfl) (Nat.le_of_ble_eq_true rfl) dX9_become_14 ?_
    refine va_put (D := G) (ci := 6) (v := .int (if (0 : Int32) < (if (Int32.ofNat (lnC S ((grC S x0 0).getD 0))) < (giC S x1 1) then (Int32.ofNat (lnC S ((grC S x0 0).getD 0))) else (giC S x1 1)) then (if (Int32.ofNat (lnC S ((grC S x0 0).getD 0))) < (giC S x1 1) then (Int32.ofNat (lnC S ((grC S x0 0).getD 0))) else (giC S x1 1)) else (0 : Int32))) (ty := .int) (C := RX9) (T := TX9) (N := 2) hx hb hts iX9 tyX9 tyX9_ok nmX9 hown hK hP hD hS x0 (at_6 (k_x0.e hZ)) rfl 1 (by decide) (hw (.fieldLink RX9 15 "MotionFloor$Text" "size" "I") (List.mem_of_getElem? (i := 0) rfl)) (fun _ h9 => h9) rfl (by decide +kernel) rfl rfl (Nat.le_of_ble_eq_true rfl) dX9_become_17 (fun H locs hP hD hS => ?_)
    rw [st_6_1 (k_x0.e hZ)] at hP hD
    have hZ := hZ.tr (eK.si S x0 1 (if (0 : Int32) < (if (Int32.ofNat (lnC S ((grC S x0 0).getD 0))) < (giC S x1 1) then (Int32.ofNat (lnC S ((grC S x0 0).getD 0))) else (giC S x1 1)) then (if (Int32.ofNat (lnC S ((grC S x0 0).getD 0))) < (giC S x1 1) then (Int32.ofNat (lnC S ((grC S x0 0).getD 0))) else (giC S x1 1)) else (0 : Int32)))
    exact B_Y9_become_20a (siC S x0 1 (if (0 : Int32) < (if (Int32.ofNat (lnC S ((grC S x0 0).getD 0))) < (giC S x1 1) then (Int32.ofNat (lnC S ((grC S x0 0).getD 0))) else (giC S x1 1)) then (if (Int32.ofNat (lnC S ((grC S x0 0).getD 0))) < (giC S x1 1) then (Int32.ofNat (lnC S ((grC S x0 0).getD 0))) else (giC S x1 1)) else (0 : Int32))) _ _ _ hE hp hZ hP hD hS (lv_sub hl [0, 1] rfl)
  exact B_M S0 _ _ _ hX hp (eK.rf S0) hP hD hS hl
theorem gdX4_become_107 : ckS (List.drop 107 cX4_become.data.toList) 107 [(107, .aload_n 1, 1), (108, .getfield 18, 3), (111, .iconst 0, 1), (112, .aload_n 0, 1), (113, .getfield 18, 3), (116, .iconst 0, 1), (117, .aload_n 0, 1), (118, .getfield 18, 3), (121, .arraylength, 1), (122, .invokestatic 80, 3), (125, .aload_n 0, 1), (126, .aload_n 1, 1), (127, .getfield 67, 3), (130, .putfield 67, 3), (133, .return_, 1)] = true := by decide +kernel
theorem dX4_become_107 : decode cX4_become 107 = .ok (.aload_n 1, 1) := ckS_g gdX4_become_107 0 rfl
theorem dX4_become_108 : decode cX4_become 108 = .ok (.getfield 18, 3) := ckS_g gdX4_become_107 1 rfl
theorem dX4_become_111 : decode cX4_become 111 = .ok (.iconst 0, 1) := ckS_g gdX4_become_107 2 rfl
theorem dX4_become_112 : decode cX4_become 112 = .ok (.aload_n 0, 1) := ckS_g gdX4_become_107 3 rfl
theorem dX4_become_113 : decode cX4_become 113 = .ok (.getfield 18, 3) := ckS_g gdX4_become_107 4 rfl
theorem dX4_become_116 : decode cX4_become 116 = .ok (.iconst 0, 1) := ckS_g gdX4_become_107 5 rfl
theorem dX4_become_117 : decode cX4_become 117 = .ok (.aload_n 0, 1) := ckS_g gdX4_become_107 6 rfl
theorem dX4_become_118 : decode cX4_become 118 = .ok (.getfield 18, 3) := ckS_g gdX4_become_107 7 rfl
theorem dX4_become_121 : decode cX4_become 121 = .ok (.arraylength, 1) := ckS_g gdX4_become_107 8 rfl
theorem dX4_become_122 : decode cX4_become 122 = .ok (.invokestatic 80, 3) := ckS_g gdX4_become_107 9 rfl
theorem dX4_become_125 : decode cX4_become 125 = .ok (.aload_n 0, 1) := ckS_g gdX4_become_107 10 rfl
theorem dX4_become_126 : decode cX4_become 126 = .ok (.aload_n 1, 1) := ckS_g gdX4_become_107 11 rfl
theorem dX4_become_127 : decode cX4_become 127 = .ok (.getfield 67, 3) := ckS_g gdX4_become_107 12 rfl
theorem dX4_become_130 : decode cX4_become 130 = .ok (.putfield 67, 3) := ckS_g gdX4_become_107 13 rfl
theorem dX4_become_133 : decode cX4_become 133 = .ok (.return_, 1) := ckS_g gdX4_become_107 14 rfl
set_option maxRecDepth 100000 in
theorem zc276 : wZ (.methodLink RX4 80 arraycopyName) := ⟨wT5 (List.mem_of_getElem? (i := 9) (by decide +kernel)), Or.inl rfl⟩
set_option maxRecDepth 100000 in
theorem zc277 : wZ (.selects RX9 yX9_become yX9_become) := ⟨wT4 (List.mem_of_getElem? (i := 2) (by decide +kernel)), Or.inl rfl⟩
set_option maxRecDepth 100000 in
theorem zc278 : wZ (.instanceMethod yX9_become) := ⟨wT4 (List.mem_of_getElem? (i := 1) (by decide +kernel)), Or.inl rfl⟩
set_option maxRecDepth 100000 in
theorem zc279 : wZ (.methodLink RX4 76 yX9_become) := ⟨wT5 (List.mem_of_getElem? (i := 8) (by decide +kernel)), Or.inl rfl⟩
set_option maxRecDepth 100000 in
theorem zc280 : wZ (.code yX4_become cX4_become 2 none) := ⟨wT5 (List.mem_of_getElem? (i := 7) rfl), Or.inl rfl⟩
def b_Y4_become_133a (S : Cst) (x0 : Nat) (x1 : Option Nat) : Int32 × Cst := (0, S)
def q_Y4_become_133a (S : Cst) (x0 : Nat) (x1 : Option Nat) : Prop := True
def b_Y4_become_107a (S : Cst) (x0 : Nat) (x1 : Option Nat) : Int32 × Cst := (b_Y4_become_133a (siC (sfC S ((grC S x0 13).getD 0) (va_cpy (giC S ((grC S (x1.getD 0) 13).getD 0)) (giC S ((grC S x0 13).getD 0)) (0 : Int32).toNatClampNeg (0 : Int32).toNatClampNeg (Int32.ofNat (lnC S ((grC S x0 13).getD 0))).toNatClampNeg)) x0 14 (giC (sfC S ((grC S x0 13).getD 0) (va_cpy (giC S ((grC S (x1.getD 0) 13).getD 0)) (giC S ((grC S x0 13).getD 0)) (0 : Int32).toNatClampNeg (0 : Int32).toNatClampNeg (Int32.ofNat (lnC S ((grC S x0 13).getD 0))).toNatClampNeg)) (x1.getD 0) 14)) x0 x1)
def q_Y4_become_107a (S : Cst) (x0 : Nat) (x1 : Option Nat) : Prop := (iR S x1 3) ∧ (iR S (grC S x0 13) 22) ∧ (iR S (grC S (x1.getD 0) 13) 22) ∧ (iR S (grC S x0 13) 22) ∧ ((¬ (0 : Int32) < 0 ∧ ¬ (0 : Int32) < 0 ∧ ¬ (Int32.ofNat (lnC S ((grC S x0 13).getD 0))) < 0) ∧ (0 : Int32).toNatClampNeg + (Int32.ofNat (lnC S ((grC S x0 13).getD 0))).toNatClampNeg ≤ lnC S ((grC S (x1.getD 0) 13).getD 0) ∧ (0 : Int32).toNatClampNeg + (Int32.ofNat (lnC S ((grC S x0 13).getD 0))).toNatClampNeg ≤ lnC S ((grC S x0 13).getD 0)) ∧ (∀ i, i < (Int32.ofNat (lnC S ((grC S x0 13).getD 0))).toNatClampNeg → fits .byte (.int (giC S ((grC S (x1.getD 0) 13).getD 0) ((0 : Int32).toNatClampNeg + i))) = true) ∧ (iR (sfC S ((grC S x0 13).getD 0) (va_cpy (giC S ((grC S (x1.getD 0) 13).getD 0)) (giC S ((grC S x0 13).getD 0)) (0 : Int32).toNatClampNeg (0 : Int32).toNatClampNeg (Int32.ofNat (lnC S ((grC S x0 13).getD 0))).toNatClampNeg)) x1 3) ∧ (q_Y4_become_133a (siC (sfC S ((grC S x0 13).getD 0) (va_cpy (giC S ((grC S (x1.getD 0) 13).getD 0)) (giC S ((grC S x0 13).getD 0)) (0 : Int32).toNatClampNeg (0 : Int32).toNatClampNeg (Int32.ofNat (lnC S ((grC S x0 13).getD 0))).toNatClampNeg)) x0 14 (giC (sfC S ((grC S x0 13).getD 0) (va_cpy (giC S ((grC S (x1.getD 0) 13).getD 0)) (giC S ((grC S x0 13).getD 0)) (0 : Int32).toNatClampNeg (0 : Int32).toNatClampNeg (Int32.ofNat (lnC S ((grC S x0 13).getD 0))).toNatClampNeg)) (x1.getD 0) 14)) x0 x1)
def b_Y4_become_96a (S : Cst) (x0 : Nat) (x1 : Option Nat) : Int32 × Cst := (b_Y4_become_107a ((f_Y9_become S ((grC S x0 12).getD 0) ((grC S (x1.getD 0) 12).getD 0)).2) x0 x1)
def q_Y4_become_96a (S : Cst) (x0 : Nat) (x1 : Option Nat) : Prop := (iR S x1 3) ∧ (iR S (grC S x0 12) 6) ∧ (iR S (grC S (x1.getD 0) 12) 6) ∧ (p_Y9_become S ((grC S x0 12).getD 0) ((grC S (x1.getD 0) 12).getD 0)) ∧ (q_Y4_become_107a ((f_Y9_become S ((grC S x0 12).getD 0) ((grC S (x1.getD 0) 12).getD 0)).2) x0 x1)
def b_Y4_become_64a (S : Cst) (x0 : Nat) (x1 : Option Nat) : Int32 × Cst := (b_Y4_become_96a (siC (siC (siC (siC S x0 8 (giC S (x1.getD 0) 8)) x0 9 (giC (siC S x0 8 (giC S (x1.getD 0) 8)) (x1.getD 0) 9)) x0 10 (giC (siC (siC S x0 8 (giC S (x1.getD 0) 8)) x0 9 (giC (siC S x0 8 (giC S (x1.getD 0) 8)) (x1.getD 0) 9)) (x1.getD 0) 10)) x0 11 (giC (siC (siC (siC S x0 8 (giC S (x1.getD 0) 8)) x0 9 (giC (siC S x0 8 (giC S (x1.getD 0) 8)) (x1.getD 0) 9)) x0 10 (giC (siC (siC S x0 8 (giC S (x1.getD 0) 8)) x0 9 (giC (siC S x0 8 (giC S (x1.getD 0) 8)) (x1.getD 0) 9)) (x1.getD 0) 10)) (x1.getD 0) 11)) x0 x1)
def q_Y4_become_64a (S : Cst) (x0 : Nat) (x1 : Option Nat) : Prop := (iR S x1 3) ∧ (iR (siC S x0 8 (giC S (x1.getD 0) 8)) x1 3) ∧ (iR (siC (siC S x0 8 (giC S (x1.getD 0) 8)) x0 9 (giC (siC S x0 8 (giC S (x1.getD 0) 8)) (x1.getD 0) 9)) x1 3) ∧ (narrow .boolean (.int (giC (siC (siC S x0 8 (giC S (x1.getD 0) 8)) x0 9 (giC (siC S x0 8 (giC S (x1.getD 0) 8)) (x1.getD 0) 9)) (x1.getD 0) 10)) = .int (giC (siC (siC S x0 8 (giC S (x1.getD 0) 8)) x0 9 (giC (siC S x0 8 (giC S (x1.getD 0) 8)) (x1.getD 0) 9)) (x1.getD 0) 10) ∧ fits .boolean (.int (giC (siC (siC S x0 8 (giC S (x1.getD 0) 8)) x0 9 (giC (siC S x0 8 (giC S (x1.getD 0) 8)) (x1.getD 0) 9)) (x1.getD 0) 10)) = true) ∧ (iR (siC (siC (siC S x0 8 (giC S (x1.getD 0) 8)) x0 9 (giC (siC S x0 8 (giC S (x1.getD 0) 8)) (x1.getD 0) 9)) x0 10 (giC (siC (siC S x0 8 (giC S (x1.getD 0) 8)) x0 9 (giC (siC S x0 8 (giC S (x1.getD 0) 8)) (x1.getD 0) 9)) (x1.getD 0) 10)) x1 3) ∧ (narrow .boolean (.int (giC (siC (siC (siC S x0 8 (giC S (x1.getD 0) 8)) x0 9 (giC (siC S x0 8 (giC S (x1.getD 0) 8)) (x1.getD 0) 9)) x0 10 (giC (siC (siC S x0 8 (giC S (x1.getD 0) 8)) x0 9 (giC (siC S x0 8 (giC S (x1.getD 0) 8)) (x1.getD 0) 9)) (x1.getD 0) 10)) (x1.getD 0) 11)) = .int (giC (siC (siC (siC S x0 8 (giC S (x1.getD 0) 8)) x0 9 (giC (siC S x0 8 (giC S (x1.getD 0) 8)) (x1.getD 0) 9)) x0 10 (giC (siC (siC S x0 8 (giC S (x1.getD 0) 8)) x0 9 (giC (siC S x0 8 (giC S (x1.getD 0) 8)) (x1.getD 0) 9)) (x1.getD 0) 10)) (x1.getD 0) 11) ∧ fits .boolean (.int (giC (siC (siC (siC S x0 8 (giC S (x1.getD 0) 8)) x0 9 (giC (siC S x0 8 (giC S (x1.getD 0) 8)) (x1.getD 0) 9)) x0 10 (giC (siC (siC S x0 8 (giC S (x1.getD 0) 8)) x0 9 (giC (siC S x0 8 (giC S (x1.getD 0) 8)) (x1.getD 0) 9)) (x1.getD 0) 10)) (x1.getD 0) 11)) = true) ∧ (q_Y4_become_96a (siC (siC (siC (siC S x0 8 (giC S (x1.getD 0) 8)) x0 9 (giC (siC S x0 8 (giC S (x1.getD 0) 8)) (x1.getD 0) 9)) x0 10 (giC (siC (siC S x0 8 (giC S (x1.getD 0) 8)) x0 9 (giC (siC S x0 8 (giC S (x1.getD 0) 8)) (x1.getD 0) 9)) (x1.getD 0) 10)) x0 11 (giC (siC (siC (siC S x0 8 (giC S (x1.getD 0) 8)) x0 9 (giC (siC S x0 8 (giC S (x1.getD 0) 8)) (x1.getD 0) 9)) x0 10 (giC (siC (siC S x0 8 (giC S (x1.getD 0) 8)) x0 9 (giC (siC S x0 8 (giC S (x1.getD 0) 8)) (x1.getD 0) 9)) (x1.getD 0) 10)) (x1.getD 0) 11)) x0 x1)
def b_Y4_become_32a (S : Cst) (x0 : Nat) (x1 : Option Nat) : Int32 × Cst := (b_Y4_become_64a (siC (siC (siC (siC S x0 4 (giC S (x1.getD 0) 4)) x0 5 (giC (siC S x0 4 (giC S (x1.getD 0) 4)) (x1.getD 0) 5)) x0 6 (giC (siC (siC S x0 4 (giC S (x1.getD 0) 4)) x0 5 (giC (siC S x0 4 (giC S (x1.getD 0) 4)) (x1.getD 0) 5)) (x1.getD 0) 6)) x0 7 (giC (siC (siC (siC S x0 4 (giC S (x1.getD 0) 4)) x0 5 (giC (siC S x0 4 (giC S (x1.getD 0) 4)) (x1.getD 0) 5)) x0 6 (giC (siC (siC S x0 4 (giC S (x1.getD 0) 4)) x0 5 (giC (siC S x0 4 (giC S (x1.getD 0) 4)) (x1.getD 0) 5)) (x1.getD 0) 6)) (x1.getD 0) 7)) x0 x1)
def q_Y4_become_32a (S : Cst) (x0 : Nat) (x1 : Option Nat) : Prop := (iR S x1 3) ∧ (iR (siC S x0 4 (giC S (x1.getD 0) 4)) x1 3) ∧ (iR (siC (siC S x0 4 (giC S (x1.getD 0) 4)) x0 5 (giC (siC S x0 4 (giC S (x1.getD 0) 4)) (x1.getD 0) 5)) x1 3) ∧ (iR (siC (siC (siC S x0 4 (giC S (x1.getD 0) 4)) x0 5 (giC (siC S x0 4 (giC S (x1.getD 0) 4)) (x1.getD 0) 5)) x0 6 (giC (siC (siC S x0 4 (giC S (x1.getD 0) 4)) x0 5 (giC (siC S x0 4 (giC S (x1.getD 0) 4)) (x1.getD 0) 5)) (x1.getD 0) 6)) x1 3) ∧ (narrow .boolean (.int (giC (siC (siC (siC S x0 4 (giC S (x1.getD 0) 4)) x0 5 (giC (siC S x0 4 (giC S (x1.getD 0) 4)) (x1.getD 0) 5)) x0 6 (giC (siC (siC S x0 4 (giC S (x1.getD 0) 4)) x0 5 (giC (siC S x0 4 (giC S (x1.getD 0) 4)) (x1.getD 0) 5)) (x1.getD 0) 6)) (x1.getD 0) 7)) = .int (giC (siC (siC (siC S x0 4 (giC S (x1.getD 0) 4)) x0 5 (giC (siC S x0 4 (giC S (x1.getD 0) 4)) (x1.getD 0) 5)) x0 6 (giC (siC (siC S x0 4 (giC S (x1.getD 0) 4)) x0 5 (giC (siC S x0 4 (giC S (x1.getD 0) 4)) (x1.getD 0) 5)) (x1.getD 0) 6)) (x1.getD 0) 7) ∧ fits .boolean (.int (giC (siC (siC (siC S x0 4 (giC S (x1.getD 0) 4)) x0 5 (giC (siC S x0 4 (giC S (x1.getD 0) 4)) (x1.getD 0) 5)) x0 6 (giC (siC (siC S x0 4 (giC S (x1.getD 0) 4)) x0 5 (giC (siC S x0 4 (giC S (x1.getD 0) 4)) (x1.getD 0) 5)) (x1.getD 0) 6)) (x1.getD 0) 7)) = true) ∧ (q_Y4_become_64a (siC (siC (siC (siC S x0 4 (giC S (x1.getD 0) 4)) x0 5 (giC (siC S x0 4 (giC S (x1.getD 0) 4)) (x1.getD 0) 5)) x0 6 (giC (siC (siC S x0 4 (giC S (x1.getD 0) 4)) x0 5 (giC (siC S x0 4 (giC S (x1.getD 0) 4)) (x1.getD 0) 5)) (x1.getD 0) 6)) x0 7 (giC (siC (siC (siC S x0 4 (giC S (x1.getD 0) 4)) x0 5 (giC (siC S x0 4 (giC S (x1.getD 0) 4)) (x1.getD 0) 5)) x0 6 (giC (siC (siC S x0 4 (giC S (x1.getD 0) 4)) x0 5 (giC (siC S x0 4 (giC S (x1.getD 0) 4)) (x1.getD 0) 5)) (x1.getD 0) 6)) (x1.getD 0) 7)) x0 x1)
def f_Y4_become (S : Cst) (x0 : Nat) (x1 : Option Nat) : Int32 × Cst := (b_Y4_become_32a (siC (siC (siC (siC S x0 0 (giC S (x1.getD 0) 0)) x0 1 (giC (siC S x0 0 (giC S (x1.getD 0) 0)) (x1.getD 0) 1)) x0 2 (giC (siC (siC S x0 0 (giC S (x1.getD 0) 0)) x0 1 (giC (siC S x0 0 (giC S (x1.getD 0) 0)) (x1.getD 0) 1)) (x1.getD 0) 2)) x0 3 (giC (siC (siC (siC S x0 0 (giC S (x1.getD 0) 0)) x0 1 (giC (siC S x0 0 (giC S (x1.getD 0) 0)) (x1.getD 0) 1)) x0 2 (giC (siC (siC S x0 0 (giC S (x1.getD 0) 0)) x0 1 (giC (siC S x0 0 (giC S (x1.getD 0) 0)) (x1.getD 0) 1)) (x1.getD 0) 2)) (x1.getD 0) 3)) x0 x1)
def p_Y4_become (S : Cst) (x0 : Nat) (x1 : Option Nat) : Prop := (iR S x1 3) ∧ (iR (siC S x0 0 (giC S (x1.getD 0) 0)) x1 3) ∧ (iR (siC (siC S x0 0 (giC S (x1.getD 0) 0)) x0 1 (giC (siC S x0 0 (giC S (x1.getD 0) 0)) (x1.getD 0) 1)) x1 3) ∧ (iR (siC (siC (siC S x0 0 (giC S (x1.getD 0) 0)) x0 1 (giC (siC S x0 0 (giC S (x1.getD 0) 0)) (x1.getD 0) 1)) x0 2 (giC (siC (siC S x0 0 (giC S (x1.getD 0) 0)) x0 1 (giC (siC S x0 0 (giC S (x1.getD 0) 0)) (x1.getD 0) 1)) (x1.getD 0) 2)) x1 3) ∧ (q_Y4_become_32a (siC (siC (siC (siC S x0 0 (giC S (x1.getD 0) 0)) x0 1 (giC (siC S x0 0 (giC S (x1.getD 0) 0)) (x1.getD 0) 1)) x0 2 (giC (siC (siC S x0 0 (giC S (x1.getD 0) 0)) x0 1 (giC (siC S x0 0 (giC S (x1.getD 0) 0)) (x1.getD 0) 1)) (x1.getD 0) 2)) x0 3 (giC (siC (siC (siC S x0 0 (giC S (x1.getD 0) 0)) x0 1 (giC (siC S x0 0 (giC S (x1.getD 0) 0)) (x1.getD 0) 1)) x0 2 (giC (siC (siC S x0 0 (giC S (x1.getD 0) 0)) x0 1 (giC (siC S x0 0 (giC S (x1.getD 0) 0)) (x1.getD 0) 1)) (x1.getD 0) 2)) (x1.getD 0) 3)) x0 x1)
def e_Y4_become : List Cond := [.fieldLink RX4 30 "MotionFloor$Motion" "name" "I", .fieldLink RX4 33 "MotionFloor$Motion" "subject" "I", .fieldLink RX4 36 "MotionFloor$Motion" "kind" "I", .fieldLink RX4 39 "MotionFloor$Motion" "mover" "I", .fieldLink RX4 42 "MotionFloor$Motion" "seconder" "I", .fieldLink RX4 45 "MotionFloor$Motion" "floors" "I", .fieldLink RX4 48 "MotionFloor$Motion" "speeches" "I", .fieldLink RX4 51 "MotionFloor$Motion" "closed" "Z", .fieldLink RX4 55 "MotionFloor$Motion" "from" "I", .fieldLink RX4 58 "MotionFloor$Motion" "to" "I", .fieldLink RX4 61 "MotionFloor$Motion" "laid" "Z", .fieldLink RX4 64 "MotionFloor$Motion" "outOfOrder" "Z", .fieldLink RX4 12 "MotionFloor$Motion" "text" "LMotionFloor$Text;", .methodLink RX4 76 yX9_become, .instanceMethod yX9_become, .selects RX9 yX9_become yX9_become, .initialized RX9, .fieldLink RX4 18 "MotionFloor$Motion" "votes" "[B", .methodLink RX4 80 arraycopyName, .native arraycopyName, .static arraycopyName, .initialized "java/lang/System", .fieldLink RX4 67 "MotionFloor$Motion" "voters" "I"]
def v_Y4_become : List Cond := .code yX4_become cX4_become 2 none :: (e_Y4_become ++ (wsX40 ++ (v_Y9_become ++ [])))
theorem te_Y4_become : GoodIn lw_tbl e_Y4_become := wGc zc259 (wGc zc258 (wGc zc166 (wGc zc257 (wGc zc256 (wGc zc255 (wGc zc254 (wGc zc253 (wGc zc252 (wGc zc251 (wGc zc250 (wGc zc249 (wGc zc262 (wGc zc279 (wGc zc278 (wGc zc277 (wGc zc130 (wGc zc231 (wGc zc276 (wGc zc207 (wGc zc206 (wGc zc205 (wGc zc248 (wG0)))))))))))))))))))))))
theorem t_Y4_become : GoodIn lw_tbl v_Y4_become := wGc zc280 (wGa te_Y4_become (wGa zcX4 (wGa t_Y9_become (wG0))))
set_option maxHeartbeats 4000000 in
set_option maxRecDepth 100000 in
theorem c_Y4_become (l : Launch) (G : va_G) (K : Nat → ClassId) (ad : Nat → Nat) (S0 : Cst) (x0 : Nat) (a1 : Option Nat) (sz : Nat) : Met l yX4_become v_Y4_become ({ frames := 2, cells := 0, slots := 0, locals := 81 }) (va_Pc [.ref (ad x0), va_re ad a1] (cSt G K ad sz S0 (iK S0 x0 3 ∧ p_Y4_become S0 x0 a1))) (va_Qv (fun u : Cst => (0, u) = f_Y4_become S0 x0 a1 ∧ eK S0 u) (cBt G K ad (va_A (wsC K ad S0) sz)) (va_A (wsC K ad S0) sz)) 0 0 (va_A (wsC K ad S0) sz) := by
  refine Met.ofW (cc := cX4_become) (maxL := 2) (ret := none) (by decide) rfl ?_
  intro p e s m args below meth c s₁ B hml hv
  obtain ⟨rfl, ⟨hsz, hP, hK, hD0, hTE⟩, hp⟩ := hv
  obtain ⟨k_x0, hp⟩ := hp
  have hx := B.exec
  have hb := B.bytes
  have hr := B.returns
  have hts := atoms_spec (ws := v_Y4_become) B.pre
  have t_ := t_Y4_become
  have mw : ∀ w ∈ e_Y4_become, w ∈ v_Y4_become := fun w h => List.mem_cons_of_mem _ (List.mem_append_left _ h)
  have hw := fun w (h : w ∈ e_Y4_become) => hts w (mw w h)
  have iX4 : ∀ w ∈ wsX40, w ∈ v_Y4_become := fun w h => List.mem_cons_of_mem _ (List.mem_append_right _ (List.mem_append_left _ h))
  have j_Y9_become : ∀ w ∈ v_Y9_become, w ∈ v_Y4_become := fun w h => List.mem_cons_of_mem _ (List.mem_append_right _ (List.mem_append_right _ (List.mem_append_left _ h)))
  have hown : s.vm.findClass RX4 = some m.cls := findClass_of_methodNamed B.named
  have hlocks := B.notSynchronized
  subst hsz
  have hD := hD0.self (sz := s.heap.size)
  generalize hAe : va_A (wsC K ad S0) s.heap.size = A at hD ⊢
  have hA : ∀ q : Nat, s.heap.size ≤ q → A q := fun q h => by rw [← hAe]; exact Or.inr h
  have hS : va_S A s.heap s.heap [] := va_S.rf
  have hl : lv_has (lg_sl ([.ref (ad x0), va_re ad a1]) ++ List.replicate (2 - (lg_sl ([.ref (ad x0), va_re ad a1])).length) Slot.unset).toArray 2 [(0, .ref (ad x0)), (1, va_re ad a1)] := by
    cases a1 <;> exact lv_entry _ (n := 2) (Nat.le_of_ble_eq_true rfl)
  rw [lg_entry_eq]
  generalize (lg_sl ([.ref (ad x0), va_re ad a1]) ++ List.replicate (2 - (lg_sl ([.ref (ad x0), va_re ad a1])).length) Slot.unset).toArray = ls_ at hl ⊢
  refine wGen (fun Q hQ => ?_)
  obtain ⟨X, hX⟩ : ∃ X, f_Y4_become S0 x0 a1 = X := ⟨_, rfl⟩
  have B_Y4_become_133a : ∀ (S : Cst) (x1 : Option Nat) (H : Heap) (locs : List Loc) (ls_ : Array Slot), b_Y4_become_133a S x0 x1 = X → q_Y4_become_133a S x0 x1 → eK S0 S → va_P G vwCl (wsC K ad S) H → va_D A (wsC K ad S) → va_S A s.heap H locs → lv_has ls_ 2 [(0, .ref (ad x0)), (1, va_re ad x1)] → W p l e ({ frames := 2, cells := 0, slots := 0, locals := 81 } : Room) s m #[Value.ref (ad x0), va_re ad a1] below meth c H locs 0 0 Q (F0 m 133 ls_ []) := by
    intro S x1 H locs ls_ hE hp hZ hP hD hS hl
    unfold b_Y4_become_133a at hE
    unfold q_Y4_become_133a at hp
    subst hQ
    exact W.vret hx hb hr (fun t ht hW => ⟨⟨S, rfl, ⟨hE.trans hX.symm, hZ⟩, by rw [ht]; exact hP, hD⟩, hS.F ht⟩) hS.2.2 dX4_become_133
  have B_Y4_become_107a : ∀ (S : Cst) (x1 : Option Nat) (H : Heap) (locs : List Loc) (ls_ : Array Slot), b_Y4_become_107a S x0 x1 = X → q_Y4_become_107a S x0 x1 → eK S0 S → va_P G vwCl (wsC K ad S) H → va_D A (wsC K ad S) → va_S A s.heap H locs → lv_has ls_ 2 [(0, .ref (ad x0)), (1, va_re ad x1)] → W p l e ({ frames := 2, cells := 0, slots := 0, locals := 81 } : Room) s m #[Value.ref (ad x0), va_re ad a1] below meth c H locs 0 0 Q (F0 m 107 ls_ []) := by
    intro S x1 H locs ls_ hE hp hZ hP hD hS hl
    unfold b_Y4_become_107a at hE
    unfold q_Y4_become_107a at hp
    refine cAload_n (ad := ad) (r := x1) hx hb dX4_become_107 rfl (lv_at hl 1 rfl) ?_
    obtain ⟨hy22, hp⟩ := hp
    refine cTop (r := x1) hy22.1 ?_
    refine va_get (D := G) (ci := 3) (v := va_re ad (grC S (x1.getD 0) 13)) (C := RX4) (T := TX4) (N := 16) hx hb hts iX4 hown hK hP (x1.getD 0) (at_3 hy22.2) rfl 13 (by decide) (hw (.fieldLink RX4 18 "MotionFloor$Motion" "votes" "[B") (List.mem_of_getElem? (i := 17) rfl)) (fun _ h9 => h9) rfl dX4_become_108 ?_
    refine lv_iconst (v := 0) hx hb dX4_become_111 (by decide) ?_
    refine lv_aload_n hx hb dX4_become_112 rfl (lv_at hl 0 rfl) ?_
    refine va_get (D := G) (ci := 3) (v := va_re ad (grC S x0 13)) (C := RX4) (T := TX4) (N := 16) hx hb hts iX4 hown hK hP x0 (at_3 (k_x0.e hZ)) rfl 13 (by decide) (hw (.fieldLink RX4 18 "MotionFloor$Motion" "votes" "[B") (List.mem_of_getElem? (i := 17) rfl)) (fun _ h9 => h9) rfl dX4_become_113 ?_
    refine lv_iconst (v := 0) hx hb dX4_become_116 (by decide) ?_
    refine lv_aload_n hx hb dX4_become_117 rfl (lv_at hl 0 rfl) ?_
    refine va_get (D := G) (ci := 3) (v := va_re ad (grC S x0 13)) (C := RX4) (T := TX4) (N := 16) hx hb hts iX4 hown hK hP x0 (at_3 (k_x0.e hZ)) rfl 13 (by decide) (hw (.fieldLink RX4 18 "MotionFloor$Motion" "votes" "[B") (List.mem_of_getElem? (i := 17) rfl)) (fun _ h9 => h9) rfl dX4_become_118 ?_
    obtain ⟨hy23, hp⟩ := hp
    refine cTop (r := (grC S x0 13)) hy23.1 ?_
    refine va_alen (v := (Int32.ofNat (lnC S ((grC S x0 13).getD 0)))) hx hb hK hP ((grC S x0 13).getD 0) 2 (at_22 hy23.2) rfl rfl dX4_become_121 ?_
    obtain ⟨hy24, hp⟩ := hp
    refine cTop5 (r := (grC S (x1.getD 0) 13)) hy24.1 ?_
    obtain ⟨hy25, hp⟩ := hp
    refine cTop3 (r := (grC S x0 13)) hy25.1 ?_
    obtain ⟨hy26, hp⟩ := hp
    obtain ⟨hy27, hp⟩ := hp
    refine va_copyi hx hb (by rw [hml]; exact hl.1.symm) hown (hw (.methodLink RX4 80 arraycopyName) (List.mem_of_getElem? (i := 18) rfl)) (hw (.native arraycopyName) (List.mem_of_getElem? (i := 19) rfl)) (hw (.static arraycopyName) (List.mem_of_getElem? (i := 20) rfl)) (hw (.initialized "java/lang/System") (List.mem_of_getElem? (i := 21) rfl)) hK hP hD hS ((grC S (x1.getD 0) 13).getD 0) ((grC S x0 13).getD 0) 2 2 (at_22 hy24.2) (at_22 hy25.2) rfl rfl rfl hy26.1.1 hy26.1.2.1 hy26.1.2.2 hy26.2.1 hy26.2.2 hy27 (Nat.le_of_ble_eq_true rfl) (Nat.le_of_ble_eq_true rfl) dX4_become_122 (fun H locs hP hD hS => ?_)
    rw [sf_22 hy25.2] at hP hD
    have hZ := hZ.tr (eK.sf S ((grC S x0 13).getD 0) (va_cpy (giC S ((grC S (x1.getD 0) 13).getD 0)) (giC S ((grC S x0 13).getD 0)) (0 : Int32).toNatClampNeg (0 : Int32).toNatClampNeg (Int32.ofNat (lnC S ((grC S x0 13).getD 0))).toNatClampNeg))
    refine lv_aload_n hx hb dX4_become_125 rfl (lv_at hl 0 rfl) ?_
    refine cAload_n (ad := ad) (r := x1) hx hb dX4_become_126 rfl (lv_at hl 1 rfl) ?_
    obtain ⟨hy28, hp⟩ := hp
    refine cTop (r := x1) hy28.1 ?_
    refine va_get (D := G) (ci := 3) (v := .int (giC (sfC S ((grC S x0 13).getD 0) (va_cpy (giC S ((grC S (x1.getD 0) 13).getD 0)) (giC S ((grC S x0 13).getD 0)) (0 : Int32).toNatClampNeg (0 : Int32).toNatClampNeg (Int32.ofNat (lnC S ((grC S x0 13).getD 0))).toNatClampNeg)) (x1.getD 0) 14)) (C := RX4) (T := TX4) (N := 16) hx hb hts iX4 hown hK hP (x1.getD 0) (at_3 hy28.2) rfl 14 (by decide) (hw (.fieldLink RX4 67 "MotionFloor$Motion" "voters" "I") (List.mem_of_getElem? (i := 22) rfl)) (fun _ h9 => h9) rfl dX4_become_127 ?_
    refine va_put (D := G) (ci := 3) (v := .int (giC (sfC S ((grC S x0 13).getD 0) (va_cpy (giC S ((grC S (x1.getD 0) 13).getD 0)) (giC S ((grC S x0 13).getD 0)) (0 : Int32).toNatClampNeg (0 : Int32).toNatClampNeg (Int32.ofNat (lnC S ((grC S x0 13).getD 0))).toNatClampNeg)) (x1.getD 0) 14)) (ty := .int) (C := RX4) (T := TX4) (N := 16) hx hb hts iX4 tyX4 tyX4_ok nmX4 hown hK hP hD hS x0 (at_3 (k_x0.e hZ)) rfl 14 (by decide) (hw (.fieldLink RX4 67 "MotionFloor$Motion" "voters" "I") (List.mem_of_getElem? (i := 22) rfl)) (fun _ h9 => h9) rfl (by decide +kernel) rfl rfl (Nat.le_of_ble_eq_true rfl) dX4_become_130 (fun H locs hP hD hS => ?_)
    rw [st_3_14 (k_x0.e hZ)] at hP hD
    have hZ := hZ.tr (eK.si (sfC S ((grC S x0 13).getD 0) (va_cpy (giC S ((grC S (x1.getD 0) 13).getD 0)) (giC S ((grC S x0 13).getD 0)) (0 : Int32).toNatClampNeg (0 : Int32).toNatClampNeg (Int32.ofNat (lnC S ((grC S x0 13).getD 0))).toNatClampNeg)) x0 14 (giC (sfC S ((grC S x0 13).getD 0) (va_cpy (giC S ((grC S (x1.getD 0) 13).getD 0)) (giC S ((grC S x0 13).getD 0)) (0 : Int32).toNatClampNeg (0 : Int32).toNatClampNeg (Int32.ofNat (lnC S ((grC S x0 13).getD 0))).toNatClampNeg)) (x1.getD 0) 14))
    exact B_Y4_become_133a (siC (sfC S ((grC S x0 13).getD 0) (va_cpy (giC S ((grC S (x1.getD 0) 13).getD 0)) (giC S ((grC S x0 13).getD 0)) (0 : Int32).toNatClampNeg (0 : Int32).toNatClampNeg (Int32.ofNat (lnC S ((grC S x0 13).getD 0))).toNatClampNeg)) x0 14 (giC (sfC S ((grC S x0 13).getD 0) (va_cpy (giC S ((grC S (x1.getD 0) 13).getD 0)) (giC S ((grC S x0 13).getD 0)) (0 : Int32).toNatClampNeg (0 : Int32).toNatClampNeg (Int32.ofNat (lnC S ((grC S x0 13).getD 0))).toNatClampNeg)) (x1.getD 0) 14)) x1 _ _ _ hE hp hZ hP hD hS (lv_sub hl [0, 1] rfl)
  have B_Y4_become_96a : ∀ (S : Cst) (x1 : Option Nat) (H : Heap) (locs : List Loc) (ls_ : Array Slot), b_Y4_become_96a S x0 x1 = X → q_Y4_become_96a S x0 x1 → eK S0 S → va_P G vwCl (wsC K ad S) H → va_D A (wsC K ad S) → va_S A s.heap H locs → lv_has ls_ 2 [(0, .ref (ad x0)), (1, va_re ad x1)] → W p l e ({ frames := 2, cells := 0, slots := 0, locals := 81 } : Room) s m #[Value.ref (ad x0), va_re ad a1] below meth c H locs 0 0 Q (F0 m 96 ls_ []) := by
    intro S x1 H locs ls_ hE hp hZ hP hD hS hl
    unfold b_Y4_become_96a at hE
    unfold q_Y4_become_96a at hp
    refine lv_aload_n hx hb dX4_become_96 rfl (lv_at hl 0 rfl) ?_
    refine va_get (D := G) (ci := 3) (v := va_re ad (grC S x0 12)) (C := RX4) (T := TX4) (N := 16) hx hb hts iX4 hown hK hP x0 (at_3 (k_x0.e hZ)) rfl 12 (by decide) (hw (.fieldLink RX4 12 "MotionFloor$Motion" "text" "LMotionFloor$Text;") (List.mem_of_getElem? (i := 12) rfl)) (fun _ h9 => h9) rfl dX4_become_97 ?_
    refine cAload_n (ad := ad) (r := x1) hx hb dX4_become_100 rfl (lv_at hl 1 rfl) ?_
    obtain ⟨hy16, hp⟩ := hp
    refine cTop (r := x1) hy16.1 ?_
    refine va_get (D := G) (ci := 3) (v := va_re ad (grC S (x1.getD 0) 12)) (C := RX4) (T := TX4) (N := 16) hx hb hts iX4 hown hK hP (x1.getD 0) (at_3 hy16.2) rfl 12 (by decide) (hw (.fieldLink RX4 12 "MotionFloor$Motion" "text" "LMotionFloor$Text;") (List.mem_of_getElem? (i := 12) rfl)) (fun _ h9 => h9) rfl dX4_become_101 ?_
    obtain ⟨hy17, hp⟩ := hp
    refine cTop2 (r := (grC S x0 12)) hy17.1 ?_
    obtain ⟨hy18, hp⟩ := hp
    refine cTop (r := (grC S (x1.getD 0) 12)) hy18.1 ?_
    obtain ⟨hy19, hp⟩ := hp
    refine cGov (va_runV (As := [.ref (ad ((grC S (x1.getD 0) 12).getD 0))]) (rest := []) ⟨hx, hb, hml, hown, hts⟩ (c_Y9_become l G K ad S ((grC S x0 12).getD 0) ((grC S (x1.getD 0) 12).getD 0) _) (cwV 1 hts (wGV t_ (mw (.methodLink RX4 76 yX9_become) (List.mem_of_getElem? (i := 13) rfl)) (mw (.instanceMethod yX9_become) (List.mem_of_getElem? (i := 14) rfl)) (mw (.selects RX9 yX9_become yX9_become) (List.mem_of_getElem? (i := 15) rfl)) (mw (.initialized RX9) (List.mem_of_getElem? (i := 16) rfl)) j_Y9_become) rfl rfl rfl (by decide +kernel) ⟨Nat.le_of_ble_eq_true rfl, Nat.le_of_ble_eq_true rfl⟩) (cPV hK hTE hP hD 6 rfl (at_6 hy17.2) ⟨hy17.2, hy18.2, hy19⟩) rfl rfl hl.1 rfl (lv_room (Nat.le_of_ble_eq_true rfl)) dX4_become_104 ⟨Nat.le_of_ble_eq_true rfl, Nat.le_of_ble_eq_true rfl⟩) hP hD hS hA (fun u20 H locs hv hP hD hS => ?_)
    obtain ⟨hv, hz⟩ := hv
    have hZ := hZ.tr hz
    rw [← hv] at hE hp
    dsimp only at hE hp
    exact B_Y4_become_107a u20 x1 _ _ _ hE hp hZ hP hD hS (lv_sub hl [0, 1] rfl)
  have B_Y4_become_64a : ∀ (S : Cst) (x1 : Option Nat) (H : Heap) (locs : List Loc) (ls_ : Array Slot), b_Y4_become_64a S x0 x1 = X → q_Y4_become_64a S x0 x1 → eK S0 S → va_P G vwCl (wsC K ad S) H → va_D A (wsC K ad S) → va_S A s.heap H locs → lv_has ls_ 2 [(0, .ref (ad x0)), (1, va_re ad x1)] → W p l e ({ frames := 2, cells := 0, slots := 0, locals := 81 } : Room) s m #[Value.ref (ad x0), va_re ad a1] below meth c H locs 0 0 Q (F0 m 64 ls_ []) := by
    intro S x1 H locs ls_ hE hp hZ hP hD hS hl
    unfold b_Y4_become_64a at hE
    unfold q_Y4_become_64a at hp
    refine lv_aload_n hx hb dX4_become_64 rfl (lv_at hl 0 rfl) ?_
    refine cAload_n (ad := ad) (r := x1) hx hb dX4_become_65 rfl (lv_at hl 1 rfl) ?_
    obtain ⟨hy10, hp⟩ := hp
    refine cTop (r := x1) hy10.1 ?_
    refine va_get (D := G) (ci := 3) (v := .int (giC S (x1.getD 0) 8)) (C := RX4) (T := TX4) (N := 16) hx hb hts iX4 hown hK hP (x1.getD 0) (at_3 hy10.2) rfl 8 (by decide) (hw (.fieldLink RX4 55 "MotionFloor$Motion" "from" "I") (List.mem_of_getElem? (i := 8) rfl)) (fun _ h9 => h9) rfl dX4_become_66 ?_
    refine va_put (D := G) (ci := 3) (v := .int (giC S (x1.getD 0) 8)) (ty := .int) (C := RX4) (T := TX4) (N := 16) hx hb hts iX4 tyX4 tyX4_ok nmX4 hown hK hP hD hS x0 (at_3 (k_x0.e hZ)) rfl 8 (by decide) (hw (.fieldLink RX4 55 "MotionFloor$Motion" "from" "I") (List.mem_of_getElem? (i := 8) rfl)) (fun _ h9 => h9) rfl (by decide +kernel) rfl rfl (Nat.le_of_ble_eq_true rfl) dX4_become_69 (fun H locs hP hD hS => ?_)
    rw [st_3_8 (k_x0.e hZ)] at hP hD
    have hZ := hZ.tr (eK.si S x0 8 (giC S (x1.getD 0) 8))
    refine lv_aload_n hx hb dX4_become_72 rfl (lv_at hl 0 rfl) ?_
    refine cAload_n (ad := ad) (r := x1) hx hb dX4_become_73 rfl (lv_at hl 1 rfl) ?_
    obtain ⟨hy11, hp⟩ := hp
    refine cTop (r := x1) hy11.1 ?_
    refine va_get (D := G) (ci := 3) (v := .int (giC (siC S x0 8 (giC S (x1.getD 0) 8)) (x1.getD 0) 9)) (C := RX4) (T := TX4) (N := 16) hx hb hts iX4 hown hK hP (x1.getD 0) (at_3 hy11.2) rfl 9 (by decide) (hw (.fieldLink RX4 58 "MotionFloor$Motion" "to" "I") (List.mem_of_getElem? (i := 9) rfl)) (fun _ h9 => h9) rfl dX4_become_74 ?_
    refine va_put (D := G) (ci := 3) (v := .int (giC (siC S x0 8 (giC S (x1.getD 0) 8)) (x1.getD 0) 9)) (ty := .int) (C := RX4) (T := TX4) (N := 16) hx hb hts iX4 tyX4 tyX4_ok nmX4 hown hK hP hD hS x0 (at_3 (k_x0.e hZ)) rfl 9 (by decide) (hw (.fieldLink RX4 58 "MotionFloor$Motion" "to" "I") (List.mem_of_getElem? (i := 9) rfl)) (fun _ h9 => h9) rfl (by decide +kernel) rfl rfl (Nat.le_of_ble_eq_true rfl) dX4_become_77 (fun H locs hP hD hS => ?_)
    rw [st_3_9 (k_x0.e hZ)] at hP hD
    have hZ := hZ.tr (eK.si (siC S x0 8 (giC S (x1.getD 0) 8)) x0 9 (giC (siC S x0 8 (giC S (x1.getD 0) 8)) (x1.getD 0) 9))
    refine lv_aload_n hx hb dX4_become_80 rfl (lv_at hl 0 rfl) ?_
    refine cAload_n (ad := ad) (r := x1) hx hb dX4_become_81 rfl (lv_at hl 1 rfl) ?_
    obtain ⟨hy12, hp⟩ := hp
    refine cTop (r := x1) hy12.1 ?_
    refine va_get (D := G) (ci := 3) (v := .int (giC (siC (siC S x0 8 (giC S (x1.getD 0) 8)) x0 9 (giC (siC S x0 8 (giC S (x1.getD 0) 8)) (x1.getD 0) 9)) (x1.getD 0) 10)) (C := RX4) (T := TX4) (N := 16) hx hb hts iX4 hown hK hP (x1.getD 0) (at_3 hy12.2) rfl 10 (by decide) (hw (.fieldLink RX4 61 "MotionFloor$Motion" "laid" "Z") (List.mem_of_getElem? (i := 10) rfl)) (fun _ h9 => h9) rfl dX4_become_82 ?_
    obtain ⟨hy13, hp⟩ := hp
    refine va_put (D := G) (ci := 3) (v := .int (giC (siC (siC S x0 8 (giC S (x1.getD 0) 8)) x0 9 (giC (siC S x0 8 (giC S (x1.getD 0) 8)) (x1.getD 0) 9)) (x1.getD 0) 10)) (ty := .boolean) (C := RX4) (T := TX4) (N := 16) hx hb hts iX4 tyX4 tyX4_ok nmX4 hown hK hP hD hS x0 (at_3 (k_x0.e hZ)) rfl 10 (by decide) (hw (.fieldLink RX4 61 "MotionFloor$Motion" "laid" "Z") (List.mem_of_getElem? (i := 10) rfl)) (fun _ h9 => h9) rfl (by decide +kernel) hy13.1 hy13.2 (Nat.le_of_ble_eq_true rfl) dX4_become_85 (fun H locs hP hD hS => ?_)
    rw [st_3_10 (k_x0.e hZ)] at hP hD
    have hZ := hZ.tr (eK.si (siC (siC S x0 8 (giC S (x1.getD 0) 8)) x0 9 (giC (siC S x0 8 (giC S (x1.getD 0) 8)) (x1.getD 0) 9)) x0 10 (giC (siC (siC S x0 8 (giC S (x1.getD 0) 8)) x0 9 (giC (siC S x0 8 (giC S (x1.getD 0) 8)) (x1.getD 0) 9)) (x1.getD 0) 10))
    refine lv_aload_n hx hb dX4_become_88 rfl (lv_at hl 0 rfl) ?_
    refine cAload_n (ad := ad) (r := x1) hx hb dX4_become_89 rfl (lv_at hl 1 rfl) ?_
    obtain ⟨hy14, hp⟩ := hp
    refine cTop (r := x1) hy14.1 ?_
    refine va_get (D := G) (ci := 3) (v := .int (giC (siC (siC (siC S x0 8 (giC S (x1.getD 0) 8)) x0 9 (giC (siC S x0 8 (giC S (x1.getD 0) 8)) (x1.getD 0) 9)) x0 10 (giC (siC (siC S x0 8 (giC S (x1.getD 0) 8)) x0 9 (giC (siC S x0 8 (giC S (x1.getD 0) 8)) (x1.getD 0) 9)) (x1.getD 0) 10)) (x1.getD 0) 11)) (C := RX4) (T := TX4) (N := 16) hx hb hts iX4 hown hK hP (x1.getD 0) (at_3 hy14.2) rfl 11 (by decide) (hw (.fieldLink RX4 64 "MotionFloor$Motion" "outOfOrder" "Z") (List.mem_of_getElem? (i := 11) rfl)) (fun _ h9 => h9) rfl dX4_become_90 ?_
    obtain ⟨hy15, hp⟩ := hp
    refine va_put (D := G) (ci := 3) (v := .int (giC (siC (siC (siC S x0 8 (giC S (x1.getD 0) 8)) x0 9 (giC (siC S x0 8 (giC S (x1.getD 0) 8)) (x1.getD 0) 9)) x0 10 (giC (siC (siC S x0 8 (giC S (x1.getD 0) 8)) x0 9 (giC (siC S x0 8 (giC S (x1.getD 0) 8)) (x1.getD 0) 9)) (x1.getD 0) 10)) (x1.getD 0) 11)) (ty := .boolean) (C := RX4) (T := TX4) (N := 16) hx hb hts iX4 tyX4 tyX4_ok nmX4 hown hK hP hD hS x0 (at_3 (k_x0.e hZ)) rfl 11 (by decide) (hw (.fieldLink RX4 64 "MotionFloor$Motion" "outOfOrder" "Z") (List.mem_of_getElem? (i := 11) rfl)) (fun _ h9 => h9) rfl (by decide +kernel) hy15.1 hy15.2 (Nat.le_of_ble_eq_true rfl) dX4_become_93 (fun H locs hP hD hS => ?_)
    rw [st_3_11 (k_x0.e hZ)] at hP hD
    have hZ := hZ.tr (eK.si (siC (siC (siC S x0 8 (giC S (x1.getD 0) 8)) x0 9 (giC (siC S x0 8 (giC S (x1.getD 0) 8)) (x1.getD 0) 9)) x0 10 (giC (siC (siC S x0 8 (giC S (x1.getD 0) 8)) x0 9 (giC (siC S x0 8 (giC S (x1.getD 0) 8)) (x1.getD 0) 9)) (x1.getD 0) 10)) x0 11 (giC (siC (siC (siC S x0 8 (giC S (x1.getD 0) 8)) x0 9 (giC (siC S x0 8 (giC S (x1.getD 0) 8)) (x1.getD 0) 9)) x0 10 (giC (siC (siC S x0 8 (giC S (x1.getD 0) 8)) x0 9 (giC (siC S x0 8 (giC S (x1.getD 0) 8)) (x1.getD 0) 9)) (x1.getD 0) 10)) (x1.getD 0) 11))
    exact B_Y4_become_96a (siC (siC (siC (siC S x0 8 (giC S (x1.getD 0) 8)) x0 9 (giC (siC S x0 8 (giC S (x1.getD 0) 8)) (x1.getD 0) 9)) x0 10 (giC (siC (siC S x0 8 (giC S (x1.getD 0) 8)) x0 9 (giC (siC S x0 8 (giC S (x1.getD 0) 8)) (x1.getD 0) 9)) (x1.getD 0) 10)) x0 11 (giC (siC (siC (siC S x0 8 (giC S (x1.getD 0) 8)) x0 9 (giC (siC S x0 8 (giC S (x1.getD 0) 8)) (x1.getD 0) 9)) x0 10 (giC (siC (siC S x0 8 (giC S (x1.getD 0) 8)) x0 9 (giC (siC S x0 8 (giC S (x1.getD 0) 8)) (x1.getD 0) 9)) (x1.getD 0) 10)) (x1.getD 0) 11)) x1 _ _ _ hE hp hZ hP hD hS (lv_sub hl [0, 1] rfl)
  have B_Y4_become_32a : ∀ (S : Cst) (x1 : Option Nat) (H : Heap) (locs : List Loc) (ls_ : Array Slot), b_Y4_become_32a S x0 x1 = X → q_Y4_become_32a S x0 x1 → eK S0 S → va_P G vwCl (wsC K ad S) H → va_D A (wsC K ad S) → va_S A s.heap H locs → lv_has ls_ 2 [(0, .ref (ad x0)), (1, va_re ad x1)] → W p l e ({ frames := 2, cells := 0, slots := 0, locals := 81 } : Room) s m #[Value.ref (ad x0), va_re ad a1] below meth c H locs 0 0 Q (F0 m 32 ls_ []) := by
    intro S x1 H locs ls_ hE hp hZ hP hD hS hl
    unfold b_Y4_become_32a at hE
    unfold q_Y4_become_32a at hp
    refine lv_aload_n hx hb dX4_become_32 rfl (lv_at hl 0 rfl) ?_
    refine cAload_n (ad := ad) (r := x1) hx hb dX4_become_33 rfl (lv_at hl 1 rfl) ?_
    obtain ⟨hy5, hp⟩ := hp
    refine cTop (r := x1) hy5.1 ?_
    refine va_get (D := G) (ci := 3) (v := .int (giC S (x1.getD 0) 4)) (C := RX4) (T := TX4) (N := 16) hx hb hts iX4 hown hK hP (x1.getD 0) (at_3 hy5.2) rfl 4 (by decide) (hw (.fieldLink RX4 42 "MotionFloor$Motion" "seconder" "I") (List.mem_of_getElem? (i := 4) rfl)) (fun _ h9 => h9) rfl dX4_become_34 ?_
    refine va_put (D := G) (ci := 3) (v := .int (giC S (x1.getD 0) 4)) (ty := .int) (C := RX4) (T := TX4) (N := 16) hx hb hts iX4 tyX4 tyX4_ok nmX4 hown hK hP hD hS x0 (at_3 (k_x0.e hZ)) rfl 4 (by decide) (hw (.fieldLink RX4 42 "MotionFloor$Motion" "seconder" "I") (List.mem_of_getElem? (i := 4) rfl)) (fun _ h9 => h9) rfl (by decide +kernel) rfl rfl (Nat.le_of_ble_eq_true rfl) dX4_become_37 (fun H locs hP hD hS => ?_)
    rw [st_3_4 (k_x0.e hZ)] at hP hD
    have hZ := hZ.tr (eK.si S x0 4 (giC S (x1.getD 0) 4))
    refine lv_aload_n hx hb dX4_become_40 rfl (lv_at hl 0 rfl) ?_
    refine cAload_n (ad := ad) (r := x1) hx hb dX4_become_41 rfl (lv_at hl 1 rfl) ?_
    obtain ⟨hy6, hp⟩ := hp
    refine cTop (r := x1) hy6.1 ?_
    refine va_get (D := G) (ci := 3) (v := .int (giC (siC S x0 4 (giC S (x1.getD 0) 4)) (x1.getD 0) 5)) (C := RX4) (T := TX4) (N := 16) hx hb hts iX4 hown hK hP (x1.getD 0) (at_3 hy6.2) rfl 5 (by decide) (hw (.fieldLink RX4 45 "MotionFloor$Motion" "floors" "I") (List.mem_of_getElem? (i := 5) rfl)) (fun _ h9 => h9) rfl dX4_become_42 ?_
    refine va_put (D := G) (ci := 3) (v := .int (giC (siC S x0 4 (giC S (x1.getD 0) 4)) (x1.getD 0) 5)) (ty := .int) (C := RX4) (T := TX4) (N := 16) hx hb hts iX4 tyX4 tyX4_ok nmX4 hown hK hP hD hS x0 (at_3 (k_x0.e hZ)) rfl 5 (by decide) (hw (.fieldLink RX4 45 "MotionFloor$Motion" "floors" "I") (List.mem_of_getElem? (i := 5) rfl)) (fun _ h9 => h9) rfl (by decide +kernel) rfl rfl (Nat.le_of_ble_eq_true rfl) dX4_become_45 (fun H locs hP hD hS => ?_)
    rw [st_3_5 (k_x0.e hZ)] at hP hD
    have hZ := hZ.tr (eK.si (siC S x0 4 (giC S (x1.getD 0) 4)) x0 5 (giC (siC S x0 4 (giC S (x1.getD 0) 4)) (x1.getD 0) 5))
    refine lv_aload_n hx hb dX4_become_48 rfl (lv_at hl 0 rfl) ?_
    refine cAload_n (ad := ad) (r := x1) hx hb dX4_become_49 rfl (lv_at hl 1 rfl) ?_
    obtain ⟨hy7, hp⟩ := hp
    refine cTop (r := x1) hy7.1 ?_
    refine va_get (D := G) (ci := 3) (v := .int (giC (siC (siC S x0 4 (giC S (x1.getD 0) 4)) x0 5 (giC (siC S x0 4 (giC S (x1.getD 0) 4)) (x1.getD 0) 5)) (x1.getD 0) 6)) (C := RX4) (T := TX4) (N := 16) hx hb hts iX4 hown hK hP (x1.getD 0) (at_3 hy7.2) rfl 6 (by decide) (hw (.fieldLink RX4 48 "MotionFloor$Motion" "speeches" "I") (List.mem_of_getElem? (i := 6) rfl)) (fun _ h9 => h9) rfl dX4_become_50 ?_
    refine va_put (D := G) (ci := 3) (v := .int (giC (siC (siC S x0 4 (giC S (x1.getD 0) 4)) x0 5 (giC (siC S x0 4 (giC S (x1.getD 0) 4)) (x1.getD 0) 5)) (x1.getD 0) 6)) (ty := .int) (C := RX4) (T := TX4) (N := 16) hx hb hts iX4 tyX4 tyX4_ok nmX4 hown hK hP hD hS x0 (at_3 (k_x0.e hZ)) rfl 6 (by decide) (hw (.fieldLink RX4 48 "MotionFloor$Motion" "speeches" "I") (List.mem_of_getElem? (i := 6) rfl)) (fun _ h9 => h9) rfl (by decide +kernel) rfl rfl (Nat.le_of_ble_eq_true rfl) dX4_become_53 (fun H locs hP hD hS => ?_)
    rw [st_3_6 (k_x0.e hZ)] at hP hD
    have hZ := hZ.tr (eK.si (siC (siC S x0 4 (giC S (x1.getD 0) 4)) x0 5 (giC (siC S x0 4 (giC S (x1.getD 0) 4)) (x1.getD 0) 5)) x0 6 (giC (siC (siC S x0 4 (giC S (x1.getD 0) 4)) x0 5 (giC (siC S x0 4 (giC S (x1.getD 0) 4)) (x1.getD 0) 5)) (x1.getD 0) 6))
    refine lv_aload_n hx hb dX4_become_56 rfl (lv_at hl 0 rfl) ?_
    refine cAload_n (ad := ad) (r := x1) hx hb dX4_become_57 rfl (lv_at hl 1 rfl) ?_
    obtain ⟨hy8, hp⟩ := hp
    refine cTop (r := x1) hy8.1 ?_
    refine va_get (D := G) (ci := 3) (v := .int (giC (siC (siC (siC S x0 4 (giC S (x1.getD 0) 4)) x0 5 (giC (siC S x0 4 (giC S (x1.getD 0) 4)) (x1.getD 0) 5)) x0 6 (giC (siC (siC S x0 4 (giC S (x1.getD 0) 4)) x0 5 (giC (siC S x0 4 (giC S (x1.getD 0) 4)) (x1.getD 0) 5)) (x1.getD 0) 6)) (x1.getD 0) 7)) (C := RX4) (T := TX4) (N := 16) hx hb hts iX4 hown hK hP (x1.getD 0) (at_3 hy8.2) rfl 7 (by decide) (hw (.fieldLink RX4 51 "MotionFloor$Motion" "closed" "Z") (List.mem_of_getElem? (i := 7) rfl)) (fun _ h9 => h9) rfl dX4_become_58 ?_
    obtain ⟨hy9, hp⟩ := hp
    refine va_put (D := G) (ci := 3) (v := .int (giC (siC (siC (siC S x0 4 (giC S (x1.getD 0) 4)) x0 5 (giC (siC S x0 4 (giC S (x1.getD 0) 4)) (x1.getD 0) 5)) x0 6 (giC (siC (siC S x0 4 (giC S (x1.getD 0) 4)) x0 5 (giC (siC S x0 4 (giC S (x1.getD 0) 4)) (x1.getD 0) 5)) (x1.getD 0) 6)) (x1.getD 0) 7)) (ty := .boolean) (C := RX4) (T := TX4) (N := 16) hx hb hts iX4 tyX4 tyX4_ok nmX4 hown hK hP hD hS x0 (at_3 (k_x0.e hZ)) rfl 7 (by decide) (hw (.fieldLink RX4 51 "MotionFloor$Motion" "closed" "Z") (List.mem_of_getElem? (i := 7) rfl)) (fun _ h9 => h9) rfl (by decide +kernel) hy9.1 hy9.2 (Nat.le_of_ble_eq_true rfl) dX4_become_61 (fun H locs hP hD hS => ?_)
    rw [st_3_7 (k_x0.e hZ)] at hP hD
    have hZ := hZ.tr (eK.si (siC (siC (siC S x0 4 (giC S (x1.getD 0) 4)) x0 5 (giC (siC S x0 4 (giC S (x1.getD 0) 4)) (x1.getD 0) 5)) x0 6 (giC (siC (siC S x0 4 (giC S (x1.getD 0) 4)) x0 5 (giC (siC S x0 4 (giC S (x1.getD 0) 4)) (x1.getD 0) 5)) (x1.getD 0) 6)) x0 7 (giC (siC (siC (siC S x0 4 (giC S (x1.getD 0) 4)) x0 5 (giC (siC S x0 4 (giC S (x1.getD 0) 4)) (x1.getD 0) 5)) x0 6 (giC (siC (siC S x0 4 (giC S (x1.getD 0) 4)) x0 5 (giC (siC S x0 4 (giC S (x1.getD 0) 4)) (x1.getD 0) 5)) (x1.getD 0) 6)) (x1.getD 0) 7))
    exact B_Y4_become_64a (siC (siC (siC (siC S x0 4 (giC S (x1.getD 0) 4)) x0 5 (giC (siC S x0 4 (giC S (x1.getD 0) 4)) (x1.getD 0) 5)) x0 6 (giC (siC (siC S x0 4 (giC S (x1.getD 0) 4)) x0 5 (giC (siC S x0 4 (giC S (x1.getD 0) 4)) (x1.getD 0) 5)) (x1.getD 0) 6)) x0 7 (giC (siC (siC (siC S x0 4 (giC S (x1.getD 0) 4)) x0 5 (giC (siC S x0 4 (giC S (x1.getD 0) 4)) (x1.getD 0) 5)) x0 6 (giC (siC (siC S x0 4 (giC S (x1.getD 0) 4)) x0 5 (giC (siC S x0 4 (giC S (x1.getD 0) 4)) (x1.getD 0) 5)) (x1.getD 0) 6)) (x1.getD 0) 7)) x1 _ _ _ hE hp hZ hP hD hS (lv_sub hl [0, 1] rfl)
  have B_M : ∀ (S : Cst) (x1 : Option Nat) (H : Heap) (locs : List Loc) (ls_ : Array Slot), f_Y4_become S x0 x1 = X → p_Y4_become S x0 x1 → eK S0 S → va_P G vwCl (wsC K ad S) H → va_D A (wsC K ad S) → va_S A s.heap H locs → lv_has ls_ 2 [(0, .ref (ad x0)), (1, va_re ad x1)] → W p l e ({ frames := 2, cells := 0, slots := 0, locals := 81 } : Room) s m #[Value.ref (ad x0), va_re ad a1] below meth c H locs 0 0 Q (F0 m 0 ls_ []) := by
    intro S x1 H locs ls_ hE hp hZ hP hD hS hl
    unfold f_Y4_become at hE
    unfold p_Y4_become at hp
    refine lv_aload_n hx hb dX4_become_0 rfl (lv_at hl 0 rfl) ?_
    refine cAload_n (ad := ad) (r := x1) hx hb dX4_become_1 rfl (lv_at hl 1 rfl) ?_
    obtain ⟨hy1, hp⟩ := hp
    refine cTop (r := x1) hy1.1 ?_
    refine va_get (D := G) (ci := 3) (v := .int (giC S (x1.getD 0) 0)) (C := RX4) (T := TX4) (N := 16) hx hb hts iX4 hown hK hP (x1.getD 0) (at_3 hy1.2) rfl 0 (by decide) (hw (.fieldLink RX4 30 "MotionFloor$Motion" "name" "I") (List.mem_of_getElem? (i := 0) rfl)) (fun _ h9 => h9) rfl dX4_become_2 ?_
    refine va_put (D := G) (ci := 3) (v := .int (giC S (x1.getD 0) 0)) (ty := .int) (C := RX4) (T := TX4) (N := 16) hx hb hts iX4 tyX4 tyX4_ok nmX4 hown hK hP hD hS x0 (at_3 (k_x0.e hZ)) rfl 0 (by decide) (hw (.fieldLink RX4 30 "MotionFloor$Motion" "name" "I") (List.mem_of_getElem? (i := 0) rfl)) (fun _ h9 => h9) rfl (by decide +kernel) rfl rfl (Nat.le_of_ble_eq_true rfl) dX4_become_5 (fun H locs hP hD hS => ?_)
    rw [st_3_0 (k_x0.e hZ)] at hP hD
    have hZ := hZ.tr (eK.si S x0 0 (giC S (x1.getD 0) 0))
    refine lv_aload_n hx hb dX4_become_8 rfl (lv_at hl 0 rfl) ?_
    refine cAload_n (ad := ad) (r := x1) hx hb dX4_become_9 rfl (lv_at hl 1 rfl) ?_
    obtain ⟨hy2, hp⟩ := hp
    refine cTop (r := x1) hy2.1 ?_
    refine va_get (D := G) (ci := 3) (v := .int (giC (siC S x0 0 (giC S (x1.getD 0) 0)) (x1.getD 0) 1)) (C := RX4) (T := TX4) (N := 16) hx hb hts iX4 hown hK hP (x1.getD 0) (at_3 hy2.2) rfl 1 (by decide) (hw (.fieldLink RX4 33 "MotionFloor$Motion" "subject" "I") (List.mem_of_getElem? (i := 1) rfl)) (fun _ h9 => h9) rfl dX4_become_10 ?_
    refine va_put (D := G) (ci := 3) (v := .int (giC (siC S x0 0 (giC S (x1.getD 0) 0)) (x1.getD 0) 1)) (ty := .int) (C := RX4) (T := TX4) (N := 16) hx hb hts iX4 tyX4 tyX4_ok nmX4 hown hK hP hD hS x0 (at_3 (k_x0.e hZ)) rfl 1 (by decide) (hw (.fieldLink RX4 33 "MotionFloor$Motion" "subject" "I") (List.mem_of_getElem? (i := 1) rfl)) (fun _ h9 => h9) rfl (by decide +kernel) rfl rfl (Nat.le_of_ble_eq_true rfl) dX4_become_13 (fun H locs hP hD hS => ?_)
    rw [st_3_1 (k_x0.e hZ)] at hP hD
    have hZ := hZ.tr (eK.si (siC S x0 0 (giC S (x1.getD 0) 0)) x0 1 (giC (siC S x0 0 (giC S (x1.getD 0) 0)) (x1.getD 0) 1))
    refine lv_aload_n hx hb dX4_become_16 rfl (lv_at hl 0 rfl) ?_
    refine cAload_n (ad := ad) (r := x1) hx hb dX4_become_17 rfl (lv_at hl 1 rfl) ?_
    obtain ⟨hy3, hp⟩ := hp
    refine cTop (r := x1) hy3.1 ?_
    refine va_get (D := G) (ci := 3) (v := .int (giC (siC (siC S x0 0 (giC S (x1.getD 0) 0)) x0 1 (giC (siC S x0 0 (giC S (x1.getD 0) 0)) (x1.getD 0) 1)) (x1.getD 0) 2)) (C := RX4) (T := TX4) (N := 16) hx hb hts iX4 hown hK hP (x1.getD 0) (at_3 hy3.2) rfl 2 (by decide) (hw (.fieldLink RX4 36 "MotionFloor$Motion" "kind" "I") (List.mem_of_getElem? (i := 2) rfl)) (fun _ h9 => h9) rfl dX4_become_18 ?_
    refine va_put (D := G) (ci := 3) (v := .int (giC (siC (siC S x0 0 (giC S (x1.getD 0) 0)) x0 1 (giC (siC S x0 0 (giC S (x1.getD 0) 0)) (x1.getD 0) 1)) (x1.getD 0) 2)) (ty := .int) (C := RX4) (T := TX4) (N := 16) hx hb hts iX4 tyX4 tyX4_ok nmX4 hown hK hP hD hS x0 (at_3 (k_x0.e hZ)) rfl 2 (by decide) (hw (.fieldLink RX4 36 "MotionFloor$Motion" "kind" "I") (List.mem_of_getElem? (i := 2) rfl)) (fun _ h9 => h9) rfl (by decide +kernel) rfl rfl (Nat.le_of_ble_eq_true rfl) dX4_become_21 (fun H locs hP hD hS => ?_)
    rw [st_3_2 (k_x0.e hZ)] at hP hD
    have hZ := hZ.tr (eK.si (siC (siC S x0 0 (giC S (x1.getD 0) 0)) x0 1 (giC (siC S x0 0 (giC S (x1.getD 0) 0)) (x1.getD 0) 1)) x0 2 (giC (siC (siC S x0 0 (giC S (x1.getD 0) 0)) x0 1 (giC (siC S x0 0 (giC S (x1.getD 0) 0)) (x1.getD 0) 1)) (x1.getD 0) 2))
    refine lv_aload_n hx hb dX4_become_24 rfl (lv_at hl 0 rfl) ?_
    refine cAload_n (ad := ad) (r := x1) hx hb dX4_become_25 rfl (lv_at hl 1 rfl) ?_
    obtain ⟨hy4, hp⟩ := hp
    refine cTop (r := x1) hy4.1 ?_
    refine va_get (D := G) (ci := 3) (v := .int (giC (siC (siC (siC S x0 0 (giC S (x1.getD 0) 0)) x0 1 (giC (siC S x0 0 (giC S (x1.getD 0) 0)) (x1.getD 0) 1)) x0 2 (giC (siC (siC S x0 0 (giC S (x1.getD 0) 0)) x0 1 (giC (siC S x0 0 (giC S (x1.getD 0) 0)) (x1.getD 0) 1)) (x1.getD 0) 2)) (x1.getD 0) 3)) (C := RX4) (T := TX4) (N := 16) hx hb hts iX4 hown hK hP (x1.getD 0) (at_3 hy4.2) rfl 3 (by decide) (hw (.fieldLink RX4 39 "MotionFloor$Motion" "mover" "I") (List.mem_of_getElem? (i := 3) rfl)) (fun _ h9 => h9) rfl dX4_become_26 ?_
    refine va_put (D := G) (ci := 3) (v := .int (giC (siC (siC (siC S x0 0 (giC S (x1.getD 0) 0)) x0 1 (giC (siC S x0 0 (giC S (x1.getD 0) 0)) (x1.getD 0) 1)) x0 2 (giC (siC (siC S x0 0 (giC S (x1.getD 0) 0)) x0 1 (giC (siC S x0 0 (giC S (x1.getD 0) 0)) (x1.getD 0) 1)) (x1.getD 0) 2)) (x1.getD 0) 3)) (ty := .int) (C := RX4) (T := TX4) (N := 16) hx hb hts iX4 tyX4 tyX4_ok nmX4 hown hK hP hD hS x0 (at_3 (k_x0.e hZ)) rfl 3 (by decide) (hw (.fieldLink RX4 39 "MotionFloor$Motion" "mover" "I") (List.mem_of_getElem? (i := 3) rfl)) (fun _ h9 => h9) rfl (by decide +kernel) rfl rfl (Nat.le_of_ble_eq_true rfl) dX4_become_29 (fun H locs hP hD hS => ?_)
    rw [st_3_3 (k_x0.e hZ)] at hP hD
    have hZ := hZ.tr (eK.si (siC (siC (siC S x0 0 (giC S (x1.getD 0) 0)) x0 1 (giC (siC S x0 0 (giC S (x1.getD 0) 0)) (x1.getD 0) 1)) x0 2 (giC (siC (siC S x0 0 (giC S (x1.getD 0) 0)) x0 1 (giC (siC S x0 0 (giC S (x1.getD 0) 0)) (x1.getD 0) 1)) (x1.getD 0) 2)) x0 3 (giC (siC (siC (siC S x0 0 (giC S (x1.getD 0) 0)) x0 1 (giC (siC S x0 0 (giC S (x1.getD 0) 0)) (x1.getD 0) 1)) x0 2 (giC (siC (siC S x0 0 (giC S (x1.getD 0) 0)) x0 1 (giC (siC S x0 0 (giC S (x1.getD 0) 0)) (x1.getD 0) 1)) (x1.getD 0) 2)) (x1.getD 0) 3))
    exact B_Y4_become_32a (siC (siC (siC (siC S x0 0 (giC S (x1.getD 0) 0)) x0 1 (giC (siC S x0 0 (giC S (x1.getD 0) 0)) (x1.getD 0) 1)) x0 2 (giC (siC (siC S x0 0 (giC S (x1.getD 0) 0)) x0 1 (giC (siC S x0 0 (giC S (x1.getD 0) 0)) (x1.getD 0) 1)) (x1.getD 0) 2)) x0 3 (giC (siC (siC (siC S x0 0 (giC S (x1.getD 0) 0)) x0 1 (giC (siC S x0 0 (giC S (x1.getD 0) 0)) (x1.getD 0) 1)) x0 2 (giC (siC (siC S x0 0 (giC S (x1.getD 0) 0)) x0 1 (giC (siC S x0 0 (giC S (x1.getD 0) 0)) (x1.getD 0) 1)) (x1.getD 0) 2)) (x1.getD 0) 3)) x1 _ _ _ hE hp hZ hP hD hS (lv_sub hl [0, 1] rfl)
  exact B_M S0 a1 _ _ _ hX hp (eK.rf S0) hP hD hS hl
theorem gdX4_needsPlace_0 : ckS (List.drop 0 cX4_needsPlace.data.toList) 0 [(0, .aload_n 0, 1), (1, .getfield 36, 3), (4, .iconst 4, 1), (5, .if_icmp .eq 20, 3), (8, .aload_n 0, 1), (9, .getfield 36, 3), (12, .iconst 5, 1), (13, .if_icmp .eq 12, 3), (16, .aload_n 0, 1), (17, .getfield 36, 3), (20, .bipush 7, 2), (22, .if_icmp .ne 7, 3), (25, .iconst 1, 1), (26, .goto 4, 3), (29, .iconst 0, 1), (30, .ireturn, 1)] = true := by decide +kernel
theorem dX4_needsPlace_0 : decode cX4_needsPlace 0 = .ok (.aload_n 0, 1) := ckS_g gdX4_needsPlace_0 0 rfl
theorem dX4_needsPlace_1 : decode cX4_needsPlace 1 = .ok (.getfield 36, 3) := ckS_g gdX4_needsPlace_0 1 rfl
theorem dX4_needsPlace_4 : decode cX4_needsPlace 4 = .ok (.iconst 4, 1) := ckS_g gdX4_needsPlace_0 2 rfl
theorem dX4_needsPlace_5 : decode cX4_needsPlace 5 = .ok (.if_icmp .eq 20, 3) := ckS_g gdX4_needsPlace_0 3 rfl
theorem dX4_needsPlace_8 : decode cX4_needsPlace 8 = .ok (.aload_n 0, 1) := ckS_g gdX4_needsPlace_0 4 rfl
theorem dX4_needsPlace_9 : decode cX4_needsPlace 9 = .ok (.getfield 36, 3) := ckS_g gdX4_needsPlace_0 5 rfl
theorem dX4_needsPlace_12 : decode cX4_needsPlace 12 = .ok (.iconst 5, 1) := ckS_g gdX4_needsPlace_0 6 rfl
theorem dX4_needsPlace_13 : decode cX4_needsPlace 13 = .ok (.if_icmp .eq 12, 3) := ckS_g gdX4_needsPlace_0 7 rfl
theorem dX4_needsPlace_16 : decode cX4_needsPlace 16 = .ok (.aload_n 0, 1) := ckS_g gdX4_needsPlace_0 8 rfl
theorem dX4_needsPlace_17 : decode cX4_needsPlace 17 = .ok (.getfield 36, 3) := ckS_g gdX4_needsPlace_0 9 rfl
theorem dX4_needsPlace_20 : decode cX4_needsPlace 20 = .ok (.bipush 7, 2) := ckS_g gdX4_needsPlace_0 10 rfl
theorem dX4_needsPlace_22 : decode cX4_needsPlace 22 = .ok (.if_icmp .ne 7, 3) := ckS_g gdX4_needsPlace_0 11 rfl
theorem dX4_needsPlace_25 : decode cX4_needsPlace 25 = .ok (.iconst 1, 1) := ckS_g gdX4_needsPlace_0 12 rfl
theorem dX4_needsPlace_26 : decode cX4_needsPlace 26 = .ok (.goto 4, 3) := ckS_g gdX4_needsPlace_0 13 rfl
theorem dX4_needsPlace_29 : decode cX4_needsPlace 29 = .ok (.iconst 0, 1) := ckS_g gdX4_needsPlace_0 14 rfl
theorem dX4_needsPlace_30 : decode cX4_needsPlace 30 = .ok (.ireturn, 1) := ckS_g gdX4_needsPlace_0 15 rfl
set_option maxRecDepth 100000 in
theorem zc281 : wZ (.code yX4_needsPlace cX4_needsPlace 1 (some .boolean)) := ⟨wT2 (List.mem_of_getElem? (i := 138) rfl), Or.inl rfl⟩
def b_Y4_needsPlace_30 (S : Cst) (x0 : Nat) (y0 : Int32) : Int32 := y0
def q_Y4_needsPlace_30 (S : Cst) (x0 : Nat) (y0 : Int32) : Prop := (narrow .boolean (.int y0) = .int y0) ∧ True
def b_Y4_needsPlace_25 (S : Cst) (x0 : Nat)  : Int32 := (b_Y4_needsPlace_30 S x0 1)
def q_Y4_needsPlace_25 (S : Cst) (x0 : Nat)  : Prop := (q_Y4_needsPlace_30 S x0 1)
def f_Y4_needsPlace (S : Cst) (x0 : Nat) : Int32 := if (giC S x0 2) = 4 then (b_Y4_needsPlace_25 S x0) else if (giC S x0 2) = 5 then (b_Y4_needsPlace_25 S x0) else if (giC S x0 2) = 7 then (b_Y4_needsPlace_25 S x0) else (b_Y4_needsPlace_30 S x0 0)
def p_Y4_needsPlace (S : Cst) (x0 : Nat) : Prop := (if (giC S x0 2) = 4 then (q_Y4_needsPlace_25 S x0) else (if (giC S x0 2) = 5 then (q_Y4_needsPlace_25 S x0) else (if (giC S x0 2) = 7 then (q_Y4_needsPlace_25 S x0) else (q_Y4_needsPlace_30 S x0 0))))
def e_Y4_needsPlace : List Cond := [.fieldLink RX4 36 "MotionFloor$Motion" "kind" "I"]
def v_Y4_needsPlace : List Cond := .code yX4_needsPlace cX4_needsPlace 1 (some .boolean) :: (e_Y4_needsPlace ++ (wsX40 ++ []))
theorem te_Y4_needsPlace : GoodIn lw_tbl e_Y4_needsPlace := wGc zc166 (wG0)
theorem t_Y4_needsPlace : GoodIn lw_tbl v_Y4_needsPlace := wGc zc281 (wGa te_Y4_needsPlace (wGa zcX4 (wG0)))
set_option maxHeartbeats 4000000 in
set_option maxRecDepth 100000 in
theorem c_Y4_needsPlace (l : Launch) (G : va_G) (K : Nat → ClassId) (ad : Nat → Nat) (S : Cst) (x0 : Nat)  (sz : Nat) : Met l yX4_needsPlace v_Y4_needsPlace ({ frames := 0, cells := 0, slots := 0, locals := 0 }) (va_Pc [.ref (ad x0)] (cSt G K ad sz S (iK S x0 3 ∧ p_Y4_needsPlace S x0))) (va_Qi (fun (r : Int32) (u : Cst) => (r, u) = (f_Y4_needsPlace S x0, S)) (cBt G K ad (va_A (wsC K ad S) sz)) (va_A (wsC K ad S) sz)) 0 0 (va_A (wsC K ad S) sz) := by
  refine Met.ofW (cc := cX4_needsPlace) (maxL := 1) (ret := (some .boolean)) (by decide) rfl ?_
  intro p e s m args below meth c s₁ B hml hv
  obtain ⟨rfl, ⟨hsz, hP, hK, hD0, hTE⟩, hp⟩ := hv
  obtain ⟨k_x0, hp⟩ := hp
  have hx := B.exec
  have hb := B.bytes
  have hr := B.returns
  have hts := atoms_spec (ws := v_Y4_needsPlace) B.pre
  have t_ := t_Y4_needsPlace
  have mw : ∀ w ∈ e_Y4_needsPlace, w ∈ v_Y4_needsPlace := fun w h => List.mem_cons_of_mem _ (List.mem_append_left _ h)
  have hw := fun w (h : w ∈ e_Y4_needsPlace) => hts w (mw w h)
  have iX4 : ∀ w ∈ wsX40, w ∈ v_Y4_needsPlace := fun w h => List.mem_cons_of_mem _ (List.mem_append_right _ (List.mem_append_left _ h))
  have hown : s.vm.findClass RX4 = some m.cls := findClass_of_methodNamed B.named
  have hlocks := B.notSynchronized
  subst hsz
  have hD := hD0.self (sz := s.heap.size)
  generalize hAe : va_A (wsC K ad S) s.heap.size = A at hD ⊢
  have hA : ∀ q : Nat, s.heap.size ≤ q → A q := fun q h => by rw [← hAe]; exact Or.inr h
  have hS : va_S A s.heap s.heap [] := va_S.rf
  have hl : lv_has (lg_sl ([.ref (ad x0)]) ++ List.replicate (1 - (lg_sl ([.ref (ad x0)])).length) Slot.unset).toArray 1 [(0, .ref (ad x0))] := by
    exact lv_entry ([.ref (ad x0)]) (n := 1) (Nat.le_of_ble_eq_true rfl)
  rw [lg_entry_eq]
  generalize (lg_sl ([.ref (ad x0)]) ++ List.replicate (1 - (lg_sl ([.ref (ad x0)])).length) Slot.unset).toArray = ls_ at hl ⊢
  refine wGen (fun Q hQ => ?_)
  obtain ⟨X, hX⟩ : ∃ X, f_Y4_needsPlace S x0 = X := ⟨_, rfl⟩
  have B_Y4_needsPlace_30 : ∀ (y0 : Int32) (H : Heap) (locs : List Loc) (ls_ : Array Slot), b_Y4_needsPlace_30 S x0 y0 = X → q_Y4_needsPlace_30 S x0 y0 → va_P G vwCl (wsC K ad S) H → va_D A (wsC K ad S) → va_S A s.heap H locs → lv_has ls_ 1 [(0, .ref (ad x0))] → W p l e ({ frames := 0, cells := 0, slots := 0, locals := 0 } : Room) s m #[Value.ref (ad x0)] below meth c H locs 0 0 Q (F0 m 30 ls_ [.int y0]) := by
    intro y0 H locs ls_ hE hp hP hD hS hl
    unfold b_Y4_needsPlace_30 at hE
    unfold q_Y4_needsPlace_30 at hp
    obtain ⟨hy2, hp⟩ := hp
    subst hQ
    exact W.zret (v := y0) (ty := .boolean) hx hb hr hy2 (fun t ht hW => ⟨⟨y0, S, rfl, (pair_i (hE.trans hX.symm)), by rw [ht]; exact hP, hD⟩, hS.F ht⟩) hS.2.2 dX4_needsPlace_30
  have B_Y4_needsPlace_25 : ∀  (H : Heap) (locs : List Loc) (ls_ : Array Slot), b_Y4_needsPlace_25 S x0 = X → q_Y4_needsPlace_25 S x0 → va_P G vwCl (wsC K ad S) H → va_D A (wsC K ad S) → va_S A s.heap H locs → lv_has ls_ 1 [(0, .ref (ad x0))] → W p l e ({ frames := 0, cells := 0, slots := 0, locals := 0 } : Room) s m #[Value.ref (ad x0)] below meth c H locs 0 0 Q (F0 m 25 ls_ []) := by
    intro  H locs ls_ hE hp hP hD hS hl
    unfold b_Y4_needsPlace_25 at hE
    unfold q_Y4_needsPlace_25 at hp
    refine lv_iconst (v := 1) hx hb dX4_needsPlace_25 (by decide) ?_
    refine lv_goto (tgt := 30) hx hb dX4_needsPlace_26 (by decide) ?_
    exact B_Y4_needsPlace_30 1 _ _ _ hE hp hP hD hS (lv_sub hl [0] rfl)
  have B_M : ∀ (H : Heap) (locs : List Loc) (ls_ : Array Slot), f_Y4_needsPlace S x0 = X → p_Y4_needsPlace S x0 → va_P G vwCl (wsC K ad S) H → va_D A (wsC K ad S) → va_S A s.heap H locs → lv_has ls_ 1 [(0, .ref (ad x0))] → W p l e ({ frames := 0, cells := 0, slots := 0, locals := 0 } : Room) s m #[Value.ref (ad x0)] below meth c H locs 0 0 Q (F0 m 0 ls_ []) := by
    intro  H locs ls_ hE hp hP hD hS hl
    unfold f_Y4_needsPlace at hE
    unfold p_Y4_needsPlace at hp
    refine lv_aload_n hx hb dX4_needsPlace_0 rfl (lv_at hl 0 rfl) ?_
    refine va_get (D := G) (ci := 3) (v := .int (giC S x0 2)) (C := RX4) (T := TX4) (N := 16) hx hb hts iX4 hown hK hP x0 (at_3 k_x0) rfl 2 (by decide) (hw (.fieldLink RX4 36 "MotionFloor$Motion" "kind" "I") (List.mem_of_getElem? (i := 0) rfl)) (fun _ h9 => h9) rfl dX4_needsPlace_1 ?_
    refine lv_iconst (v := 4) hx hb dX4_needsPlace_4 (by decide) ?_
    refine lv_icmp_eq (tgt := 25) hx hb dX4_needsPlace_5 (by decide) (fun c1 => ?_) (fun c1 => ?_)
    · rw [if_pos c1] at hE hp
      exact B_Y4_needsPlace_25  _ _ _ hE hp hP hD hS (lv_sub hl [0] rfl)
    · rw [if_neg c1] at hE hp
      refine lv_aload_n hx hb dX4_needsPlace_8 rfl (lv_at hl 0 rfl) ?_
      refine va_get (D := G) (ci := 3) (v := .int (giC S x0 2)) (C := RX4) (T := TX4) (N := 16) hx hb hts iX4 hown hK hP x0 (at_3 k_x0) rfl 2 (by decide) (hw (.fieldLink RX4 36 "MotionFloor$Motion" "kind" "I") (List.mem_of_getElem? (i := 0) rfl)) (fun _ h9 => h9) rfl dX4_needsPlace_9 ?_
      refine lv_iconst (v := 5) hx hb dX4_needsPlace_12 (by decide) ?_
      refine lv_icmp_eq (tgt := 25) hx hb dX4_needsPlace_13 (by decide) (fun c3 => ?_) (fun c3 => ?_)
      · rw [if_pos c3] at hE hp
        exact B_Y4_needsPlace_25  _ _ _ hE hp hP hD hS (lv_sub hl [0] rfl)
      · rw [if_neg c3] at hE hp
        refine lv_aload_n hx hb dX4_needsPlace_16 rfl (lv_at hl 0 rfl) ?_
        refine va_get (D := G) (ci := 3) (v := .int (giC S x0 2)) (C := RX4) (T := TX4) (N := 16) hx hb hts iX4 hown hK hP x0 (at_3 k_x0) rfl 2 (by decide) (hw (.fieldLink RX4 36 "MotionFloor$Motion" "kind" "I") (List.mem_of_getElem? (i := 0) rfl)) (fun _ h9 => h9) rfl dX4_needsPlace_17 ?_
        refine lv_bipush (v := 7) hx hb dX4_needsPlace_20 (by decide) ?_
        refine lv_icmp_ne (tgt := 29) hx hb dX4_needsPlace_22 (by decide) (fun c4 => ?_) (fun c4 => ?_)
        · rw [if_neg c4] at hE hp
          refine lv_iconst (v := 0) hx hb dX4_needsPlace_29 (by decide) ?_
          exact B_Y4_needsPlace_30 0 _ _ _ hE hp hP hD hS (lv_sub hl [0] rfl)
        · rw [if_pos c4] at hE hp
          exact B_Y4_needsPlace_25  _ _ _ hE hp hP hD hS (lv_sub hl [0] rfl)
  exact B_M  _ _ _ hX hp hP hD hS hl
theorem gdX4_canBeAbout_0 : ckS (List.drop 0 cX4_canBeAbout.data.toList) 0 [(0, .aload_n 1, 1), (1, .ifnonnull 5, 3), (4, .iconst 0, 1), (5, .ireturn, 1), (6, .aload_n 0, 1), (7, .getfield 36, 3), (10, .iconst 3, 1), (11, .if_icmp .ne 17, 3), (14, .aload_n 1, 1), (15, .getfield 36, 3), (18, .iconst 2, 1), (19, .if_icmp .ne 7, 3), (22, .iconst 1, 1), (23, .goto 4, 3), (26, .iconst 0, 1), (27, .ireturn, 1), (28, .aload_n 0, 1), (29, .getfield 36, 3), (32, .iconst 2, 1), (33, .if_icmp .ne 31, 3), (36, .aload_n 1, 1), (37, .getfield 36, 3), (40, .iconst 1, 1), (41, .if_icmp .eq 19, 3), (44, .aload_n 1, 1), (45, .getfield 36, 3), (48, .iconst 4, 1), (49, .if_icmp .eq 11, 3), (52, .aload_n 1, 1), (53, .getfield 36, 3), (56, .iconst 5, 1), (57, .if_icmp .ne 7, 3), (60, .iconst 1, 1), (61, .goto 4, 3), (64, .iconst 0, 1), (65, .ireturn, 1)] = true := by decide +kernel
theorem dX4_canBeAbout_0 : decode cX4_canBeAbout 0 = .ok (.aload_n 1, 1) := ckS_g gdX4_canBeAbout_0 0 rfl
theorem dX4_canBeAbout_1 : decode cX4_canBeAbout 1 = .ok (.ifnonnull 5, 3) := ckS_g gdX4_canBeAbout_0 1 rfl
theorem dX4_canBeAbout_4 : decode cX4_canBeAbout 4 = .ok (.iconst 0, 1) := ckS_g gdX4_canBeAbout_0 2 rfl
theorem dX4_canBeAbout_5 : decode cX4_canBeAbout 5 = .ok (.ireturn, 1) := ckS_g gdX4_canBeAbout_0 3 rfl
theorem dX4_canBeAbout_6 : decode cX4_canBeAbout 6 = .ok (.aload_n 0, 1) := ckS_g gdX4_canBeAbout_0 4 rfl
theorem dX4_canBeAbout_7 : decode cX4_canBeAbout 7 = .ok (.getfield 36, 3) := ckS_g gdX4_canBeAbout_0 5 rfl
theorem dX4_canBeAbout_10 : decode cX4_canBeAbout 10 = .ok (.iconst 3, 1) := ckS_g gdX4_canBeAbout_0 6 rfl
theorem dX4_canBeAbout_11 : decode cX4_canBeAbout 11 = .ok (.if_icmp .ne 17, 3) := ckS_g gdX4_canBeAbout_0 7 rfl
theorem dX4_canBeAbout_14 : decode cX4_canBeAbout 14 = .ok (.aload_n 1, 1) := ckS_g gdX4_canBeAbout_0 8 rfl
theorem dX4_canBeAbout_15 : decode cX4_canBeAbout 15 = .ok (.getfield 36, 3) := ckS_g gdX4_canBeAbout_0 9 rfl
theorem dX4_canBeAbout_18 : decode cX4_canBeAbout 18 = .ok (.iconst 2, 1) := ckS_g gdX4_canBeAbout_0 10 rfl
theorem dX4_canBeAbout_19 : decode cX4_canBeAbout 19 = .ok (.if_icmp .ne 7, 3) := ckS_g gdX4_canBeAbout_0 11 rfl
theorem dX4_canBeAbout_22 : decode cX4_canBeAbout 22 = .ok (.iconst 1, 1) := ckS_g gdX4_canBeAbout_0 12 rfl
theorem dX4_canBeAbout_23 : decode cX4_canBeAbout 23 = .ok (.goto 4, 3) := ckS_g gdX4_canBeAbout_0 13 rfl
theorem dX4_canBeAbout_26 : decode cX4_canBeAbout 26 = .ok (.iconst 0, 1) := ckS_g gdX4_canBeAbout_0 14 rfl
theorem dX4_canBeAbout_27 : decode cX4_canBeAbout 27 = .ok (.ireturn, 1) := ckS_g gdX4_canBeAbout_0 15 rfl
theorem dX4_canBeAbout_28 : decode cX4_canBeAbout 28 = .ok (.aload_n 0, 1) := ckS_g gdX4_canBeAbout_0 16 rfl
theorem dX4_canBeAbout_29 : decode cX4_canBeAbout 29 = .ok (.getfield 36, 3) := ckS_g gdX4_canBeAbout_0 17 rfl
theorem dX4_canBeAbout_32 : decode cX4_canBeAbout 32 = .ok (.iconst 2, 1) := ckS_g gdX4_canBeAbout_0 18 rfl
theorem dX4_canBeAbout_33 : decode cX4_canBeAbout 33 = .ok (.if_icmp .ne 31, 3) := ckS_g gdX4_canBeAbout_0 19 rfl
theorem dX4_canBeAbout_36 : decode cX4_canBeAbout 36 = .ok (.aload_n 1, 1) := ckS_g gdX4_canBeAbout_0 20 rfl
theorem dX4_canBeAbout_37 : decode cX4_canBeAbout 37 = .ok (.getfield 36, 3) := ckS_g gdX4_canBeAbout_0 21 rfl
theorem dX4_canBeAbout_40 : decode cX4_canBeAbout 40 = .ok (.iconst 1, 1) := ckS_g gdX4_canBeAbout_0 22 rfl
theorem dX4_canBeAbout_41 : decode cX4_canBeAbout 41 = .ok (.if_icmp .eq 19, 3) := ckS_g gdX4_canBeAbout_0 23 rfl
theorem dX4_canBeAbout_44 : decode cX4_canBeAbout 44 = .ok (.aload_n 1, 1) := ckS_g gdX4_canBeAbout_0 24 rfl
theorem dX4_canBeAbout_45 : decode cX4_canBeAbout 45 = .ok (.getfield 36, 3) := ckS_g gdX4_canBeAbout_0 25 rfl
theorem dX4_canBeAbout_48 : decode cX4_canBeAbout 48 = .ok (.iconst 4, 1) := ckS_g gdX4_canBeAbout_0 26 rfl
theorem dX4_canBeAbout_49 : decode cX4_canBeAbout 49 = .ok (.if_icmp .eq 11, 3) := ckS_g gdX4_canBeAbout_0 27 rfl
theorem dX4_canBeAbout_52 : decode cX4_canBeAbout 52 = .ok (.aload_n 1, 1) := ckS_g gdX4_canBeAbout_0 28 rfl
theorem dX4_canBeAbout_53 : decode cX4_canBeAbout 53 = .ok (.getfield 36, 3) := ckS_g gdX4_canBeAbout_0 29 rfl
theorem dX4_canBeAbout_56 : decode cX4_canBeAbout 56 = .ok (.iconst 5, 1) := ckS_g gdX4_canBeAbout_0 30 rfl
theorem dX4_canBeAbout_57 : decode cX4_canBeAbout 57 = .ok (.if_icmp .ne 7, 3) := ckS_g gdX4_canBeAbout_0 31 rfl
theorem dX4_canBeAbout_60 : decode cX4_canBeAbout 60 = .ok (.iconst 1, 1) := ckS_g gdX4_canBeAbout_0 32 rfl
theorem dX4_canBeAbout_61 : decode cX4_canBeAbout 61 = .ok (.goto 4, 3) := ckS_g gdX4_canBeAbout_0 33 rfl
theorem dX4_canBeAbout_64 : decode cX4_canBeAbout 64 = .ok (.iconst 0, 1) := ckS_g gdX4_canBeAbout_0 34 rfl
theorem dX4_canBeAbout_65 : decode cX4_canBeAbout 65 = .ok (.ireturn, 1) := ckS_g gdX4_canBeAbout_0 35 rfl
set_option maxRecDepth 100000 in
theorem zc282 : wZ (.code yX4_canBeAbout cX4_canBeAbout 2 (some .boolean)) := ⟨wT2 (List.mem_of_getElem? (i := 125) rfl), Or.inl rfl⟩
def b_Y4_canBeAbout_65 (S : Cst) (x0 : Nat) (x1 : Option Nat) (y0 : Int32) : Int32 := y0
def q_Y4_canBeAbout_65 (S : Cst) (x0 : Nat) (x1 : Option Nat) (y0 : Int32) : Prop := (narrow .boolean (.int y0) = .int y0) ∧ True
def b_Y4_canBeAbout_64 (S : Cst) (x0 : Nat) (x1 : Option Nat) : Int32 := (b_Y4_canBeAbout_65 S x0 x1 0)
def q_Y4_canBeAbout_64 (S : Cst) (x0 : Nat) (x1 : Option Nat) : Prop := (q_Y4_canBeAbout_65 S x0 x1 0)
def b_Y4_canBeAbout_60 (S : Cst) (x0 : Nat) (x1 : Option Nat) : Int32 := (b_Y4_canBeAbout_65 S x0 x1 1)
def q_Y4_canBeAbout_60 (S : Cst) (x0 : Nat) (x1 : Option Nat) : Prop := (q_Y4_canBeAbout_65 S x0 x1 1)
def b_Y4_canBeAbout_27 (S : Cst) (x0 : Nat) (x1 : Option Nat) (y0 : Int32) : Int32 := y0
def q_Y4_canBeAbout_27 (S : Cst) (x0 : Nat) (x1 : Option Nat) (y0 : Int32) : Prop := (narrow .boolean (.int y0) = .int y0) ∧ True
def f_Y4_canBeAbout (S : Cst) (x0 : Nat) (x1 : Option Nat) : Int32 := if x1 = none then (0 : Int32) else if (giC S x0 2) = 3 then if (giC S (x1.getD 0) 2) = 2 then (b_Y4_canBeAbout_27 S x0 x1 1) else (b_Y4_canBeAbout_27 S x0 x1 0) else if (giC S x0 2) = 2 then if (giC S (x1.getD 0) 2) = 1 then (b_Y4_canBeAbout_60 S x0 x1) else if (giC S (x1.getD 0) 2) = 4 then (b_Y4_canBeAbout_60 S x0 x1) else if (giC S (x1.getD 0) 2) = 5 then (b_Y4_canBeAbout_60 S x0 x1) else (b_Y4_canBeAbout_64 S x0 x1) else (b_Y4_canBeAbout_64 S x0 x1)
def p_Y4_canBeAbout (S : Cst) (x0 : Nat) (x1 : Option Nat) : Prop := (if x1 = none then True else (if (giC S x0 2) = 3 then (iR S x1 3) ∧ (if (giC S (x1.getD 0) 2) = 2 then (q_Y4_canBeAbout_27 S x0 x1 1) else (q_Y4_canBeAbout_27 S x0 x1 0)) else (if (giC S x0 2) = 2 then (iR S x1 3) ∧ (if (giC S (x1.getD 0) 2) = 1 then (q_Y4_canBeAbout_60 S x0 x1) else (iR S x1 3) ∧ (if (giC S (x1.getD 0) 2) = 4 then (q_Y4_canBeAbout_60 S x0 x1) else (iR S x1 3) ∧ (if (giC S (x1.getD 0) 2) = 5 then (q_Y4_canBeAbout_60 S x0 x1) else (q_Y4_canBeAbout_64 S x0 x1)))) else (q_Y4_canBeAbout_64 S x0 x1))))
def e_Y4_canBeAbout : List Cond := [.fieldLink RX4 36 "MotionFloor$Motion" "kind" "I"]
def v_Y4_canBeAbout : List Cond := .code yX4_canBeAbout cX4_canBeAbout 2 (some .boolean) :: (e_Y4_canBeAbout ++ (wsX40 ++ []))
theorem te_Y4_canBeAbout : GoodIn lw_tbl e_Y4_canBeAbout := wGc zc166 (wG0)
theorem t_Y4_canBeAbout : GoodIn lw_tbl v_Y4_canBeAbout := wGc zc282 (wGa te_Y4_canBeAbout (wGa zcX4 (wG0)))
set_option maxHeartbeats 4000000 in
set_option maxRecDepth 100000 in
theorem c_Y4_canBeAbout (l : Launch) (G : va_G) (K : Nat → ClassId) (ad : Nat → Nat) (S : Cst) (x0 : Nat) (a1 : Option Nat) (sz : Nat) : Met l yX4_canBeAbout v_Y4_canBeAbout ({ frames := 0, cells := 0, slots := 0, locals := 0 }) (va_Pc [.ref (ad x0), va_re ad a1] (cSt G K ad sz S (iK S x0 3 ∧ p_Y4_canBeAbout S x0 a1))) (va_Qi (fun (r : Int32) (u : Cst) => (r, u) = (f_Y4_canBeAbout S x0 a1, S)) (cBt G K ad (va_A (wsC K ad S) sz)) (va_A (wsC K ad S) sz)) 0 0 (va_A (wsC K ad S) sz) := by
  refine Met.ofW (cc := cX4_canBeAbout) (maxL := 2) (ret := (some .boolean)) (by decide) rfl ?_
  intro p e s m args below meth c s₁ B hml hv
  obtain ⟨rfl, ⟨hsz, hP, hK, hD0, hTE⟩, hp⟩ := hv
  obtain ⟨k_x0, hp⟩ := hp
  have hx := B.exec
  have hb := B.bytes
  have hr := B.returns
  have hts := atoms_spec (ws := v_Y4_canBeAbout) B.pre
  have t_ := t_Y4_canBeAbout
  have mw : ∀ w ∈ e_Y4_canBeAbout, w ∈ v_Y4_canBeAbout := fun w h => List.mem_cons_of_mem _ (List.mem_append_left _ h)
  have hw := fun w (h : w ∈ e_Y4_canBeAbout) => hts w (mw w h)
  have iX4 : ∀ w ∈ wsX40, w ∈ v_Y4_canBeAbout := fun w h => List.mem_cons_of_mem _ (List.mem_append_right _ (List.mem_append_left _ h))
  have hown : s.vm.findClass RX4 = some m.cls := findClass_of_methodNamed B.named
  have hlocks := B.notSynchronized
  subst hsz
  have hD := hD0.self (sz := s.heap.size)
  generalize hAe : va_A (wsC K ad S) s.heap.size = A at hD ⊢
  have hA : ∀ q : Nat, s.heap.size ≤ q → A q := fun q h => by rw [← hAe]; exact Or.inr h
  have hS : va_S A s.heap s.heap [] := va_S.rf
  have hl : lv_has (lg_sl ([.ref (ad x0), va_re ad a1]) ++ List.replicate (2 - (lg_sl ([.ref (ad x0), va_re ad a1])).length) Slot.unset).toArray 2 [(0, .ref (ad x0)), (1, va_re ad a1)] := by
    cases a1 <;> exact lv_entry _ (n := 2) (Nat.le_of_ble_eq_true rfl)
  rw [lg_entry_eq]
  generalize (lg_sl ([.ref (ad x0), va_re ad a1]) ++ List.replicate (2 - (lg_sl ([.ref (ad x0), va_re ad a1])).length) Slot.unset).toArray = ls_ at hl ⊢
  refine wGen (fun Q hQ => ?_)
  obtain ⟨X, hX⟩ : ∃ X, f_Y4_canBeAbout S x0 a1 = X := ⟨_, rfl⟩
  have B_Y4_canBeAbout_65 : ∀ (x1 : Option Nat) (y0 : Int32) (H : Heap) (locs : List Loc) (ls_ : Array Slot), b_Y4_canBeAbout_65 S x0 x1 y0 = X → q_Y4_canBeAbout_65 S x0 x1 y0 → va_P G vwCl (wsC K ad S) H → va_D A (wsC K ad S) → va_S A s.heap H locs → lv_has ls_ 2 [(0, .ref (ad x0)), (1, va_re ad x1)] → W p l e ({ frames := 0, cells := 0, slots := 0, locals := 0 } : Room) s m #[Value.ref (ad x0), va_re ad a1] below meth c H locs 0 0 Q (F0 m 65 ls_ [.int y0]) := by
    intro x1 y0 H locs ls_ hE hp hP hD hS hl
    unfold b_Y4_canBeAbout_65 at hE
    unfold q_Y4_canBeAbout_65 at hp
    obtain ⟨hy4, hp⟩ := hp
    subst hQ
    exact W.zret (v := y0) (ty := .boolean) hx hb hr hy4 (fun t ht hW => ⟨⟨y0, S, rfl, (pair_i (hE.trans hX.symm)), by rw [ht]; exact hP, hD⟩, hS.F ht⟩) hS.2.2 dX4_canBeAbout_65
  have B_Y4_canBeAbout_64 : ∀ (x1 : Option Nat) (H : Heap) (locs : List Loc) (ls_ : Array Slot), b_Y4_canBeAbout_64 S x0 x1 = X → q_Y4_canBeAbout_64 S x0 x1 → va_P G vwCl (wsC K ad S) H → va_D A (wsC K ad S) → va_S A s.heap H locs → lv_has ls_ 2 [(0, .ref (ad x0)), (1, va_re ad x1)] → W p l e ({ frames := 0, cells := 0, slots := 0, locals := 0 } : Room) s m #[Value.ref (ad x0), va_re ad a1] below meth c H locs 0 0 Q (F0 m 64 ls_ []) := by
    intro x1 H locs ls_ hE hp hP hD hS hl
    unfold b_Y4_canBeAbout_64 at hE
    unfold q_Y4_canBeAbout_64 at hp
    refine lv_iconst (v := 0) hx hb dX4_canBeAbout_64 (by decide) ?_
    exact B_Y4_canBeAbout_65 x1 0 _ _ _ hE hp hP hD hS (lv_sub hl [0, 1] rfl)
  have B_Y4_canBeAbout_60 : ∀ (x1 : Option Nat) (H : Heap) (locs : List Loc) (ls_ : Array Slot), b_Y4_canBeAbout_60 S x0 x1 = X → q_Y4_canBeAbout_60 S x0 x1 → va_P G vwCl (wsC K ad S) H → va_D A (wsC K ad S) → va_S A s.heap H locs → lv_has ls_ 2 [(0, .ref (ad x0)), (1, va_re ad x1)] → W p l e ({ frames := 0, cells := 0, slots := 0, locals := 0 } : Room) s m #[Value.ref (ad x0), va_re ad a1] below meth c H locs 0 0 Q (F0 m 60 ls_ []) := by
    intro x1 H locs ls_ hE hp hP hD hS hl
    unfold b_Y4_canBeAbout_60 at hE
    unfold q_Y4_canBeAbout_60 at hp
    refine lv_iconst (v := 1) hx hb dX4_canBeAbout_60 (by decide) ?_
    refine lv_goto (tgt := 65) hx hb dX4_canBeAbout_61 (by decide) ?_
    exact B_Y4_canBeAbout_65 x1 1 _ _ _ hE hp hP hD hS (lv_sub hl [0, 1] rfl)
  have B_Y4_canBeAbout_27 : ∀ (x1 : Option Nat) (y0 : Int32) (H : Heap) (locs : List Loc) (ls_ : Array Slot), b_Y4_canBeAbout_27 S x0 x1 y0 = X → q_Y4_canBeAbout_27 S x0 x1 y0 → va_P G vwCl (wsC K ad S) H → va_D A (wsC K ad S) → va_S A s.heap H locs → lv_has ls_ 2 [(0, .ref (ad x0)), (1, va_re ad x1)] → W p l e ({ frames := 0, cells := 0, slots := 0, locals := 0 } : Room) s m #[Value.ref (ad x0), va_re ad a1] below meth c H locs 0 0 Q (F0 m 27 ls_ [.int y0]) := by
    intro x1 y0 H locs ls_ hE hp hP hD hS hl
    unfold b_Y4_canBeAbout_27 at hE
    unfold q_Y4_canBeAbout_27 at hp
    obtain ⟨hy13, hp⟩ := hp
    subst hQ
    exact W.zret (v := y0) (ty := .boolean) hx hb hr hy13 (fun t ht hW => ⟨⟨y0, S, rfl, (pair_i (hE.trans hX.symm)), by rw [ht]; exact hP, hD⟩, hS.F ht⟩) hS.2.2 dX4_canBeAbout_27
  have B_M : ∀ (x1 : Option Nat) (H : Heap) (locs : List Loc) (ls_ : Array Slot), f_Y4_canBeAbout S x0 x1 = X → p_Y4_canBeAbout S x0 x1 → va_P G vwCl (wsC K ad S) H → va_D A (wsC K ad S) → va_S A s.heap H locs → lv_has ls_ 2 [(0, .ref (ad x0)), (1, va_re ad x1)] → W p l e ({ frames := 0, cells := 0, slots := 0, locals := 0 } : Room) s m #[Value.ref (ad x0), va_re ad a1] below meth c H locs 0 0 Q (F0 m 0 ls_ []) := by
    intro x1 H locs ls_ hE hp hP hD hS hl
    unfold f_Y4_canBeAbout at hE
    unfold p_Y4_canBeAbout at hp
    refine cAload_n (ad := ad) (r := x1) hx hb dX4_canBeAbout_0 rfl (lv_at hl 1 rfl) ?_
    refine cIfnonnull (ad := ad) (r := x1) (tgt := 6) hx hb dX4_canBeAbout_1 (by decide) (fun c1 => ?_) (fun c1 => ?_)
    · rw [if_pos c1] at hE hp
      refine lv_iconst (v := 0) hx hb dX4_canBeAbout_4 (by decide) ?_
      subst hQ
      exact W.zret (v := (0 : Int32)) (ty := .boolean) hx hb hr rfl (fun t ht hW => ⟨⟨(0 : Int32), S, rfl, (pair_i (hE.trans hX.symm)), by rw [ht]; exact hP, hD⟩, hS.F ht⟩) hS.2.2 dX4_canBeAbout_5
    · rw [if_neg c1] at hE hp
      refine lv_aload_n hx hb dX4_canBeAbout_6 rfl (lv_at hl 0 rfl) ?_
      refine va_get (D := G) (ci := 3) (v := .int (giC S x0 2)) (C := RX4) (T := TX4) (N := 16) hx hb hts iX4 hown hK hP x0 (at_3 k_x0) rfl 2 (by decide) (hw (.fieldLink RX4 36 "MotionFloor$Motion" "kind" "I") (List.mem_of_getElem? (i := 0) rfl)) (fun _ h9 => h9) rfl dX4_canBeAbout_7 ?_
      refine lv_iconst (v := 3) hx hb dX4_canBeAbout_10 (by decide) ?_
      refine lv_icmp_ne (tgt := 28) hx hb dX4_canBeAbout_11 (by decide) (fun c2 => ?_) (fun c2 => ?_)
      · rw [if_neg c2] at hE hp
        refine lv_aload_n hx hb dX4_canBeAbout_28 rfl (lv_at hl 0 rfl) ?_
        refine va_get (D := G) (ci := 3) (v := .int (giC S x0 2)) (C := RX4) (T := TX4) (N := 16) hx hb hts iX4 hown hK hP x0 (at_3 k_x0) rfl 2 (by decide) (hw (.fieldLink RX4 36 "MotionFloor$Motion" "kind" "I") (List.mem_of_getElem? (i := 0) rfl)) (fun _ h9 => h9) rfl dX4_canBeAbout_29 ?_
        refine lv_iconst (v := 2) hx hb dX4_canBeAbout_32 (by decide) ?_
        refine lv_icmp_ne (tgt := 64) hx hb dX4_canBeAbout_33 (by decide) (fun c3 => ?_) (fun c3 => ?_)
        · rw [if_neg c3] at hE hp
          exact B_Y4_canBeAbout_64 x1 _ _ _ hE hp hP hD hS (lv_sub hl [0, 1] rfl)
        · rw [if_pos c3] at hE hp
          refine cAload_n (ad := ad) (r := x1) hx hb dX4_canBeAbout_36 rfl (lv_at hl 1 rfl) ?_
          obtain ⟨hy5, hp⟩ := hp
          refine cTop (r := x1) hy5.1 ?_
          refine va_get (D := G) (ci := 3) (v := .int (giC S (x1.getD 0) 2)) (C := RX4) (T := TX4) (N := 16) hx hb hts iX4 hown hK hP (x1.getD 0) (at_3 hy5.2) rfl 2 (by decide) (hw (.fieldLink RX4 36 "MotionFloor$Motion" "kind" "I") (List.mem_of_getElem? (i := 0) rfl)) (fun _ h9 => h9) rfl dX4_canBeAbout_37 ?_
          refine lv_iconst (v := 1) hx hb dX4_canBeAbout_40 (by decide) ?_
          refine lv_icmp_eq (tgt := 60) hx hb dX4_canBeAbout_41 (by decide) (fun c6 => ?_) (fun c6 => ?_)
          · rw [if_pos c6] at hE hp
            exact B_Y4_canBeAbout_60 x1 _ _ _ hE hp hP hD hS (lv_sub hl [0, 1] rfl)
          · rw [if_neg c6] at hE hp
            refine cAload_n (ad := ad) (r := x1) hx hb dX4_canBeAbout_44 rfl (lv_at hl 1 rfl) ?_
            obtain ⟨hy7, hp⟩ := hp
            refine cTop (r := x1) hy7.1 ?_
            refine va_get (D := G) (ci := 3) (v := .int (giC S (x1.getD 0) 2)) (C := RX4) (T := TX4) (N := 16) hx hb hts iX4 hown hK hP (x1.getD 0) (at_3 hy7.2) rfl 2 (by decide) (hw (.fieldLink RX4 36 "MotionFloor$Motion" "kind" "I") (List.mem_of_getElem? (i := 0) rfl)) (fun _ h9 => h9) rfl dX4_canBeAbout_45 ?_
            refine lv_iconst (v := 4) hx hb dX4_canBeAbout_48 (by decide) ?_
            refine lv_icmp_eq (tgt := 60) hx hb dX4_canBeAbout_49 (by decide) (fun c8 => ?_) (fun c8 => ?_)
            · rw [if_pos c8] at hE hp
              exact B_Y4_canBeAbout_60 x1 _ _ _ hE hp hP hD hS (lv_sub hl [0, 1] rfl)
            · rw [if_neg c8] at hE hp
              refine cAload_n (ad := ad) (r := x1) hx hb dX4_canBeAbout_52 rfl (lv_at hl 1 rfl) ?_
              obtain ⟨hy9, hp⟩ := hp
              refine cTop (r := x1) hy9.1 ?_
              refine va_get (D := G) (ci := 3) (v := .int (giC S (x1.getD 0) 2)) (C := RX4) (T := TX4) (N := 16) hx hb hts iX4 hown hK hP (x1.getD 0) (at_3 hy9.2) rfl 2 (by decide) (hw (.fieldLink RX4 36 "MotionFloor$Motion" "kind" "I") (List.mem_of_getElem? (i := 0) rfl)) (fun _ h9 => h9) rfl dX4_canBeAbout_53 ?_
              refine lv_iconst (v := 5) hx hb dX4_canBeAbout_56 (by decide) ?_
              refine lv_icmp_ne (tgt := 64) hx hb dX4_canBeAbout_57 (by decide) (fun c10 => ?_) (fun c10 => ?_)
              · rw [if_neg c10] at hE hp
                exact B_Y4_canBeAbout_64 x1 _ _ _ hE hp hP hD hS (lv_sub hl [0, 1] rfl)
              · rw [if_pos c10] at hE hp
                exact B_Y4_canBeAbout_60 x1 _ _ _ hE hp hP hD hS (lv_sub hl [0, 1] rfl)
      · rw [if_pos c2] at hE hp
        refine cAload_n (ad := ad) (r := x1) hx hb dX4_canBeAbout_14 rfl (lv_at hl 1 rfl) ?_
        obtain ⟨hy11, hp⟩ := hp
        refine cTop (r := x1) hy11.1 ?_
        refine va_get (D := G) (ci := 3) (v := .int (giC S (x1.getD 0) 2)) (C := RX4) (T := TX4) (N := 16) hx hb hts iX4 hown hK hP (x1.getD 0) (at_3 hy11.2) rfl 2 (by decide) (hw (.fieldLink RX4 36 "MotionFloor$Motion" "kind" "I") (List.mem_of_getElem? (i := 0) rfl)) (fun _ h9 => h9) rfl dX4_canBeAbout_15 ?_
        refine lv_iconst (v := 2) hx hb dX4_canBeAbout_18 (by decide) ?_
        refine lv_icmp_ne (tgt := 26) hx hb dX4_canBeAbout_19 (by decide) (fun c12 => ?_) (fun c12 => ?_)
        · rw [if_neg c12] at hE hp
          refine lv_iconst (v := 0) hx hb dX4_canBeAbout_26 (by decide) ?_
          exact B_Y4_canBeAbout_27 x1 0 _ _ _ hE hp hP hD hS (lv_sub hl [0, 1] rfl)
        · rw [if_pos c12] at hE hp
          refine lv_iconst (v := 1) hx hb dX4_canBeAbout_22 (by decide) ?_
          refine lv_goto (tgt := 27) hx hb dX4_canBeAbout_23 (by decide) ?_
          exact B_Y4_canBeAbout_27 x1 1 _ _ _ hE hp hP hD hS (lv_sub hl [0, 1] rfl)
  exact B_M a1 _ _ _ hX hp hP hD hS hl
theorem gdX4_castVote_0 : ckS (List.drop 0 cX4_castVote.data.toList) 0 [(0, .iload_n 1, 1), (1, .ifCond .lt 71, 3), (4, .iload_n 1, 1), (5, .aload_n 0, 1), (6, .getfield 18, 3), (9, .arraylength, 1), (10, .if_icmp .ge 62, 3), (13, .aload_n 0, 1), (14, .getfield 18, 3), (17, .iload_n 1, 1), (18, .baload, 1), (19, .ifCond .ne 7, 3), (22, .iconst 0, 1), (23, .goto 4, 3), (26, .iconst 1, 1), (27, .istore_n 3, 1), (28, .iload_n 2, 1), (29, .iconst 2, 1), (30, .if_icmp .ne 7, 3), (33, .iconst 0, 1), (34, .goto 4, 3), (37, .iconst 1, 1), (38, .istore 4, 2), (40, .aload_n 0, 1), (41, .getfield 18, 3), (44, .iload_n 1, 1), (45, .iload_n 2, 1), (46, .iconst 2, 1), (47, .if_icmp .ne 7, 3), (50, .iconst 0, 1), (51, .goto 6, 3), (54, .iload_n 2, 1), (55, .iconst 1, 1), (56, .iadd, 1), (57, .i2b, 1), (58, .bastore, 1), (59, .aload_n 0, 1), (60, .dup, 1), (61, .getfield 67, 3), (64, .iload 4, 2)] = true := by decide +kernel
theorem dX4_castVote_0 : decode cX4_castVote 0 = .ok (.iload_n 1, 1) := ckS_g gdX4_castVote_0 0 rfl
theorem dX4_castVote_1 : decode cX4_castVote 1 = .ok (.ifCond .lt 71, 3) := ckS_g gdX4_castVote_0 1 rfl
theorem dX4_castVote_4 : decode cX4_castVote 4 = .ok (.iload_n 1, 1) := ckS_g gdX4_castVote_0 2 rfl
theorem dX4_castVote_5 : decode cX4_castVote 5 = .ok (.aload_n 0, 1) := ckS_g gdX4_castVote_0 3 rfl
theorem dX4_castVote_6 : decode cX4_castVote 6 = .ok (.getfield 18, 3) := ckS_g gdX4_castVote_0 4 rfl
theorem dX4_castVote_9 : decode cX4_castVote 9 = .ok (.arraylength, 1) := ckS_g gdX4_castVote_0 5 rfl
theorem dX4_castVote_10 : decode cX4_castVote 10 = .ok (.if_icmp .ge 62, 3) := ckS_g gdX4_castVote_0 6 rfl
theorem dX4_castVote_13 : decode cX4_castVote 13 = .ok (.aload_n 0, 1) := ckS_g gdX4_castVote_0 7 rfl
theorem dX4_castVote_14 : decode cX4_castVote 14 = .ok (.getfield 18, 3) := ckS_g gdX4_castVote_0 8 rfl
theorem dX4_castVote_17 : decode cX4_castVote 17 = .ok (.iload_n 1, 1) := ckS_g gdX4_castVote_0 9 rfl
theorem dX4_castVote_18 : decode cX4_castVote 18 = .ok (.baload, 1) := ckS_g gdX4_castVote_0 10 rfl
theorem dX4_castVote_19 : decode cX4_castVote 19 = .ok (.ifCond .ne 7, 3) := ckS_g gdX4_castVote_0 11 rfl
theorem dX4_castVote_22 : decode cX4_castVote 22 = .ok (.iconst 0, 1) := ckS_g gdX4_castVote_0 12 rfl
theorem dX4_castVote_23 : decode cX4_castVote 23 = .ok (.goto 4, 3) := ckS_g gdX4_castVote_0 13 rfl
theorem dX4_castVote_26 : decode cX4_castVote 26 = .ok (.iconst 1, 1) := ckS_g gdX4_castVote_0 14 rfl
theorem dX4_castVote_27 : decode cX4_castVote 27 = .ok (.istore_n 3, 1) := ckS_g gdX4_castVote_0 15 rfl
theorem dX4_castVote_28 : decode cX4_castVote 28 = .ok (.iload_n 2, 1) := ckS_g gdX4_castVote_0 16 rfl
theorem dX4_castVote_29 : decode cX4_castVote 29 = .ok (.iconst 2, 1) := ckS_g gdX4_castVote_0 17 rfl
theorem dX4_castVote_30 : decode cX4_castVote 30 = .ok (.if_icmp .ne 7, 3) := ckS_g gdX4_castVote_0 18 rfl
theorem dX4_castVote_33 : decode cX4_castVote 33 = .ok (.iconst 0, 1) := ckS_g gdX4_castVote_0 19 rfl
theorem dX4_castVote_34 : decode cX4_castVote 34 = .ok (.goto 4, 3) := ckS_g gdX4_castVote_0 20 rfl
theorem dX4_castVote_37 : decode cX4_castVote 37 = .ok (.iconst 1, 1) := ckS_g gdX4_castVote_0 21 rfl
theorem dX4_castVote_38 : decode cX4_castVote 38 = .ok (.istore 4, 2) := ckS_g gdX4_castVote_0 22 rfl
theorem dX4_castVote_40 : decode cX4_castVote 40 = .ok (.aload_n 0, 1) := ckS_g gdX4_castVote_0 23 rfl
theorem dX4_castVote_41 : decode cX4_castVote 41 = .ok (.getfield 18, 3) := ckS_g gdX4_castVote_0 24 rfl
theorem dX4_castVote_44 : decode cX4_castVote 44 = .ok (.iload_n 1, 1) := ckS_g gdX4_castVote_0 25 rfl
theorem dX4_castVote_45 : decode cX4_castVote 45 = .ok (.iload_n 2, 1) := ckS_g gdX4_castVote_0 26 rfl
theorem dX4_castVote_46 : decode cX4_castVote 46 = .ok (.iconst 2, 1) := ckS_g gdX4_castVote_0 27 rfl
theorem dX4_castVote_47 : decode cX4_castVote 47 = .ok (.if_icmp .ne 7, 3) := ckS_g gdX4_castVote_0 28 rfl
theorem dX4_castVote_50 : decode cX4_castVote 50 = .ok (.iconst 0, 1) := ckS_g gdX4_castVote_0 29 rfl
theorem dX4_castVote_51 : decode cX4_castVote 51 = .ok (.goto 6, 3) := ckS_g gdX4_castVote_0 30 rfl
theorem dX4_castVote_54 : decode cX4_castVote 54 = .ok (.iload_n 2, 1) := ckS_g gdX4_castVote_0 31 rfl
theorem dX4_castVote_55 : decode cX4_castVote 55 = .ok (.iconst 1, 1) := ckS_g gdX4_castVote_0 32 rfl
theorem dX4_castVote_56 : decode cX4_castVote 56 = .ok (.iadd, 1) := ckS_g gdX4_castVote_0 33 rfl
theorem dX4_castVote_57 : decode cX4_castVote 57 = .ok (.i2b, 1) := ckS_g gdX4_castVote_0 34 rfl
theorem dX4_castVote_58 : decode cX4_castVote 58 = .ok (.bastore, 1) := ckS_g gdX4_castVote_0 35 rfl
theorem dX4_castVote_59 : decode cX4_castVote 59 = .ok (.aload_n 0, 1) := ckS_g gdX4_castVote_0 36 rfl
theorem dX4_castVote_60 : decode cX4_castVote 60 = .ok (.dup, 1) := ckS_g gdX4_castVote_0 37 rfl
theorem dX4_castVote_61 : decode cX4_castVote 61 = .ok (.getfield 67, 3) := ckS_g gdX4_castVote_0 38 rfl
theorem dX4_castVote_64 : decode cX4_castVote 64 = .ok (.iload 4, 2) := ckS_g gdX4_castVote_0 39 rfl
theorem gdX4_castVote_66 : ckS (List.drop 66 cX4_castVote.data.toList) 66 [(66, .iload_n 3, 1), (67, .isub, 1), (68, .iadd, 1), (69, .putfield 67, 3), (72, .aload_n 0, 1), (73, .getfield 67, 3), (76, .ireturn, 1)] = true := by decide +kernel
theorem dX4_castVote_66 : decode cX4_castVote 66 = .ok (.iload_n 3, 1) := ckS_g gdX4_castVote_66 0 rfl
theorem dX4_castVote_67 : decode cX4_castVote 67 = .ok (.isub, 1) := ckS_g gdX4_castVote_66 1 rfl
theorem dX4_castVote_68 : decode cX4_castVote 68 = .ok (.iadd, 1) := ckS_g gdX4_castVote_66 2 rfl
theorem dX4_castVote_69 : decode cX4_castVote 69 = .ok (.putfield 67, 3) := ckS_g gdX4_castVote_66 3 rfl
theorem dX4_castVote_72 : decode cX4_castVote 72 = .ok (.aload_n 0, 1) := ckS_g gdX4_castVote_66 4 rfl
theorem dX4_castVote_73 : decode cX4_castVote 73 = .ok (.getfield 67, 3) := ckS_g gdX4_castVote_66 5 rfl
theorem dX4_castVote_76 : decode cX4_castVote 76 = .ok (.ireturn, 1) := ckS_g gdX4_castVote_66 6 rfl
set_option maxRecDepth 100000 in
theorem zc283 : wZ (.code yX4_castVote cX4_castVote 5 (some .int)) := ⟨wT3 (List.mem_of_getElem? (i := 157) rfl), Or.inl rfl⟩
def b_Y4_castVote_72 (S : Cst) (x0 : Nat) (x1 : Int32) (x2 : Int32) : Int32 × Cst := ((giC S x0 14), S)
def q_Y4_castVote_72 (S : Cst) (x0 : Nat) (x1 : Int32) (x2 : Int32) : Prop := True
def b_Y4_castVote_57 (S : Cst) (x0 : Nat) (x1 : Int32) (x2 : Int32) (x3 : Int32) (x4 : Int32) (y0 : Int32) (y1 : Int32) (o2 : Option Nat) : Int32 × Cst := (b_Y4_castVote_72 (siC (siC S (o2.getD 0) y1.toNatClampNeg (vp_nar .byte (y0.toInt8.toInt32))) x0 14 ((giC (siC S (o2.getD 0) y1.toNatClampNeg (vp_nar .byte (y0.toInt8.toInt32))) x0 14) + (x4 - x3))) x0 x1 x2)
def q_Y4_castVote_57 (S : Cst) (x0 : Nat) (x1 : Int32) (x2 : Int32) (x3 : Int32) (x4 : Int32) (y0 : Int32) (y1 : Int32) (o2 : Option Nat) : Prop := (iR S o2 22) ∧ (vp_in y1 (lnC S (o2.getD 0))) ∧ (q_Y4_castVote_72 (siC (siC S (o2.getD 0) y1.toNatClampNeg (vp_nar .byte (y0.toInt8.toInt32))) x0 14 ((giC (siC S (o2.getD 0) y1.toNatClampNeg (vp_nar .byte (y0.toInt8.toInt32))) x0 14) + (x4 - x3))) x0 x1 x2)
def b_Y4_castVote_38 (S : Cst) (x0 : Nat) (x1 : Int32) (x2 : Int32) (x3 : Int32) (y0 : Int32) : Int32 × Cst := if x2 = 2 then (b_Y4_castVote_57 S x0 x1 x2 x3 y0 0 x1 (grC S x0 13)) else (b_Y4_castVote_57 S x0 x1 x2 x3 y0 (x2 + 1) x1 (grC S x0 13))
def q_Y4_castVote_38 (S : Cst) (x0 : Nat) (x1 : Int32) (x2 : Int32) (x3 : Int32) (y0 : Int32) : Prop := (if x2 = 2 then (q_Y4_castVote_57 S x0 x1 x2 x3 y0 0 x1 (grC S x0 13)) else (q_Y4_castVote_57 S x0 x1 x2 x3 y0 (x2 + 1) x1 (grC S x0 13)))
def b_Y4_castVote_27 (S : Cst) (x0 : Nat) (x1 : Int32) (x2 : Int32) (y0 : Int32) : Int32 × Cst := if x2 = 2 then (b_Y4_castVote_38 S x0 x1 x2 y0 0) else (b_Y4_castVote_38 S x0 x1 x2 y0 1)
def q_Y4_castVote_27 (S : Cst) (x0 : Nat) (x1 : Int32) (x2 : Int32) (y0 : Int32) : Prop := (if x2 = 2 then (q_Y4_castVote_38 S x0 x1 x2 y0 0) else (q_Y4_castVote_38 S x0 x1 x2 y0 1))
def f_Y4_castVote (S : Cst) (x0 : Nat) (x1 : Int32) (x2 : Int32) : Int32 × Cst := if x1 < 0 then (b_Y4_castVote_72 S x0 x1 x2) else if (Int32.ofNat (lnC S ((grC S x0 13).getD 0))) ≤ x1 then (b_Y4_castVote_72 S x0 x1 x2) else if (giC S ((grC S x0 13).getD 0) x1.toNatClampNeg) = 0 then (b_Y4_castVote_27 S x0 x1 x2 0) else (b_Y4_castVote_27 S x0 x1 x2 1)
def p_Y4_castVote (S : Cst) (x0 : Nat) (x1 : Int32) (x2 : Int32) : Prop := (if x1 < 0 then (q_Y4_castVote_72 S x0 x1 x2) else (iR S (grC S x0 13) 22) ∧ (if (Int32.ofNat (lnC S ((grC S x0 13).getD 0))) ≤ x1 then (q_Y4_castVote_72 S x0 x1 x2) else (iR S (grC S x0 13) 22) ∧ (vp_in x1 (lnC S ((grC S x0 13).getD 0))) ∧ (if (giC S ((grC S x0 13).getD 0) x1.toNatClampNeg) = 0 then (q_Y4_castVote_27 S x0 x1 x2 0) else (q_Y4_castVote_27 S x0 x1 x2 1))))
def e_Y4_castVote : List Cond := [.fieldLink RX4 67 "MotionFloor$Motion" "voters" "I", .fieldLink RX4 18 "MotionFloor$Motion" "votes" "[B"]
def v_Y4_castVote : List Cond := .code yX4_castVote cX4_castVote 5 (some .int) :: (e_Y4_castVote ++ (wsX40 ++ []))
theorem te_Y4_castVote : GoodIn lw_tbl e_Y4_castVote := wGc zc248 (wGc zc231 (wG0))
theorem t_Y4_castVote : GoodIn lw_tbl v_Y4_castVote := wGc zc283 (wGa te_Y4_castVote (wGa zcX4 (wG0)))
set_option maxHeartbeats 4000000 in
set_option maxRecDepth 100000 in
theorem c_Y4_castVote (l : Launch) (G : va_G) (K : Nat → ClassId) (ad : Nat → Nat) (S0 : Cst) (x0 : Nat) (a1 : Int32) (a2 : Int32) (sz : Nat) : Met l yX4_castVote v_Y4_castVote ({ frames := 0, cells := 0, slots := 0, locals := 0 }) (va_Pc [.ref (ad x0), .int a1, .int a2] (cSt G K ad sz S0 (iK S0 x0 3 ∧ p_Y4_castVote S0 x0 a1 a2))) (va_Qi (fun (r : Int32) (u : Cst) => (r, u) = f_Y4_castVote S0 x0 a1 a2 ∧ eK S0 u) (cBt G K ad (va_A (wsC K ad S0) sz)) (va_A (wsC K ad S0) sz)) 0 0 (va_A (wsC K ad S0) sz) := by
  refine Met.ofW (cc := cX4_castVote) (maxL := 5) (ret := (some .int)) (by decide) rfl ?_
  intro p e s m args below meth c s₁ B hml hv
  obtain ⟨rfl, ⟨hsz, hP, hK, hD0, hTE⟩, hp⟩ := hv
  obtain ⟨k_x0, hp⟩ := hp
  have hx := B.exec
  have hb := B.bytes
  have hr := B.returns
  have hts := atoms_spec (ws := v_Y4_castVote) B.pre
  have t_ := t_Y4_castVote
  have mw : ∀ w ∈ e_Y4_castVote, w ∈ v_Y4_castVote := fun w h => List.mem_cons_of_mem _ (List.mem_append_left _ h)
  have hw := fun w (h : w ∈ e_Y4_castVote) => hts w (mw w h)
  have iX4 : ∀ w ∈ wsX40, w ∈ v_Y4_castVote := fun w h => List.mem_cons_of_mem _ (List.mem_append_right _ (List.mem_append_left _ h))
  have hown : s.vm.findClass RX4 = some m.cls := findClass_of_methodNamed B.named
  have hlocks := B.notSynchronized
  subst hsz
  have hD := hD0.self (sz := s.heap.size)
  generalize hAe : va_A (wsC K ad S0) s.heap.size = A at hD ⊢
  have hA : ∀ q : Nat, s.heap.size ≤ q → A q := fun q h => by rw [← hAe]; exact Or.inr h
  have hS : va_S A s.heap s.heap [] := va_S.rf
  have hl : lv_has (lg_sl ([.ref (ad x0), .int a1, .int a2]) ++ List.replicate (5 - (lg_sl ([.ref (ad x0), .int a1, .int a2])).length) Slot.unset).toArray 5 [(0, .ref (ad x0)), (1, .int a1), (2, .int a2)] := by
    exact lv_entry ([.ref (ad x0), .int a1, .int a2]) (n := 5) (Nat.le_of_ble_eq_true rfl)
  rw [lg_entry_eq]
  generalize (lg_sl ([.ref (ad x0), .int a1, .int a2]) ++ List.replicate (5 - (lg_sl ([.ref (ad x0), .int a1, .int a2])).length) Slot.unset).toArray = ls_ at hl ⊢
  refine wGen (fun Q hQ => ?_)
  obtain ⟨X, hX⟩ : ∃ X, f_Y4_castVote S0 x0 a1 a2 = X := ⟨_, rfl⟩
  have B_Y4_castVote_72 : ∀ (S : Cst) (x1 : Int32) (x2 : Int32) (H : Heap) (locs : List Loc) (ls_ : Array Slot), b_Y4_castVote_72 S x0 x1 x2 = X → q_Y4_castVote_72 S x0 x1 x2 → eK S0 S → va_P G vwCl (wsC K ad S) H → va_D A (wsC K ad S) → va_S A s.heap H locs → lv_has ls_ 5 [(0, .ref (ad x0)), (1, .int x1), (2, .int x2)] → W p l e ({ frames := 0, cells := 0, slots := 0, locals := 0 } : Room) s m #[Value.ref (ad x0), Value.int a1, Value.int a2] below meth c H locs 0 0 Q (F0 m 72 ls_ []) := by
    intro S x1 x2 H locs ls_ hE hp hZ hP hD hS hl
    unfold b_Y4_castVote_72 at hE
    unfold q_Y4_castVote_72 at hp
    refine lv_aload_n hx hb dX4_castVote_72 rfl (lv_at hl 0 rfl) ?_
    refine va_get (D := G) (ci := 3) (v := .int (giC S x0 14)) (C := RX4) (T := TX4) (N := 16) hx hb hts iX4 hown hK hP x0 (at_3 (k_x0.e hZ)) rfl 14 (by decide) (hw (.fieldLink RX4 67 "MotionFloor$Motion" "voters" "I") (List.mem_of_getElem? (i := 0) rfl)) (fun _ h9 => h9) rfl dX4_castVote_73 ?_
    subst hQ
    exact W.iret (v := (giC S x0 14)) hx hb hr (fun t ht hW => ⟨⟨(giC S x0 14), S, rfl, ⟨hE.trans hX.symm, hZ⟩, by rw [ht]; exact hP, hD⟩, hS.F ht⟩) hS.2.2 dX4_castVote_76
  have B_Y4_castVote_57 : ∀ (S : Cst) (x1 : Int32) (x2 : Int32) (x3 : Int32) (x4 : Int32) (y0 : Int32) (y1 : Int32) (o2 : Option Nat) (H : Heap) (locs : List Loc) (ls_ : Array Slot), b_Y4_castVote_57 S x0 x1 x2 x3 x4 y0 y1 o2 = X → q_Y4_castVote_57 S x0 x1 x2 x3 x4 y0 y1 o2 → eK S0 S → va_P G vwCl (wsC K ad S) H → va_D A (wsC K ad S) → va_S A s.heap H locs → lv_has ls_ 5 [(0, .ref (ad x0)), (1, .int x1), (2, .int x2), (3, .int x3), (4, .int x4)] → W p l e ({ frames := 0, cells := 0, slots := 0, locals := 0 } : Room) s m #[Value.ref (ad x0), Value.int a1, Value.int a2] below meth c H locs 0 0 Q (F0 m 57 ls_ [.int y0, .int y1, va_re ad o2]) := by
    intro S x1 x2 x3 x4 y0 y1 o2 H locs ls_ hE hp hZ hP hD hS hl
    unfold b_Y4_castVote_57 at hE
    unfold q_Y4_castVote_57 at hp
    refine lv_i2b (v := y0.toInt8.toInt32) hx hb dX4_castVote_57 rfl ?_
    obtain ⟨hy9, hp⟩ := hp
    refine cTop3 (r := o2) hy9.1 ?_
    obtain ⟨hy10, hp⟩ := hp
    refine va_bast hx hb hK hP hD hS (o2.getD 0) 2 (at_22 hy9.2) rfl hy10 dX4_castVote_58 (fun H locs hP hD hS => ?_)
    rw [sa_22 hy9.2] at hP hD
    have hZ := hZ.tr (eK.si S (o2.getD 0) y1.toNatClampNeg (vp_nar .byte (y0.toInt8.toInt32)))
    refine lv_aload_n hx hb dX4_castVote_59 rfl (lv_at hl 0 rfl) ?_
    refine lv_dup hx hb dX4_castVote_60 rfl ?_
    refine va_get (D := G) (ci := 3) (v := .int (giC (siC S (o2.getD 0) y1.toNatClampNeg (vp_nar .byte (y0.toInt8.toInt32))) x0 14)) (C := RX4) (T := TX4) (N := 16) hx hb hts iX4 hown hK hP x0 (at_3 (k_x0.e hZ)) rfl 14 (by decide) (hw (.fieldLink RX4 67 "MotionFloor$Motion" "voters" "I") (List.mem_of_getElem? (i := 0) rfl)) (fun _ h9 => h9) rfl dX4_castVote_61 ?_
    refine lv_iload hx hb dX4_castVote_64 (lv_at hl 4 rfl) ?_
    refine lv_iload_n hx hb dX4_castVote_66 rfl (lv_at hl 3 rfl) ?_
    refine lv_isub hx hb dX4_castVote_67 ?_
    refine lv_iadd hx hb dX4_castVote_68 ?_
    refine va_put (D := G) (ci := 3) (v := .int ((giC (siC S (o2.getD 0) y1.toNatClampNeg (vp_nar .byte (y0.toInt8.toInt32))) x0 14) + (x4 - x3))) (ty := .int) (C := RX4) (T := TX4) (N := 16) hx hb hts iX4 tyX4 tyX4_ok nmX4 hown hK hP hD hS x0 (at_3 (k_x0.e hZ)) rfl 14 (by decide) (hw (.fieldLink RX4 67 "MotionFloor$Motion" "voters" "I") (List.mem_of_getElem? (i := 0) rfl)) (fun _ h9 => h9) rfl (by decide +kernel) rfl rfl (Nat.le_of_ble_eq_true rfl) dX4_castVote_69 (fun H locs hP hD hS => ?_)
    rw [st_3_14 (k_x0.e hZ)] at hP hD
    have hZ := hZ.tr (eK.si (siC S (o2.getD 0) y1.toNatClampNeg (vp_nar .byte (y0.toInt8.toInt32))) x0 14 ((giC (siC S (o2.getD 0) y1.toNatClampNeg (vp_nar .byte (y0.toInt8.toInt32))) x0 14) + (x4 - x3)))
    exact B_Y4_castVote_72 (siC (siC S (o2.getD 0) y1.toNatClampNeg (vp_nar .byte (y0.toInt8.toInt32))) x0 14 ((giC (siC S (o2.getD 0) y1.toNatClampNeg (vp_nar .byte (y0.toInt8.toInt32))) x0 14) + (x4 - x3))) x1 x2 _ _ _ hE hp hZ hP hD hS (lv_sub hl [0, 1, 2] rfl)
  have B_Y4_castVote_38 : ∀ (S : Cst) (x1 : Int32) (x2 : Int32) (x3 : Int32) (y0 : Int32) (H : Heap) (locs : List Loc) (ls_ : Array Slot), b_Y4_castVote_38 S x0 x1 x2 x3 y0 = X → q_Y4_castVote_38 S x0 x1 x2 x3 y0 → eK S0 S → va_P G vwCl (wsC K ad S) H → va_D A (wsC K ad S) → va_S A s.heap H locs → lv_has ls_ 5 [(0, .ref (ad x0)), (1, .int x1), (2, .int x2), (3, .int x3)] → W p l e ({ frames := 0, cells := 0, slots := 0, locals := 0 } : Room) s m #[Value.ref (ad x0), Value.int a1, Value.int a2] below meth c H locs 0 0 Q (F0 m 38 ls_ [.int y0]) := by
    intro S x1 x2 x3 y0 H locs ls_ hE hp hZ hP hD hS hl
    unfold b_Y4_castVote_38 at hE
    unfold q_Y4_castVote_38 at hp
    refine lv_istore (i := 4) (lv' := [(4, .int y0), (0, .ref (ad x0)), (1, .int x1), (2, .int x2), (3, .int x3)]) hx hb dX4_castVote_38 hl (by decide) rfl (fun ls_ hl => ?_)
    refine lv_aload_n hx hb dX4_castVote_40 rfl (lv_at hl 1 rfl) ?_
    refine va_get (D := G) (ci := 3) (v := va_re ad (grC S x0 13)) (C := RX4) (T := TX4) (N := 16) hx hb hts iX4 hown hK hP x0 (at_3 (k_x0.e hZ)) rfl 13 (by decide) (hw (.fieldLink RX4 18 "MotionFloor$Motion" "votes" "[B") (List.mem_of_getElem? (i := 1) rfl)) (fun _ h9 => h9) rfl dX4_castVote_41 ?_
    refine lv_iload_n hx hb dX4_castVote_44 rfl (lv_at hl 2 rfl) ?_
    refine lv_iload_n hx hb dX4_castVote_45 rfl (lv_at hl 3 rfl) ?_
    refine lv_iconst (v := 2) hx hb dX4_castVote_46 (by decide) ?_
    refine lv_icmp_ne (tgt := 54) hx hb dX4_castVote_47 (by decide) (fun c8 => ?_) (fun c8 => ?_)
    · rw [if_neg c8] at hE hp
      refine lv_iload_n hx hb dX4_castVote_54 rfl (lv_at hl 3 rfl) ?_
      refine lv_iconst (v := 1) hx hb dX4_castVote_55 (by decide) ?_
      refine lv_iadd hx hb dX4_castVote_56 ?_
      exact B_Y4_castVote_57 S x1 x2 x3 y0 (x2 + 1) x1 (grC S x0 13) _ _ _ hE hp hZ hP hD hS (lv_sub hl [1, 2, 3, 4, 0] rfl)
    · rw [if_pos c8] at hE hp
      refine lv_iconst (v := 0) hx hb dX4_castVote_50 (by decide) ?_
      refine lv_goto (tgt := 57) hx hb dX4_castVote_51 (by decide) ?_
      exact B_Y4_castVote_57 S x1 x2 x3 y0 0 x1 (grC S x0 13) _ _ _ hE hp hZ hP hD hS (lv_sub hl [1, 2, 3, 4, 0] rfl)
  have B_Y4_castVote_27 : ∀ (S : Cst) (x1 : Int32) (x2 : Int32) (y0 : Int32) (H : Heap) (locs : List Loc) (ls_ : Array Slot), b_Y4_castVote_27 S x0 x1 x2 y0 = X → q_Y4_castVote_27 S x0 x1 x2 y0 → eK S0 S → va_P G vwCl (wsC K ad S) H → va_D A (wsC K ad S) → va_S A s.heap H locs → lv_has ls_ 5 [(0, .ref (ad x0)), (1, .int x1), (2, .int x2)] → W p l e ({ frames := 0, cells := 0, slots := 0, locals := 0 } : Room) s m #[Value.ref (ad x0), Value.int a1, Value.int a2] below meth c H locs 0 0 Q (F0 m 27 ls_ [.int y0]) := by
    intro S x1 x2 y0 H locs ls_ hE hp hZ hP hD hS hl
    unfold b_Y4_castVote_27 at hE
    unfold q_Y4_castVote_27 at hp
    refine lv_istore_n (i := 3) (lv' := [(3, .int y0), (0, .ref (ad x0)), (1, .int x1), (2, .int x2)]) hx hb dX4_castVote_27 rfl hl (by decide) rfl (fun ls_ hl => ?_)
    refine lv_iload_n hx hb dX4_castVote_28 rfl (lv_at hl 3 rfl) ?_
    refine lv_iconst (v := 2) hx hb dX4_castVote_29 (by decide) ?_
    refine lv_icmp_ne (tgt := 37) hx hb dX4_castVote_30 (by decide) (fun c7 => ?_) (fun c7 => ?_)
    · rw [if_neg c7] at hE hp
      refine lv_iconst (v := 1) hx hb dX4_castVote_37 (by decide) ?_
      exact B_Y4_castVote_38 S x1 x2 y0 1 _ _ _ hE hp hZ hP hD hS (lv_sub hl [1, 2, 3, 0] rfl)
    · rw [if_pos c7] at hE hp
      refine lv_iconst (v := 0) hx hb dX4_castVote_33 (by decide) ?_
      refine lv_goto (tgt := 38) hx hb dX4_castVote_34 (by decide) ?_
      exact B_Y4_castVote_38 S x1 x2 y0 0 _ _ _ hE hp hZ hP hD hS (lv_sub hl [1, 2, 3, 0] rfl)
  have B_M : ∀ (S : Cst) (x1 : Int32) (x2 : Int32) (H : Heap) (locs : List Loc) (ls_ : Array Slot), f_Y4_castVote S x0 x1 x2 = X → p_Y4_castVote S x0 x1 x2 → eK S0 S → va_P G vwCl (wsC K ad S) H → va_D A (wsC K ad S) → va_S A s.heap H locs → lv_has ls_ 5 [(0, .ref (ad x0)), (1, .int x1), (2, .int x2)] → W p l e ({ frames := 0, cells := 0, slots := 0, locals := 0 } : Room) s m #[Value.ref (ad x0), Value.int a1, Value.int a2] below meth c H locs 0 0 Q (F0 m 0 ls_ []) := by
    intro S x1 x2 H locs ls_ hE hp hZ hP hD hS hl
    unfold f_Y4_castVote at hE
    unfold p_Y4_castVote at hp
    refine lv_iload_n hx hb dX4_castVote_0 rfl (lv_at hl 1 rfl) ?_
    refine lv_if_lt (tgt := 72) hx hb dX4_castVote_1 (by decide) (fun c1 => ?_) (fun c1 => ?_)
    · rw [if_pos c1] at hE hp
      exact B_Y4_castVote_72 S x1 x2 _ _ _ hE hp hZ hP hD hS (lv_sub hl [0, 1, 2] rfl)
    · rw [if_neg c1] at hE hp
      refine lv_iload_n hx hb dX4_castVote_4 rfl (lv_at hl 1 rfl) ?_
      refine lv_aload_n hx hb dX4_castVote_5 rfl (lv_at hl 0 rfl) ?_
      refine va_get (D := G) (ci := 3) (v := va_re ad (grC S x0 13)) (C := RX4) (T := TX4) (N := 16) hx hb hts iX4 hown hK hP x0 (at_3 (k_x0.e hZ)) rfl 13 (by decide) (hw (.fieldLink RX4 18 "MotionFloor$Motion" "votes" "[B") (List.mem_of_getElem? (i := 1) rfl)) (fun _ h9 => h9) rfl dX4_castVote_6 ?_
      obtain ⟨hy2, hp⟩ := hp
      refine cTop (r := (grC S x0 13)) hy2.1 ?_
      refine va_alen (v := (Int32.ofNat (lnC S ((grC S x0 13).getD 0)))) hx hb hK hP ((grC S x0 13).getD 0) 2 (at_22 hy2.2) rfl rfl dX4_castVote_9 ?_
      refine lv_icmp_ge (tgt := 72) hx hb dX4_castVote_10 (by decide) (fun c3 => ?_) (fun c3 => ?_)
      · rw [if_pos c3] at hE hp
        exact B_Y4_castVote_72 S x1 x2 _ _ _ hE hp hZ hP hD hS (lv_sub hl [0, 1, 2] rfl)
      · rw [if_neg c3] at hE hp
        refine lv_aload_n hx hb dX4_castVote_13 rfl (lv_at hl 0 rfl) ?_
        refine va_get (D := G) (ci := 3) (v := va_re ad (grC S x0 13)) (C := RX4) (T := TX4) (N := 16) hx hb hts iX4 hown hK hP x0 (at_3 (k_x0.e hZ)) rfl 13 (by decide) (hw (.fieldLink RX4 18 "MotionFloor$Motion" "votes" "[B") (List.mem_of_getElem? (i := 1) rfl)) (fun _ h9 => h9) rfl dX4_castVote_14 ?_
        refine lv_iload_n hx hb dX4_castVote_17 rfl (lv_at hl 1 rfl) ?_
        obtain ⟨hy4, hp⟩ := hp
        refine cTop2 (r := (grC S x0 13)) hy4.1 ?_
        obtain ⟨hy5, hp⟩ := hp
        refine va_bald hx hb hK hP ((grC S x0 13).getD 0) 2 (at_22 hy4.2) rfl hy5 dX4_castVote_18 ?_
        refine lv_if_ne (tgt := 26) hx hb dX4_castVote_19 (by decide) (fun c6 => ?_) (fun c6 => ?_)
        · rw [if_neg c6] at hE hp
          refine lv_iconst (v := 1) hx hb dX4_castVote_26 (by decide) ?_
          exact B_Y4_castVote_27 S x1 x2 1 _ _ _ hE hp hZ hP hD hS (lv_sub hl [0, 1, 2] rfl)
        · rw [if_pos c6] at hE hp
          refine lv_iconst (v := 0) hx hb dX4_castVote_22 (by decide) ?_
          refine lv_goto (tgt := 27) hx hb dX4_castVote_23 (by decide) ?_
          exact B_Y4_castVote_27 S x1 x2 0 _ _ _ hE hp hZ hP hD hS (lv_sub hl [0, 1, 2] rfl)
  exact B_M S0 a1 a2 _ _ _ hX hp (eK.rf S0) hP hD hS hl
theorem gdX4_follow_0 : ckS (List.drop 0 cX4_follow.data.toList) 0 [(0, .aload_n 0, 1), (1, .getfield 58, 3), (4, .iload_n 1, 1), (5, .if_icmp .gt 4, 3), (8, .return_, 1), (9, .aload_n 0, 1), (10, .getfield 55, 3), (13, .iload_n 2, 1), (14, .if_icmp .lt 34, 3), (17, .aload_n 0, 1), (18, .dup, 1), (19, .getfield 55, 3), (22, .iload_n 3, 1), (23, .iload_n 2, 1), (24, .iload_n 1, 1), (25, .isub, 1), (26, .isub, 1), (27, .iadd, 1), (28, .putfield 55, 3), (31, .aload_n 0, 1), (32, .dup, 1), (33, .getfield 58, 3), (36, .iload_n 3, 1), (37, .iload_n 2, 1), (38, .iload_n 1, 1), (39, .isub, 1), (40, .isub, 1), (41, .iadd, 1), (42, .putfield 58, 3), (45, .goto 8, 3), (48, .aload_n 0, 1), (49, .iconst 1, 1), (50, .putfield 64, 3), (53, .return_, 1)] = true := by decide +kernel
theorem dX4_follow_0 : decode cX4_follow 0 = .ok (.aload_n 0, 1) := ckS_g gdX4_follow_0 0 rfl
theorem dX4_follow_1 : decode cX4_follow 1 = .ok (.getfield 58, 3) := ckS_g gdX4_follow_0 1 rfl
theorem dX4_follow_4 : decode cX4_follow 4 = .ok (.iload_n 1, 1) := ckS_g gdX4_follow_0 2 rfl
theorem dX4_follow_5 : decode cX4_follow 5 = .ok (.if_icmp .gt 4, 3) := ckS_g gdX4_follow_0 3 rfl
theorem dX4_follow_8 : decode cX4_follow 8 = .ok (.return_, 1) := ckS_g gdX4_follow_0 4 rfl
theorem dX4_follow_9 : decode cX4_follow 9 = .ok (.aload_n 0, 1) := ckS_g gdX4_follow_0 5 rfl
theorem dX4_follow_10 : decode cX4_follow 10 = .ok (.getfield 55, 3) := ckS_g gdX4_follow_0 6 rfl
theorem dX4_follow_13 : decode cX4_follow 13 = .ok (.iload_n 2, 1) := ckS_g gdX4_follow_0 7 rfl
theorem dX4_follow_14 : decode cX4_follow 14 = .ok (.if_icmp .lt 34, 3) := ckS_g gdX4_follow_0 8 rfl
theorem dX4_follow_17 : decode cX4_follow 17 = .ok (.aload_n 0, 1) := ckS_g gdX4_follow_0 9 rfl
theorem dX4_follow_18 : decode cX4_follow 18 = .ok (.dup, 1) := ckS_g gdX4_follow_0 10 rfl
theorem dX4_follow_19 : decode cX4_follow 19 = .ok (.getfield 55, 3) := ckS_g gdX4_follow_0 11 rfl
theorem dX4_follow_22 : decode cX4_follow 22 = .ok (.iload_n 3, 1) := ckS_g gdX4_follow_0 12 rfl
theorem dX4_follow_23 : decode cX4_follow 23 = .ok (.iload_n 2, 1) := ckS_g gdX4_follow_0 13 rfl
theorem dX4_follow_24 : decode cX4_follow 24 = .ok (.iload_n 1, 1) := ckS_g gdX4_follow_0 14 rfl
theorem dX4_follow_25 : decode cX4_follow 25 = .ok (.isub, 1) := ckS_g gdX4_follow_0 15 rfl
theorem dX4_follow_26 : decode cX4_follow 26 = .ok (.isub, 1) := ckS_g gdX4_follow_0 16 rfl
theorem dX4_follow_27 : decode cX4_follow 27 = .ok (.iadd, 1) := ckS_g gdX4_follow_0 17 rfl
theorem dX4_follow_28 : decode cX4_follow 28 = .ok (.putfield 55, 3) := ckS_g gdX4_follow_0 18 rfl
theorem dX4_follow_31 : decode cX4_follow 31 = .ok (.aload_n 0, 1) := ckS_g gdX4_follow_0 19 rfl
theorem dX4_follow_32 : decode cX4_follow 32 = .ok (.dup, 1) := ckS_g gdX4_follow_0 20 rfl
theorem dX4_follow_33 : decode cX4_follow 33 = .ok (.getfield 58, 3) := ckS_g gdX4_follow_0 21 rfl
theorem dX4_follow_36 : decode cX4_follow 36 = .ok (.iload_n 3, 1) := ckS_g gdX4_follow_0 22 rfl
theorem dX4_follow_37 : decode cX4_follow 37 = .ok (.iload_n 2, 1) := ckS_g gdX4_follow_0 23 rfl
theorem dX4_follow_38 : decode cX4_follow 38 = .ok (.iload_n 1, 1) := ckS_g gdX4_follow_0 24 rfl
theorem dX4_follow_39 : decode cX4_follow 39 = .ok (.isub, 1) := ckS_g gdX4_follow_0 25 rfl
theorem dX4_follow_40 : decode cX4_follow 40 = .ok (.isub, 1) := ckS_g gdX4_follow_0 26 rfl
theorem dX4_follow_41 : decode cX4_follow 41 = .ok (.iadd, 1) := ckS_g gdX4_follow_0 27 rfl
theorem dX4_follow_42 : decode cX4_follow 42 = .ok (.putfield 58, 3) := ckS_g gdX4_follow_0 28 rfl
theorem dX4_follow_45 : decode cX4_follow 45 = .ok (.goto 8, 3) := ckS_g gdX4_follow_0 29 rfl
theorem dX4_follow_48 : decode cX4_follow 48 = .ok (.aload_n 0, 1) := ckS_g gdX4_follow_0 30 rfl
theorem dX4_follow_49 : decode cX4_follow 49 = .ok (.iconst 1, 1) := ckS_g gdX4_follow_0 31 rfl
theorem dX4_follow_50 : decode cX4_follow 50 = .ok (.putfield 64, 3) := ckS_g gdX4_follow_0 32 rfl
theorem dX4_follow_53 : decode cX4_follow 53 = .ok (.return_, 1) := ckS_g gdX4_follow_0 33 rfl
set_option maxRecDepth 100000 in
theorem zc284 : wZ (.code yX4_follow cX4_follow 4 none) := ⟨wT4 (List.mem_of_getElem? (i := 21) rfl), Or.inl rfl⟩
def b_Y4_follow_53 (S : Cst) (x0 : Nat) (x1 : Int32) (x2 : Int32) (x3 : Int32) : Int32 × Cst := (0, S)
def q_Y4_follow_53 (S : Cst) (x0 : Nat) (x1 : Int32) (x2 : Int32) (x3 : Int32) : Prop := True
def f_Y4_follow (S : Cst) (x0 : Nat) (x1 : Int32) (x2 : Int32) (x3 : Int32) : Int32 × Cst := if x1 < (giC S x0 9) then if (giC S x0 8) < x2 then (b_Y4_follow_53 (siC S x0 11 (1 : Int32)) x0 x1 x2 x3) else (b_Y4_follow_53 (siC (siC S x0 8 ((giC S x0 8) + (x3 - (x2 - x1)))) x0 9 ((giC (siC S x0 8 ((giC S x0 8) + (x3 - (x2 - x1)))) x0 9) + (x3 - (x2 - x1)))) x0 x1 x2 x3) else (0, S)
def p_Y4_follow (S : Cst) (x0 : Nat) (x1 : Int32) (x2 : Int32) (x3 : Int32) : Prop := (if x1 < (giC S x0 9) then (if (giC S x0 8) < x2 then (q_Y4_follow_53 (siC S x0 11 (1 : Int32)) x0 x1 x2 x3) else (q_Y4_follow_53 (siC (siC S x0 8 ((giC S x0 8) + (x3 - (x2 - x1)))) x0 9 ((giC (siC S x0 8 ((giC S x0 8) + (x3 - (x2 - x1)))) x0 9) + (x3 - (x2 - x1)))) x0 x1 x2 x3)) else True)
def e_Y4_follow : List Cond := [.fieldLink RX4 58 "MotionFloor$Motion" "to" "I", .fieldLink RX4 55 "MotionFloor$Motion" "from" "I", .fieldLink RX4 64 "MotionFloor$Motion" "outOfOrder" "Z"]
def v_Y4_follow : List Cond := .code yX4_follow cX4_follow 4 none :: (e_Y4_follow ++ (wsX40 ++ []))
theorem te_Y4_follow : GoodIn lw_tbl e_Y4_follow := wGc zc251 (wGc zc252 (wGc zc249 (wG0)))
theorem t_Y4_follow : GoodIn lw_tbl v_Y4_follow := wGc zc284 (wGa te_Y4_follow (wGa zcX4 (wG0)))
set_option maxHeartbeats 4000000 in
set_option maxRecDepth 100000 in
theorem c_Y4_follow (l : Launch) (G : va_G) (K : Nat → ClassId) (ad : Nat → Nat) (S0 : Cst) (x0 : Nat) (a1 : Int32) (a2 : Int32) (a3 : Int32) (sz : Nat) : Met l yX4_follow v_Y4_follow ({ frames := 0, cells := 0, slots := 0, locals := 0 }) (va_Pc [.ref (ad x0), .int a1, .int a2, .int a3] (cSt G K ad sz S0 (iK S0 x0 3 ∧ p_Y4_follow S0 x0 a1 a2 a3))) (va_Qv (fun u : Cst => (0, u) = f_Y4_follow S0 x0 a1 a2 a3 ∧ eK S0 u) (cBt G K ad (va_A (wsC K ad S0) sz)) (va_A (wsC K ad S0) sz)) 0 0 (va_A (wsC K ad S0) sz) := by
  refine Met.ofW (cc := cX4_follow) (maxL := 4) (ret := none) (by decide) rfl ?_
  intro p e s m args below meth c s₁ B hml hv
  obtain ⟨rfl, ⟨hsz, hP, hK, hD0, hTE⟩, hp⟩ := hv
  obtain ⟨k_x0, hp⟩ := hp
  have hx := B.exec
  have hb := B.bytes
  have hr := B.returns
  have hts := atoms_spec (ws := v_Y4_follow) B.pre
  have t_ := t_Y4_follow
  have mw : ∀ w ∈ e_Y4_follow, w ∈ v_Y4_follow := fun w h => List.mem_cons_of_mem _ (List.mem_append_left _ h)
  have hw := fun w (h : w ∈ e_Y4_follow) => hts w (mw w h)
  have iX4 : ∀ w ∈ wsX40, w ∈ v_Y4_follow := fun w h => List.mem_cons_of_mem _ (List.mem_append_right _ (List.mem_append_left _ h))
  have hown : s.vm.findClass RX4 = some m.cls := findClass_of_methodNamed B.named
  have hlocks := B.notSynchronized
  subst hsz
  have hD := hD0.self (sz := s.heap.size)
  generalize hAe : va_A (wsC K ad S0) s.heap.size = A at hD ⊢
  have hA : ∀ q : Nat, s.heap.size ≤ q → A q := fun q h => by rw [← hAe]; exact Or.inr h
  have hS : va_S A s.heap s.heap [] := va_S.rf
  have hl : lv_has (lg_sl ([.ref (ad x0), .int a1, .int a2, .int a3]) ++ List.replicate (4 - (lg_sl ([.ref (ad x0), .int a1, .int a2, .int a3])).length) Slot.unset).toArray 4 [(0, .ref (ad x0)), (1, .int a1), (2, .int a2), (3, .int a3)] := by
    exact lv_entry ([.ref (ad x0), .int a1, .int a2, .int a3]) (n := 4) (Nat.le_of_ble_eq_true rfl)
  rw [lg_entry_eq]
  generalize (lg_sl ([.ref (ad x0), .int a1, .int a2, .int a3]) ++ List.replicate (4 - (lg_sl ([.ref (ad x0), .int a1, .int a2, .int a3])).length) Slot.unset).toArray = ls_ at hl ⊢
  refine wGen (fun Q hQ => ?_)
  obtain ⟨X, hX⟩ : ∃ X, f_Y4_follow S0 x0 a1 a2 a3 = X := ⟨_, rfl⟩
  have B_Y4_follow_53 : ∀ (S : Cst) (x1 : Int32) (x2 : Int32) (x3 : Int32) (H : Heap) (locs : List Loc) (ls_ : Array Slot), b_Y4_follow_53 S x0 x1 x2 x3 = X → q_Y4_follow_53 S x0 x1 x2 x3 → eK S0 S → va_P G vwCl (wsC K ad S) H → va_D A (wsC K ad S) → va_S A s.heap H locs → lv_has ls_ 4 [(0, .ref (ad x0)), (1, .int x1), (2, .int x2), (3, .int x3)] → W p l e ({ frames := 0, cells := 0, slots := 0, locals := 0 } : Room) s m #[Value.ref (ad x0), Value.int a1, Value.int a2, Value.int a3] below meth c H locs 0 0 Q (F0 m 53 ls_ []) := by
    intro S x1 x2 x3 H locs ls_ hE hp hZ hP hD hS hl
    unfold b_Y4_follow_53 at hE
    unfold q_Y4_follow_53 at hp
    subst hQ
    exact W.vret hx hb hr (fun t ht hW => ⟨⟨S, rfl, ⟨hE.trans hX.symm, hZ⟩, by rw [ht]; exact hP, hD⟩, hS.F ht⟩) hS.2.2 dX4_follow_53
  have B_M : ∀ (S : Cst) (x1 : Int32) (x2 : Int32) (x3 : Int32) (H : Heap) (locs : List Loc) (ls_ : Array Slot), f_Y4_follow S x0 x1 x2 x3 = X → p_Y4_follow S x0 x1 x2 x3 → eK S0 S → va_P G vwCl (wsC K ad S) H → va_D A (wsC K ad S) → va_S A s.heap H locs → lv_has ls_ 4 [(0, .ref (ad x0)), (1, .int x1), (2, .int x2), (3, .int x3)] → W p l e ({ frames := 0, cells := 0, slots := 0, locals := 0 } : Room) s m #[Value.ref (ad x0), Value.int a1, Value.int a2, Value.int a3] below meth c H locs 0 0 Q (F0 m 0 ls_ []) := by
    intro S x1 x2 x3 H locs ls_ hE hp hZ hP hD hS hl
    unfold f_Y4_follow at hE
    unfold p_Y4_follow at hp
    refine lv_aload_n hx hb dX4_follow_0 rfl (lv_at hl 0 rfl) ?_
    refine va_get (D := G) (ci := 3) (v := .int (giC S x0 9)) (C := RX4) (T := TX4) (N := 16) hx hb hts iX4 hown hK hP x0 (at_3 (k_x0.e hZ)) rfl 9 (by decide) (hw (.fieldLink RX4 58 "MotionFloor$Motion" "to" "I") (List.mem_of_getElem? (i := 0) rfl)) (fun _ h9 => h9) rfl dX4_follow_1 ?_
    refine lv_iload_n hx hb dX4_follow_4 rfl (lv_at hl 1 rfl) ?_
    refine lv_icmp_gt (tgt := 9) hx hb dX4_follow_5 (by decide) (fun c1 => ?_) (fun c1 => ?_)
    · rw [if_pos c1] at hE hp
      refine lv_aload_n hx hb dX4_follow_9 rfl (lv_at hl 0 rfl) ?_
      refine va_get (D := G) (ci := 3) (v := .int (giC S x0 8)) (C := RX4) (T := TX4) (N := 16) hx hb hts iX4 hown hK hP x0 (at_3 (k_x0.e hZ)) rfl 8 (by decide) (hw (.fieldLink RX4 55 "MotionFloor$Motion" "from" "I") (List.mem_of_getElem? (i := 1) rfl)) (fun _ h9 => h9) rfl dX4_follow_10 ?_
      refine lv_iload_n hx hb dX4_follow_13 rfl (lv_at hl 2 rfl) ?_
      refine lv_icmp_lt (tgt := 48) hx hb dX4_follow_14 (by decide) (fun c2 => ?_) (fun c2 => ?_)
      · rw [if_pos c2] at hE hp
        refine lv_aload_n hx hb dX4_follow_48 rfl (lv_at hl 0 rfl) ?_
        refine lv_iconst (v := 1) hx hb dX4_follow_49 (by decide) ?_
        refine va_put (D := G) (ci := 3) (v := .int 1) (ty := .boolean) (C := RX4) (T := TX4) (N := 16) hx hb hts iX4 tyX4 tyX4_ok nmX4 hown hK hP hD hS x0 (at_3 (k_x0.e hZ)) rfl 11 (by decide) (hw (.fieldLink RX4 64 "MotionFloor$Motion" "outOfOrder" "Z") (List.mem_of_getElem? (i := 2) rfl)) (fun _ h9 => h9) rfl (by decide +kernel) rfl rfl (Nat.le_of_ble_eq_true rfl) dX4_follow_50 (fun H locs hP hD hS => ?_)
        rw [st_3_11 (k_x0.e hZ)] at hP hD
        have hZ := hZ.tr (eK.si S x0 11 (1 : Int32))
        exact B_Y4_follow_53 (siC S x0 11 (1 : Int32)) x1 x2 x3 _ _ _ hE hp hZ hP hD hS (lv_sub hl [0, 1, 2, 3] rfl)
      · rw [if_neg c2] at hE hp
        refine lv_aload_n hx hb dX4_follow_17 rfl (lv_at hl 0 rfl) ?_
        refine lv_dup hx hb dX4_follow_18 rfl ?_
        refine va_get (D := G) (ci := 3) (v := .int (giC S x0 8)) (C := RX4) (T := TX4) (N := 16) hx hb hts iX4 hown hK hP x0 (at_3 (k_x0.e hZ)) rfl 8 (by decide) (hw (.fieldLink RX4 55 "MotionFloor$Motion" "from" "I") (List.mem_of_getElem? (i := 1) rfl)) (fun _ h9 => h9) rfl dX4_follow_19 ?_
        refine lv_iload_n hx hb dX4_follow_22 rfl (lv_at hl 3 rfl) ?_
        refine lv_iload_n hx hb dX4_follow_23 rfl (lv_at hl 2 rfl) ?_
        refine lv_iload_n hx hb dX4_follow_24 rfl (lv_at hl 1 rfl) ?_
        refine lv_isub hx hb dX4_follow_25 ?_
        refine lv_isub hx hb dX4_follow_26 ?_
        refine lv_iadd hx hb dX4_follow_27 ?_
        refine va_put (D := G) (ci := 3) (v := .int ((giC S x0 8) + (x3 - (x2 - x1)))) (ty := .int) (C := RX4) (T := TX4) (N := 16) hx hb hts iX4 tyX4 tyX4_ok nmX4 hown hK hP hD hS x0 (at_3 (k_x0.e hZ)) rfl 8 (by decide) (hw (.fieldLink RX4 55 "MotionFloor$Motion" "from" "I") (List.mem_of_getElem? (i := 1) rfl)) (fun _ h9 => h9) rfl (by decide +kernel) rfl rfl (Nat.le_of_ble_eq_true rfl) dX4_follow_28 (fun H locs hP hD hS => ?_)
        rw [st_3_8 (k_x0.e hZ)] at hP hD
        have hZ := hZ.tr (eK.si S x0 8 ((giC S x0 8) + (x3 - (x2 - x1))))
        refine lv_aload_n hx hb dX4_follow_31 rfl (lv_at hl 0 rfl) ?_
        refine lv_dup hx hb dX4_follow_32 rfl ?_
        refine va_get (D := G) (ci := 3) (v := .int (giC (siC S x0 8 ((giC S x0 8) + (x3 - (x2 - x1)))) x0 9)) (C := RX4) (T := TX4) (N := 16) hx hb hts iX4 hown hK hP x0 (at_3 (k_x0.e hZ)) rfl 9 (by decide) (hw (.fieldLink RX4 58 "MotionFloor$Motion" "to" "I") (List.mem_of_getElem? (i := 0) rfl)) (fun _ h9 => h9) rfl dX4_follow_33 ?_
        refine lv_iload_n hx hb dX4_follow_36 rfl (lv_at hl 3 rfl) ?_
        refine lv_iload_n hx hb dX4_follow_37 rfl (lv_at hl 2 rfl) ?_
        refine lv_iload_n hx hb dX4_follow_38 rfl (lv_at hl 1 rfl) ?_
        refine lv_isub hx hb dX4_follow_39 ?_
        refine lv_isub hx hb dX4_follow_40 ?_
        refine lv_iadd hx hb dX4_follow_41 ?_
        refine va_put (D := G) (ci := 3) (v := .int ((giC (siC S x0 8 ((giC S x0 8) + (x3 - (x2 - x1)))) x0 9) + (x3 - (x2 - x1)))) (ty := .int) (C := RX4) (T := TX4) (N := 16) hx hb hts iX4 tyX4 tyX4_ok nmX4 hown hK hP hD hS x0 (at_3 (k_x0.e hZ)) rfl 9 (by decide) (hw (.fieldLink RX4 58 "MotionFloor$Motion" "to" "I") (List.mem_of_getElem? (i := 0) rfl)) (fun _ h9 => h9) rfl (by decide +kernel) rfl rfl (Nat.le_of_ble_eq_true rfl) dX4_follow_42 (fun H locs hP hD hS => ?_)
        rw [st_3_9 (k_x0.e hZ)] at hP hD
        have hZ := hZ.tr (eK.si (siC S x0 8 ((giC S x0 8) + (x3 - (x2 - x1)))) x0 9 ((giC (siC S x0 8 ((giC S x0 8) + (x3 - (x2 - x1)))) x0 9) + (x3 - (x2 - x1))))
        refine lv_goto (tgt := 53) hx hb dX4_follow_45 (by decide) ?_
        exact B_Y4_follow_53 (siC (siC S x0 8 ((giC S x0 8) + (x3 - (x2 - x1)))) x0 9 ((giC (siC S x0 8 ((giC S x0 8) + (x3 - (x2 - x1)))) x0 9) + (x3 - (x2 - x1)))) x1 x2 x3 _ _ _ hE hp hZ hP hD hS (lv_sub hl [0, 1, 2, 3] rfl)
    · rw [if_neg c1] at hE hp
      subst hQ
      exact W.vret hx hb hr (fun t ht hW => ⟨⟨S, rfl, ⟨hE.trans hX.symm, hZ⟩, by rw [ht]; exact hP, hD⟩, hS.F ht⟩) hS.2.2 dX4_follow_8
  exact B_M S0 a1 a2 a3 _ _ _ hX hp (eK.rf S0) hP hD hS hl
