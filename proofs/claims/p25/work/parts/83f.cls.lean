section
theorem gdX10_image_4 : ckS (List.drop 4 cX10_image.data.toList) 4 [(4, .aload_n 0, 1), (5, .aload_n 0, 1), (6, .aload_n 0, 1), (7, .getfield 157, 3), (10, .invokevirtual 160, 3), (13, .putfield 157, 3), (16, .goto 26, 3), (33, .putfield 164, 3), (36, .goto 6, 3), (42, .aload_n 0, 1), (43, .getfield 10, 3), (46, .getfield 123, 3), (49, .getfield 126, 3), (52, .ireturn, 1)] = true := by decide +kernel
theorem dX10_image_4 : decode cX10_image 4 = .ok (.aload_n 0, 1) := ckS_g gdX10_image_4 0 rfl
theorem dX10_image_5 : decode cX10_image 5 = .ok (.aload_n 0, 1) := ckS_g gdX10_image_4 1 rfl
theorem dX10_image_6 : decode cX10_image 6 = .ok (.aload_n 0, 1) := ckS_g gdX10_image_4 2 rfl
theorem dX10_image_7 : decode cX10_image 7 = .ok (.getfield 157, 3) := ckS_g gdX10_image_4 3 rfl
theorem dX10_image_10 : decode cX10_image 10 = .ok (.invokevirtual 160, 3) := ckS_g gdX10_image_4 4 rfl
theorem dX10_image_13 : decode cX10_image 13 = .ok (.putfield 157, 3) := ckS_g gdX10_image_4 5 rfl
theorem dX10_image_16 : decode cX10_image 16 = .ok (.goto 26, 3) := ckS_g gdX10_image_4 6 rfl
theorem dX10_image_33 : decode cX10_image 33 = .ok (.putfield 164, 3) := ckS_g gdX10_image_4 7 rfl
theorem dX10_image_36 : decode cX10_image 36 = .ok (.goto 6, 3) := ckS_g gdX10_image_4 8 rfl
theorem dX10_image_42 : decode cX10_image 42 = .ok (.aload_n 0, 1) := ckS_g gdX10_image_4 9 rfl
theorem dX10_image_43 : decode cX10_image 43 = .ok (.getfield 10, 3) := ckS_g gdX10_image_4 10 rfl
theorem dX10_image_46 : decode cX10_image 46 = .ok (.getfield 123, 3) := ckS_g gdX10_image_4 11 rfl
theorem dX10_image_49 : decode cX10_image 49 = .ok (.getfield 126, 3) := ckS_g gdX10_image_4 12 rfl
theorem dX10_image_52 : decode cX10_image 52 = .ok (.ireturn, 1) := ckS_g gdX10_image_4 13 rfl
set_option maxRecDepth 100000 in
theorem zc758 : wZ (.fieldLink RX10 157 "MotionFloor" "firstImage" "LMotionFloor$Assembly;") := ⟨wT1 (List.mem_of_getElem? (i := 239) (by decide +kernel)), Or.inl rfl⟩
set_option maxRecDepth 100000 in
theorem zc759 : wZ (.initialized RX10) := ⟨wT1 (List.mem_of_getElem? (i := 1) (by decide +kernel)), Or.inl rfl⟩
set_option maxRecDepth 100000 in
theorem zc760 : wZ (.selects RX10 yX10_imageOfNow yX10_imageOfNow) := ⟨List.mem_append_left _ (List.mem_of_getElem? (i := 1) (by decide +kernel)), Or.inl rfl⟩
set_option maxRecDepth 100000 in
theorem zc761 : wZ (.instanceMethod yX10_imageOfNow) := ⟨wT4 (List.mem_of_getElem? (i := 228) (by decide +kernel)), Or.inl rfl⟩
set_option maxRecDepth 100000 in
theorem zc762 : wZ (.methodLink RX10 160 yX10_imageOfNow) := ⟨wT4 (List.mem_of_getElem? (i := 226) (by decide +kernel)), Or.inl rfl⟩
set_option maxRecDepth 100000 in
theorem zc763 : wZ (.fieldLink RX10 164 "MotionFloor" "secondImage" "LMotionFloor$Assembly;") := ⟨wT2 (List.mem_of_getElem? (i := 0) (by decide +kernel)), Or.inl rfl⟩
set_option maxRecDepth 100000 in
theorem zc764 : wZ (.code yX10_image cX10_image 2 (some .int)) := ⟨wT4 (List.mem_of_getElem? (i := 225) rfl), Or.inl rfl⟩
def b_Y10_image_42 (S : Cst) (x0 : Nat) (x1 : Int32) : Int32 × Cst := ((giC S ((grC S ((grC S x0 0).getD 0) 4).getD 0) 3), S)
def q_Y10_image_42 (S : Cst) (x0 : Nat) (lc : Nat) (ls : Nat) (x1 : Int32) : Prop := (iR S (grC S x0 0) 0) ∧ (iR S (grC S ((grC S x0 0).getD 0) 4) 2) ∧ True
def b_Y10_image_33a (S : Cst) (x0 : Nat) (x1 : Int32) (o0 : Option Nat) : Int32 × Cst := (b_Y10_image_42 (srC S x0 3 o0) x0 x1)
def q_Y10_image_33a (S : Cst) (x0 : Nat) (lc : Nat) (ls : Nat) (x1 : Int32) (o0 : Option Nat) : Prop := (q_Y10_image_42 (srC S x0 3 o0) x0 lc ls x1)
def b_Y10_image_13a (S : Cst) (x0 : Nat) (x1 : Int32) (o0 : Option Nat) : Int32 × Cst := (b_Y10_image_42 (srC S x0 2 o0) x0 x1)
def q_Y10_image_13a (S : Cst) (x0 : Nat) (lc : Nat) (ls : Nat) (x1 : Int32) (o0 : Option Nat) : Prop := (q_Y10_image_42 (srC S x0 2 o0) x0 lc ls x1)
def f_Y10_image (S : Cst) (x0 : Nat) (x1 : Int32) : Int32 × Cst := if x1 = 0 then (b_Y10_image_13a ((f_Y10_imageOfNow S x0 (grC S x0 2)).2) x0 x1 ((f_Y10_imageOfNow S x0 (grC S x0 2)).1)) else if x1 = 1 then (b_Y10_image_33a ((f_Y10_imageOfNow S x0 (grC S x0 3)).2) x0 x1 ((f_Y10_imageOfNow S x0 (grC S x0 3)).1)) else (((-9) : Int32), S)
def p_Y10_image (S : Cst) (x0 : Nat) (lc : Nat) (ls : Nat) (x1 : Int32) : Prop := (if x1 = 0 then ((S.1 ≤ (f_Y10_imageOfNow S x0 (grC S x0 2)).2.1 ∧ (f_Y10_imageOfNow S x0 (grC S x0 2)).2.1 ≤ lc) ∧ (S.2.1 ≤ (f_Y10_imageOfNow S x0 (grC S x0 2)).2.2.1 ∧ (f_Y10_imageOfNow S x0 (grC S x0 2)).2.2.1 ≤ ls)) ∧ (p_Y10_imageOfNow S x0 (f_Y10_imageOfNow S x0 (grC S x0 2)).2.1 (f_Y10_imageOfNow S x0 (grC S x0 2)).2.2.1 (grC S x0 2)) ∧ (q_Y10_image_13a ((f_Y10_imageOfNow S x0 (grC S x0 2)).2) x0 lc ls x1 ((f_Y10_imageOfNow S x0 (grC S x0 2)).1)) else (if x1 = 1 then ((S.1 ≤ (f_Y10_imageOfNow S x0 (grC S x0 3)).2.1 ∧ (f_Y10_imageOfNow S x0 (grC S x0 3)).2.1 ≤ lc) ∧ (S.2.1 ≤ (f_Y10_imageOfNow S x0 (grC S x0 3)).2.2.1 ∧ (f_Y10_imageOfNow S x0 (grC S x0 3)).2.2.1 ≤ ls)) ∧ (p_Y10_imageOfNow S x0 (f_Y10_imageOfNow S x0 (grC S x0 3)).2.1 (f_Y10_imageOfNow S x0 (grC S x0 3)).2.2.1 (grC S x0 3)) ∧ (q_Y10_image_33a ((f_Y10_imageOfNow S x0 (grC S x0 3)).2) x0 lc ls x1 ((f_Y10_imageOfNow S x0 (grC S x0 3)).1)) else True))
def e_Y10_image : List Cond := [.fieldLink RX10 164 "MotionFloor" "secondImage" "LMotionFloor$Assembly;", .methodLink RX10 160 yX10_imageOfNow, .instanceMethod yX10_imageOfNow, .selects RX10 yX10_imageOfNow yX10_imageOfNow, .initialized RX10, .fieldLink RX10 10 "MotionFloor" "now" "LMotionFloor$Assembly;", .fieldLink RX10 123 "MotionFloor$Assembly" "minutes" "LMotionFloor$Ledger;", .fieldLink RX10 126 "MotionFloor$Ledger" "size" "I", .fieldLink RX10 157 "MotionFloor" "firstImage" "LMotionFloor$Assembly;"]
def v_Y10_image : List Cond := .code yX10_image cX10_image 2 (some .int) :: (e_Y10_image ++ (wsX100 ++ (wsX00 ++ (wsX30 ++ (v_Y10_imageOfNow ++ [])))))
theorem te_Y10_image : GoodIn lw_tbl e_Y10_image := wGc zc763 (wGc zc762 (wGc zc761 (wGc zc760 (wGc zc759 (wGc zc496 (wGc zc535 (wGc zc534 (wGc zc758 (wG0)))))))))
theorem t_Y10_image : GoodIn lw_tbl v_Y10_image := wGc zc764 (wGa te_Y10_image (wGa zcX10 (wGa zcX0 (wGa zcX3 (wGa t_Y10_imageOfNow (wG0))))))
set_option maxHeartbeats 4000000 in
set_option maxRecDepth 100000 in
theorem c_Y10_image (l : Launch) (G : va_G) (K : Nat → ClassId) (ad0 : Nat → Nat) (S0 : Cst) (x0 : Nat) (lc : Nat) (ls : Nat) (a1 : Int32) (sz : Nat) : Met l yX10_image v_Y10_image ({ frames := 7, cells := lc - S0.1, slots := ls - S0.2.1, locals := 171 }) (va_Pc [.ref (ad0 x0), .int a1] (cSt G K ad0 sz S0 ((S0.1 ≤ lc ∧ S0.2.1 ≤ ls) ∧ iK S0 x0 7 ∧ p_Y10_image S0 x0 lc ls a1))) (va_Qi (fun (r : Int32) (u : Cst × (Nat → Nat)) => (r, u.1) = f_Y10_image S0 x0 a1 ∧ eN S0 u.1 ∧ (∀ q, q < S0.1 → u.2 q = ad0 q)) (fun u t => cBt G K u.2 (va_A (wsC K ad0 S0) sz) u.1 t) (va_A (wsC K ad0 S0) sz)) (lc - S0.1) (ls - S0.2.1) (va_A (wsC K ad0 S0) sz) := by
  refine Met.ofW (cc := cX10_image) (maxL := 2) (ret := (some .int)) (by decide) rfl ?_
  intro p e s m args below meth c s₁ B hml hv
  obtain ⟨rfl, ⟨hsz, hP, hK, hD0, hTE⟩, hp⟩ := hv
  obtain ⟨k_l, hp⟩ := hp
  obtain ⟨k_x0, hp⟩ := hp
  have hx := B.exec
  have hb := B.bytes
  have hr := B.returns
  have hts := atoms_spec (ws := v_Y10_image) B.pre
  have t_ := t_Y10_image
  have mw : ∀ w ∈ e_Y10_image, w ∈ v_Y10_image := fun w h => List.mem_cons_of_mem _ (List.mem_append_left _ h)
  have hw := fun w (h : w ∈ e_Y10_image) => hts w (mw w h)
  have iX10 : ∀ w ∈ wsX100, w ∈ v_Y10_image := fun w h => List.mem_cons_of_mem _ (List.mem_append_right _ (List.mem_append_left _ h))
  have iX0 : ∀ w ∈ wsX00, w ∈ v_Y10_image := fun w h => List.mem_cons_of_mem _ (List.mem_append_right _ (List.mem_append_right _ (List.mem_append_left _ h)))
  have iX3 : ∀ w ∈ wsX30, w ∈ v_Y10_image := fun w h => List.mem_cons_of_mem _ (List.mem_append_right _ (List.mem_append_right _ (List.mem_append_right _ (List.mem_append_left _ h))))
  have j_Y10_imageOfNow : ∀ w ∈ v_Y10_imageOfNow, w ∈ v_Y10_image := fun w h => List.mem_cons_of_mem _ (List.mem_append_right _ (List.mem_append_right _ (List.mem_append_right _ (List.mem_append_right _ (List.mem_append_left _ h)))))
  have hown : s.vm.findClass RX10 = some m.cls := findClass_of_methodNamed B.named
  have hlocks := B.notSynchronized
  subst hsz
  have hD := hD0.self (sz := s.heap.size)
  generalize hAe : va_A (wsC K ad0 S0) s.heap.size = A at hD ⊢
  have hA : ∀ q : Nat, s.heap.size ≤ q → A q := fun q h => by rw [← hAe]; exact Or.inr h
  have hS : va_S A s.heap s.heap [] := va_S.rf
  have hl : lv_has (lg_sl ([.ref (ad0 x0), .int a1]) ++ List.replicate (2 - (lg_sl ([.ref (ad0 x0), .int a1])).length) Slot.unset).toArray 2 [(0, .ref (ad0 x0)), (1, .int a1)] := by
    exact lv_entry ([.ref (ad0 x0), .int a1]) (n := 2) (Nat.le_of_ble_eq_true rfl)
  rw [lg_entry_eq]
  generalize (lg_sl ([.ref (ad0 x0), .int a1]) ++ List.replicate (2 - (lg_sl ([.ref (ad0 x0), .int a1])).length) Slot.unset).toArray = ls_ at hl ⊢
  refine wGen (fun Q hQ => ?_)
  obtain ⟨X, hX⟩ : ∃ X, f_Y10_image S0 x0 a1 = X := ⟨_, rfl⟩
  have B_Y10_image_42 : ∀ (S : Cst) (ad : Nat → Nat) (x1 : Int32) (H : Heap) (locs : List Loc) (ls_ : Array Slot), b_Y10_image_42 S x0 x1 = X → q_Y10_image_42 S x0 lc ls x1 → nH S0 ad0 lc ls S ad → va_P G vwCl (wsC K ad S) H → va_D A (wsC K ad S) → va_S A s.heap H locs → lv_has ls_ 2 [(0, .ref (ad x0)), (1, .int x1)] → W p l e ({ frames := 7, cells := lc - S0.1, slots := ls - S0.2.1, locals := 171 } : Room) s m #[Value.ref (ad0 x0), Value.int a1] below meth c H locs (S.1 - S0.1) (S.2.1 - S0.2.1) Q (F0 m 42 ls_ []) := by
    intro S ad x1 H locs ls_ hE hp hZ hP hD hS hl
    unfold b_Y10_image_42 at hE
    unfold q_Y10_image_42 at hp
    refine lv_aload_n hx hb dX10_image_42 rfl (lv_at hl 0 rfl) ?_
    refine va_get (D := G) (ci := 7) (v := va_re ad (grC S x0 0)) (C := RX10) (T := TX10) (N := 5) hx hb hts iX10 hown hK hP x0 (at_7 (k_x0.n hZ.1)) rfl 0 (by decide) (hw (.fieldLink RX10 10 "MotionFloor" "now" "LMotionFloor$Assembly;") (List.mem_of_getElem? (i := 5) rfl)) (fun _ h9 => h9) rfl dX10_image_43 ?_
    obtain ⟨hy7, hp⟩ := hp
    refine cTop (r := (grC S x0 0)) hy7.1 ?_
    refine va_get (D := G) (ci := 0) (v := va_re ad (grC S ((grC S x0 0).getD 0) 4)) (C := RX0) (T := TX0) (N := 11) hx hb hts iX0 hown hK hP ((grC S x0 0).getD 0) (at_0 hy7.2) rfl 4 (by decide) (hw (.fieldLink RX10 123 "MotionFloor$Assembly" "minutes" "LMotionFloor$Ledger;") (List.mem_of_getElem? (i := 6) rfl)) (fun _ h9 => h9) rfl dX10_image_46 ?_
    obtain ⟨hy8, hp⟩ := hp
    refine cTop (r := (grC S ((grC S x0 0).getD 0) 4)) hy8.1 ?_
    refine va_get (D := G) (ci := 2) (v := .int (giC S ((grC S ((grC S x0 0).getD 0) 4).getD 0) 3)) (C := RX3) (T := TX3) (N := 4) hx hb hts iX3 hown hK hP ((grC S ((grC S x0 0).getD 0) 4).getD 0) (at_2 hy8.2) rfl 3 (by decide) (hw (.fieldLink RX10 126 "MotionFloor$Ledger" "size" "I") (List.mem_of_getElem? (i := 7) rfl)) (fun _ h9 => h9) rfl dX10_image_49 ?_
    refine W.widen (k := lc - S0.1) (n := ls - S0.2.1) (show S.1 - S0.1 ≤ lc - S0.1 from Nat.sub_le_sub_right hZ.2.2.1 _) (show S.2.1 - S0.2.1 ≤ ls - S0.2.1 from Nat.sub_le_sub_right hZ.2.2.2 _) ?_
    subst hQ
    exact W.iret (v := (giC S ((grC S ((grC S x0 0).getD 0) 4).getD 0) 3)) hx hb hr (fun t ht hW => ⟨⟨(giC S ((grC S ((grC S x0 0).getD 0) 4).getD 0) 3), (S, ad), rfl, ⟨hE.trans hX.symm, hZ.1, hZ.2.1⟩, by rw [ht]; exact hP, hD⟩, hS.F ht⟩) hS.2.2 dX10_image_52
  have B_Y10_image_33a : ∀ (S : Cst) (ad : Nat → Nat) (x1 : Int32) (o0 : Option Nat) (H : Heap) (locs : List Loc) (ls_ : Array Slot), b_Y10_image_33a S x0 x1 o0 = X → q_Y10_image_33a S x0 lc ls x1 o0 → nH S0 ad0 lc ls S ad → va_P G vwCl (wsC K ad S) H → va_D A (wsC K ad S) → va_S A s.heap H locs → lv_has ls_ 2 [(0, .ref (ad x0)), (1, .int x1)] → W p l e ({ frames := 7, cells := lc - S0.1, slots := ls - S0.2.1, locals := 171 } : Room) s m #[Value.ref (ad0 x0), Value.int a1] below meth c H locs (S.1 - S0.1) (S.2.1 - S0.2.1) Q (F0 m 33 ls_ [va_re ad o0, .ref (ad x0)]) := by
    intro S ad x1 o0 H locs ls_ hE hp hZ hP hD hS hl
    unfold b_Y10_image_33a at hE
    unfold q_Y10_image_33a at hp
    refine va_put (D := G) (ci := 7) (v := va_re ad o0) (ty := .object "MotionFloor$Assembly") (C := RX10) (T := TX10) (N := 5) hx hb hts iX10 tyX10 tyX10_ok nmX10 hown hK hP hD hS x0 (at_7 (k_x0.n hZ.1)) rfl 3 (by decide) (hw (.fieldLink RX10 164 "MotionFloor" "secondImage" "LMotionFloor$Assembly;") (List.mem_of_getElem? (i := 0) rfl)) (fun _ h9 => h9) rfl (by decide +kernel) (re_nar ad _ _) (re_fit ad _ _) (Nat.le_of_ble_eq_true rfl) dX10_image_33 (fun H locs hP hD hS => ?_)
    rw [st_7_3 (k_x0.n hZ.1)] at hP hD
    have hZ := hZ.k (eK.sr S x0 3 o0)
    refine lv_goto (tgt := 42) hx hb dX10_image_36 (by decide) ?_
    exact B_Y10_image_42 (srC S x0 3 o0) ad x1 _ _ _ hE hp hZ hP hD hS (lv_sub hl [0, 1] rfl)
  have B_Y10_image_13a : ∀ (S : Cst) (ad : Nat → Nat) (x1 : Int32) (o0 : Option Nat) (H : Heap) (locs : List Loc) (ls_ : Array Slot), b_Y10_image_13a S x0 x1 o0 = X → q_Y10_image_13a S x0 lc ls x1 o0 → nH S0 ad0 lc ls S ad → va_P G vwCl (wsC K ad S) H → va_D A (wsC K ad S) → va_S A s.heap H locs → lv_has ls_ 2 [(0, .ref (ad x0)), (1, .int x1)] → W p l e ({ frames := 7, cells := lc - S0.1, slots := ls - S0.2.1, locals := 171 } : Room) s m #[Value.ref (ad0 x0), Value.int a1] below meth c H locs (S.1 - S0.1) (S.2.1 - S0.2.1) Q (F0 m 13 ls_ [va_re ad o0, .ref (ad x0)]) := by
    intro S ad x1 o0 H locs ls_ hE hp hZ hP hD hS hl
    unfold b_Y10_image_13a at hE
    unfold q_Y10_image_13a at hp
    refine va_put (D := G) (ci := 7) (v := va_re ad o0) (ty := .object "MotionFloor$Assembly") (C := RX10) (T := TX10) (N := 5) hx hb hts iX10 tyX10 tyX10_ok nmX10 hown hK hP hD hS x0 (at_7 (k_x0.n hZ.1)) rfl 2 (by decide) (hw (.fieldLink RX10 157 "MotionFloor" "firstImage" "LMotionFloor$Assembly;") (List.mem_of_getElem? (i := 8) rfl)) (fun _ h9 => h9) rfl (by decide +kernel) (re_nar ad _ _) (re_fit ad _ _) (Nat.le_of_ble_eq_true rfl) dX10_image_13 (fun H locs hP hD hS => ?_)
    rw [st_7_2 (k_x0.n hZ.1)] at hP hD
    have hZ := hZ.k (eK.sr S x0 2 o0)
    refine lv_goto (tgt := 42) hx hb dX10_image_16 (by decide) ?_
    exact B_Y10_image_42 (srC S x0 2 o0) ad x1 _ _ _ hE hp hZ hP hD hS (lv_sub hl [0, 1] rfl)
  have B_M : ∀ (S : Cst) (ad : Nat → Nat) (x1 : Int32) (H : Heap) (locs : List Loc) (ls_ : Array Slot), f_Y10_image S x0 x1 = X → p_Y10_image S x0 lc ls x1 → nH S0 ad0 lc ls S ad → va_P G vwCl (wsC K ad S) H → va_D A (wsC K ad S) → va_S A s.heap H locs → lv_has ls_ 2 [(0, .ref (ad x0)), (1, .int x1)] → W p l e ({ frames := 7, cells := lc - S0.1, slots := ls - S0.2.1, locals := 171 } : Room) s m #[Value.ref (ad0 x0), Value.int a1] below meth c H locs (S.1 - S0.1) (S.2.1 - S0.2.1) Q (F0 m 0 ls_ []) := by
    intro S ad x1 H locs ls_ hE hp hZ hP hD hS hl
    unfold f_Y10_image at hE
    unfold p_Y10_image at hp
    refine lv_iload_n hx hb dX10_image_0 rfl (lv_at hl 1 rfl) ?_
    refine lv_if_ne (tgt := 19) hx hb dX10_image_1 (by decide) (fun c1 => ?_) (fun c1 => ?_)
    · rw [if_neg c1] at hE hp
      refine lv_iload_n hx hb dX10_image_19 rfl (lv_at hl 1 rfl) ?_
      refine lv_iconst (v := 1) hx hb dX10_image_20 (by decide) ?_
      refine lv_icmp_ne (tgt := 39) hx hb dX10_image_21 (by decide) (fun c2 => ?_) (fun c2 => ?_)
      · rw [if_neg c2] at hE hp
        refine lv_bipush (v := (-9)) hx hb dX10_image_39 (by decide) ?_
        refine W.widen (k := lc - S0.1) (n := ls - S0.2.1) (show S.1 - S0.1 ≤ lc - S0.1 from Nat.sub_le_sub_right hZ.2.2.1 _) (show S.2.1 - S0.2.1 ≤ ls - S0.2.1 from Nat.sub_le_sub_right hZ.2.2.2 _) ?_
        subst hQ
        exact W.iret (v := ((-9) : Int32)) hx hb hr (fun t ht hW => ⟨⟨((-9) : Int32), (S, ad), rfl, ⟨hE.trans hX.symm, hZ.1, hZ.2.1⟩, by rw [ht]; exact hP, hD⟩, hS.F ht⟩) hS.2.2 dX10_image_41
      · rw [if_pos c2] at hE hp
        refine lv_aload_n hx hb dX10_image_24 rfl (lv_at hl 0 rfl) ?_
        refine lv_aload_n hx hb dX10_image_25 rfl (lv_at hl 0 rfl) ?_
        refine lv_aload_n hx hb dX10_image_26 rfl (lv_at hl 0 rfl) ?_
        refine va_get (D := G) (ci := 7) (v := va_re ad (grC S x0 3)) (C := RX10) (T := TX10) (N := 5) hx hb hts iX10 hown hK hP x0 (at_7 (k_x0.n hZ.1)) rfl 3 (by decide) (hw (.fieldLink RX10 164 "MotionFloor" "secondImage" "LMotionFloor$Assembly;") (List.mem_of_getElem? (i := 0) rfl)) (fun _ h9 => h9) rfl dX10_image_27 ?_
        obtain ⟨hy3, hp⟩ := hp
        obtain ⟨hy4, hp⟩ := hp
        refine cNoq (va_runV (As := [va_re ad (grC S x0 3)]) (rest := [.ref (ad x0)]) ⟨hx, hb, hml, hown, hts⟩ (c_Y10_imageOfNow l G K ad S x0 (f_Y10_imageOfNow S x0 (grC S x0 3)).2.1 (f_Y10_imageOfNow S x0 (grC S x0 3)).2.2.1 (grC S x0 3) _) (cwV 1 hts (wGV t_ (mw (.methodLink RX10 160 yX10_imageOfNow) (List.mem_of_getElem? (i := 1) rfl)) (mw (.instanceMethod yX10_imageOfNow) (List.mem_of_getElem? (i := 2) rfl)) (mw (.selects RX10 yX10_imageOfNow yX10_imageOfNow) (List.mem_of_getElem? (i := 3) rfl)) (mw (.initialized RX10) (List.mem_of_getElem? (i := 4) rfl)) j_Y10_imageOfNow) rfl rfl rfl (by decide +kernel) ⟨Nat.le_of_ble_eq_true rfl, Nat.le_of_ble_eq_true rfl⟩) (cPV hK hTE hP hD 7 rfl (at_7 (k_x0.n hZ.1)) ⟨⟨hy3.1.1, hy3.2.1⟩, (k_x0.n hZ.1), hy4⟩) rfl rfl hl.1 rfl (lv_room (Nat.le_of_ble_eq_true rfl)) dX10_image_30 ⟨by show _ ≤ lc - S0.1; have := hZ.1.1.1; have := hy3.1; omega, by show _ ≤ ls - S0.2.1; have := hZ.1.1.2; have := hy3.2; omega⟩) hP hD hS hA (fun r6 u5 H locs hv hP hD hS => ?_)
        obtain ⟨hv, hz, ha⟩ := hv
        have e1 : (f_Y10_imageOfNow S x0 (grC S x0 3)).2.1 = u5.1.1 := by rw [← hv]
        have e2 : (f_Y10_imageOfNow S x0 (grC S x0 3)).2.2.1 = u5.1.2.1 := by rw [← hv]
        refine cCells (cells' := u5.1.1 - S0.1) (slots' := u5.1.2.1 - S0.2.1) (by have := hZ.1.1.1; have := hy3.1; omega) (by have := hZ.1.1.2; have := hy3.2; omega) ?_
        rw [← ha x0 (k_x0.n hZ.1).1] at hl
        rw [← ha x0 (k_x0.n hZ.1).1]
        have hZ := hZ.n hz ha (by rw [← e1]; exact hy3.1.2) (by rw [← e2]; exact hy3.2.2)
        rw [← hv] at hE hp
        dsimp only at hE hp
        exact B_Y10_image_33a u5.1 u5.2 x1 r6 _ _ _ hE hp hZ hP hD hS (lv_sub hl [0, 1] rfl)
    · rw [if_pos c1] at hE hp
      refine lv_aload_n hx hb dX10_image_4 rfl (lv_at hl 0 rfl) ?_
      refine lv_aload_n hx hb dX10_image_5 rfl (lv_at hl 0 rfl) ?_
      refine lv_aload_n hx hb dX10_image_6 rfl (lv_at hl 0 rfl) ?_
      refine va_get (D := G) (ci := 7) (v := va_re ad (grC S x0 2)) (C := RX10) (T := TX10) (N := 5) hx hb hts iX10 hown hK hP x0 (at_7 (k_x0.n hZ.1)) rfl 2 (by decide) (hw (.fieldLink RX10 157 "MotionFloor" "firstImage" "LMotionFloor$Assembly;") (List.mem_of_getElem? (i := 8) rfl)) (fun _ h9 => h9) rfl dX10_image_7 ?_
      obtain ⟨hy9, hp⟩ := hp
      obtain ⟨hy10, hp⟩ := hp
      refine cNoq (va_runV (As := [va_re ad (grC S x0 2)]) (rest := [.ref (ad x0)]) ⟨hx, hb, hml, hown, hts⟩ (c_Y10_imageOfNow l G K ad S x0 (f_Y10_imageOfNow S x0 (grC S x0 2)).2.1 (f_Y10_imageOfNow S x0 (grC S x0 2)).2.2.1 (grC S x0 2) _) (cwV 1 hts (wGV t_ (mw (.methodLink RX10 160 yX10_imageOfNow) (List.mem_of_getElem? (i := 1) rfl)) (mw (.instanceMethod yX10_imageOfNow) (List.mem_of_getElem? (i := 2) rfl)) (mw (.selects RX10 yX10_imageOfNow yX10_imageOfNow) (List.mem_of_getElem? (i := 3) rfl)) (mw (.initialized RX10) (List.mem_of_getElem? (i := 4) rfl)) j_Y10_imageOfNow) rfl rfl rfl (by decide +kernel) ⟨Nat.le_of_ble_eq_true rfl, Nat.le_of_ble_eq_true rfl⟩) (cPV hK hTE hP hD 7 rfl (at_7 (k_x0.n hZ.1)) ⟨⟨hy9.1.1, hy9.2.1⟩, (k_x0.n hZ.1), hy10⟩) rfl rfl hl.1 rfl (lv_room (Nat.le_of_ble_eq_true rfl)) dX10_image_10 ⟨by show _ ≤ lc - S0.1; have := hZ.1.1.1; have := hy9.1; omega, by show _ ≤ ls - S0.2.1; have := hZ.1.1.2; have := hy9.2; omega⟩) hP hD hS hA (fun r12 u11 H locs hv hP hD hS => ?_)
      obtain ⟨hv, hz, ha⟩ := hv
      have e1 : (f_Y10_imageOfNow S x0 (grC S x0 2)).2.1 = u11.1.1 := by rw [← hv]
      have e2 : (f_Y10_imageOfNow S x0 (grC S x0 2)).2.2.1 = u11.1.2.1 := by rw [← hv]
      refine cCells (cells' := u11.1.1 - S0.1) (slots' := u11.1.2.1 - S0.2.1) (by have := hZ.1.1.1; have := hy9.1; omega) (by have := hZ.1.1.2; have := hy9.2; omega) ?_
      rw [← ha x0 (k_x0.n hZ.1).1] at hl
      rw [← ha x0 (k_x0.n hZ.1).1]
      have hZ := hZ.n hz ha (by rw [← e1]; exact hy9.1.2) (by rw [← e2]; exact hy9.2.2)
      rw [← hv] at hE hp
      dsimp only at hE hp
      exact B_Y10_image_13a u11.1 u11.2 x1 r12 _ _ _ hE hp hZ hP hD hS (lv_sub hl [0, 1] rfl)
  exact cCells (Nat.sub_self _).symm (Nat.sub_self _).symm (B_M S0 ad0 a1 _ _ _ hX hp (nH.rf S0 ad0 k_l) hP hD hS hl)
theorem gdX10_back_0 : ckS (List.drop 0 cX10_back.data.toList) 0 [(0, .iload_n 1, 1), (1, .ifCond .lt 8, 3), (4, .iload_n 1, 1), (5, .iconst 1, 1), (6, .if_icmp .le 6, 3), (9, .bipush (-9), 2), (11, .ireturn, 1), (12, .iload_n 1, 1), (13, .ifCond .ne 10, 3), (16, .aload_n 0, 1), (17, .getfield 157, 3), (20, .goto 7, 3), (23, .aload_n 0, 1), (24, .getfield 164, 3), (27, .astore_n 2, 1), (28, .aload_n 2, 1), (29, .ifnonnull 6, 3), (32, .bipush (-11), 2), (34, .ireturn, 1), (35, .aload_n 0, 1), (36, .getfield 10, 3), (39, .aload_n 2, 1), (40, .invokevirtual 167, 3), (43, .aload_n 0, 1), (44, .getfield 10, 3), (47, .getfield 123, 3), (50, .getfield 126, 3), (53, .ireturn, 1)] = true := by decide +kernel
theorem dX10_back_0 : decode cX10_back 0 = .ok (.iload_n 1, 1) := ckS_g gdX10_back_0 0 rfl
theorem dX10_back_1 : decode cX10_back 1 = .ok (.ifCond .lt 8, 3) := ckS_g gdX10_back_0 1 rfl
theorem dX10_back_4 : decode cX10_back 4 = .ok (.iload_n 1, 1) := ckS_g gdX10_back_0 2 rfl
theorem dX10_back_5 : decode cX10_back 5 = .ok (.iconst 1, 1) := ckS_g gdX10_back_0 3 rfl
theorem dX10_back_6 : decode cX10_back 6 = .ok (.if_icmp .le 6, 3) := ckS_g gdX10_back_0 4 rfl
theorem dX10_back_9 : decode cX10_back 9 = .ok (.bipush (-9), 2) := ckS_g gdX10_back_0 5 rfl
theorem dX10_back_11 : decode cX10_back 11 = .ok (.ireturn, 1) := ckS_g gdX10_back_0 6 rfl
theorem dX10_back_12 : decode cX10_back 12 = .ok (.iload_n 1, 1) := ckS_g gdX10_back_0 7 rfl
theorem dX10_back_13 : decode cX10_back 13 = .ok (.ifCond .ne 10, 3) := ckS_g gdX10_back_0 8 rfl
theorem dX10_back_16 : decode cX10_back 16 = .ok (.aload_n 0, 1) := ckS_g gdX10_back_0 9 rfl
theorem dX10_back_17 : decode cX10_back 17 = .ok (.getfield 157, 3) := ckS_g gdX10_back_0 10 rfl
theorem dX10_back_20 : decode cX10_back 20 = .ok (.goto 7, 3) := ckS_g gdX10_back_0 11 rfl
theorem dX10_back_23 : decode cX10_back 23 = .ok (.aload_n 0, 1) := ckS_g gdX10_back_0 12 rfl
theorem dX10_back_24 : decode cX10_back 24 = .ok (.getfield 164, 3) := ckS_g gdX10_back_0 13 rfl
theorem dX10_back_27 : decode cX10_back 27 = .ok (.astore_n 2, 1) := ckS_g gdX10_back_0 14 rfl
theorem dX10_back_28 : decode cX10_back 28 = .ok (.aload_n 2, 1) := ckS_g gdX10_back_0 15 rfl
theorem dX10_back_29 : decode cX10_back 29 = .ok (.ifnonnull 6, 3) := ckS_g gdX10_back_0 16 rfl
theorem dX10_back_32 : decode cX10_back 32 = .ok (.bipush (-11), 2) := ckS_g gdX10_back_0 17 rfl
theorem dX10_back_34 : decode cX10_back 34 = .ok (.ireturn, 1) := ckS_g gdX10_back_0 18 rfl
theorem dX10_back_35 : decode cX10_back 35 = .ok (.aload_n 0, 1) := ckS_g gdX10_back_0 19 rfl
theorem dX10_back_36 : decode cX10_back 36 = .ok (.getfield 10, 3) := ckS_g gdX10_back_0 20 rfl
theorem dX10_back_39 : decode cX10_back 39 = .ok (.aload_n 2, 1) := ckS_g gdX10_back_0 21 rfl
theorem dX10_back_40 : decode cX10_back 40 = .ok (.invokevirtual 167, 3) := ckS_g gdX10_back_0 22 rfl
theorem dX10_back_43 : decode cX10_back 43 = .ok (.aload_n 0, 1) := ckS_g gdX10_back_0 23 rfl
theorem dX10_back_44 : decode cX10_back 44 = .ok (.getfield 10, 3) := ckS_g gdX10_back_0 24 rfl
theorem dX10_back_47 : decode cX10_back 47 = .ok (.getfield 123, 3) := ckS_g gdX10_back_0 25 rfl
theorem dX10_back_50 : decode cX10_back 50 = .ok (.getfield 126, 3) := ckS_g gdX10_back_0 26 rfl
theorem dX10_back_53 : decode cX10_back 53 = .ok (.ireturn, 1) := ckS_g gdX10_back_0 27 rfl
set_option maxRecDepth 100000 in
theorem zc765 : wZ (.code yX10_back cX10_back 3 (some .int)) := ⟨wT5 (List.mem_of_getElem? (i := 20) rfl), Or.inl rfl⟩
def b_Y10_back_9 (S : Cst) (x0 : Nat) (x1 : Int32) : Int32 × Cst := (((-9) : Int32), S)
def q_Y10_back_9 (S : Cst) (x0 : Nat) (lc : Nat) (ls : Nat) (x1 : Int32) : Prop := True
def b_Y10_back_43a (S : Cst) (x0 : Nat) (x1 : Int32) (x2 : Option Nat) : Int32 × Cst := ((giC S ((grC S ((grC S x0 0).getD 0) 4).getD 0) 3), S)
def q_Y10_back_43a (S : Cst) (x0 : Nat) (lc : Nat) (ls : Nat) (x1 : Int32) (x2 : Option Nat) : Prop := (iR S (grC S x0 0) 0) ∧ (iR S (grC S ((grC S x0 0).getD 0) 4) 2) ∧ True
def b_Y10_back_27 (S : Cst) (x0 : Nat) (x1 : Int32) (o0 : Option Nat) : Int32 × Cst := if o0 = none then (((-11) : Int32), S) else (b_Y10_back_43a ((f_Y0_become S ((grC S x0 0).getD 0) (o0.getD 0)).2) x0 x1 o0)
def q_Y10_back_27 (S : Cst) (x0 : Nat) (lc : Nat) (ls : Nat) (x1 : Int32) (o0 : Option Nat) : Prop := (if o0 = none then True else (iR S (grC S x0 0) 0) ∧ (iR S o0 0) ∧ ((S.1 ≤ (f_Y0_become S ((grC S x0 0).getD 0) (o0.getD 0)).2.1 ∧ (f_Y0_become S ((grC S x0 0).getD 0) (o0.getD 0)).2.1 ≤ lc) ∧ (S.2.1 ≤ (f_Y0_become S ((grC S x0 0).getD 0) (o0.getD 0)).2.2.1 ∧ (f_Y0_become S ((grC S x0 0).getD 0) (o0.getD 0)).2.2.1 ≤ ls)) ∧ (p_Y0_become S ((grC S x0 0).getD 0) (o0.getD 0) (f_Y0_become S ((grC S x0 0).getD 0) (o0.getD 0)).2.1 (f_Y0_become S ((grC S x0 0).getD 0) (o0.getD 0)).2.2.1) ∧ (vR S o0) ∧ (q_Y10_back_43a ((f_Y0_become S ((grC S x0 0).getD 0) (o0.getD 0)).2) x0 lc ls x1 o0))
def f_Y10_back (S : Cst) (x0 : Nat) (x1 : Int32) : Int32 × Cst := if x1 < 0 then (b_Y10_back_9 S x0 x1) else if x1 ≤ 1 then if x1 = 0 then (b_Y10_back_27 S x0 x1 (grC S x0 2)) else (b_Y10_back_27 S x0 x1 (grC S x0 3)) else (b_Y10_back_9 S x0 x1)
def p_Y10_back (S : Cst) (x0 : Nat) (lc : Nat) (ls : Nat) (x1 : Int32) : Prop := (if x1 < 0 then (q_Y10_back_9 S x0 lc ls x1) else (if x1 ≤ 1 then (if x1 = 0 then (q_Y10_back_27 S x0 lc ls x1 (grC S x0 2)) else (q_Y10_back_27 S x0 lc ls x1 (grC S x0 3))) else (q_Y10_back_9 S x0 lc ls x1)))
def e_Y10_back : List Cond := [.fieldLink RX10 164 "MotionFloor" "secondImage" "LMotionFloor$Assembly;", .fieldLink RX10 10 "MotionFloor" "now" "LMotionFloor$Assembly;", .methodLink RX10 167 yX0_become, .instanceMethod yX0_become, .selects RX0 yX0_become yX0_become, .initialized RX0, .fieldLink RX10 123 "MotionFloor$Assembly" "minutes" "LMotionFloor$Ledger;", .fieldLink RX10 126 "MotionFloor$Ledger" "size" "I", .fieldLink RX10 157 "MotionFloor" "firstImage" "LMotionFloor$Assembly;"]
def v_Y10_back : List Cond := .code yX10_back cX10_back 3 (some .int) :: (e_Y10_back ++ (wsX100 ++ (wsX00 ++ (wsX30 ++ (v_Y0_become ++ [])))))
theorem te_Y10_back : GoodIn lw_tbl e_Y10_back := wGc zc763 (wGc zc496 (wGc zc752 (wGc zc751 (wGc zc750 (wGc zc39 (wGc zc535 (wGc zc534 (wGc zc758 (wG0)))))))))
theorem t_Y10_back : GoodIn lw_tbl v_Y10_back := wGc zc765 (wGa te_Y10_back (wGa zcX10 (wGa zcX0 (wGa zcX3 (wGa t_Y0_become (wG0))))))
set_option maxHeartbeats 4000000 in
set_option maxRecDepth 100000 in
theorem c_Y10_back (l : Launch) (G : va_G) (K : Nat → ClassId) (ad0 : Nat → Nat) (S0 : Cst) (x0 : Nat) (lc : Nat) (ls : Nat) (a1 : Int32) (sz : Nat) : Met l yX10_back v_Y10_back ({ frames := 6, cells := lc - S0.1, slots := ls - S0.2.1, locals := 149 }) (va_Pc [.ref (ad0 x0), .int a1] (cSt G K ad0 sz S0 ((S0.1 ≤ lc ∧ S0.2.1 ≤ ls) ∧ iK S0 x0 7 ∧ p_Y10_back S0 x0 lc ls a1))) (va_Qi (fun (r : Int32) (u : Cst × (Nat → Nat)) => (r, u.1) = f_Y10_back S0 x0 a1 ∧ eN S0 u.1 ∧ (∀ q, q < S0.1 → u.2 q = ad0 q)) (fun u t => cBt G K u.2 (va_A (wsC K ad0 S0) sz) u.1 t) (va_A (wsC K ad0 S0) sz)) (lc - S0.1) (ls - S0.2.1) (va_A (wsC K ad0 S0) sz) := by
  refine Met.ofW (cc := cX10_back) (maxL := 3) (ret := (some .int)) (by decide) rfl ?_
  intro p e s m args below meth c s₁ B hml hv
  obtain ⟨rfl, ⟨hsz, hP, hK, hD0, hTE⟩, hp⟩ := hv
  obtain ⟨k_l, hp⟩ := hp
  obtain ⟨k_x0, hp⟩ := hp
  have hx := B.exec
  have hb := B.bytes
  have hr := B.returns
  have hts := atoms_spec (ws := v_Y10_back) B.pre
  have t_ := t_Y10_back
  have mw : ∀ w ∈ e_Y10_back, w ∈ v_Y10_back := fun w h => List.mem_cons_of_mem _ (List.mem_append_left _ h)
  have hw := fun w (h : w ∈ e_Y10_back) => hts w (mw w h)
  have iX10 : ∀ w ∈ wsX100, w ∈ v_Y10_back := fun w h => List.mem_cons_of_mem _ (List.mem_append_right _ (List.mem_append_left _ h))
  have iX0 : ∀ w ∈ wsX00, w ∈ v_Y10_back := fun w h => List.mem_cons_of_mem _ (List.mem_append_right _ (List.mem_append_right _ (List.mem_append_left _ h)))
  have iX3 : ∀ w ∈ wsX30, w ∈ v_Y10_back := fun w h => List.mem_cons_of_mem _ (List.mem_append_right _ (List.mem_append_right _ (List.mem_append_right _ (List.mem_append_left _ h))))
  have j_Y0_become : ∀ w ∈ v_Y0_become, w ∈ v_Y10_back := fun w h => List.mem_cons_of_mem _ (List.mem_append_right _ (List.mem_append_right _ (List.mem_append_right _ (List.mem_append_right _ (List.mem_append_left _ h)))))
  have hown : s.vm.findClass RX10 = some m.cls := findClass_of_methodNamed B.named
  have hlocks := B.notSynchronized
  subst hsz
  have hD := hD0.self (sz := s.heap.size)
  generalize hAe : va_A (wsC K ad0 S0) s.heap.size = A at hD ⊢
  have hA : ∀ q : Nat, s.heap.size ≤ q → A q := fun q h => by rw [← hAe]; exact Or.inr h
  have hS : va_S A s.heap s.heap [] := va_S.rf
  have hl : lv_has (lg_sl ([.ref (ad0 x0), .int a1]) ++ List.replicate (3 - (lg_sl ([.ref (ad0 x0), .int a1])).length) Slot.unset).toArray 3 [(0, .ref (ad0 x0)), (1, .int a1)] := by
    exact lv_entry ([.ref (ad0 x0), .int a1]) (n := 3) (Nat.le_of_ble_eq_true rfl)
  rw [lg_entry_eq]
  generalize (lg_sl ([.ref (ad0 x0), .int a1]) ++ List.replicate (3 - (lg_sl ([.ref (ad0 x0), .int a1])).length) Slot.unset).toArray = ls_ at hl ⊢
  refine wGen (fun Q hQ => ?_)
  obtain ⟨X, hX⟩ : ∃ X, f_Y10_back S0 x0 a1 = X := ⟨_, rfl⟩
  have B_Y10_back_9 : ∀ (S : Cst) (ad : Nat → Nat) (x1 : Int32) (H : Heap) (locs : List Loc) (ls_ : Array Slot), b_Y10_back_9 S x0 x1 = X → q_Y10_back_9 S x0 lc ls x1 → nH S0 ad0 lc ls S ad → va_P G vwCl (wsC K ad S) H → va_D A (wsC K ad S) → va_S A s.heap H locs → lv_has ls_ 3 [(0, .ref (ad x0)), (1, .int x1)] → W p l e ({ frames := 6, cells := lc - S0.1, slots := ls - S0.2.1, locals := 149 } : Room) s m #[Value.ref (ad0 x0), Value.int a1] below meth c H locs (S.1 - S0.1) (S.2.1 - S0.2.1) Q (F0 m 9 ls_ []) := by
    intro S ad x1 H locs ls_ hE hp hZ hP hD hS hl
    unfold b_Y10_back_9 at hE
    unfold q_Y10_back_9 at hp
    refine lv_bipush (v := (-9)) hx hb dX10_back_9 (by decide) ?_
    refine W.widen (k := lc - S0.1) (n := ls - S0.2.1) (show S.1 - S0.1 ≤ lc - S0.1 from Nat.sub_le_sub_right hZ.2.2.1 _) (show S.2.1 - S0.2.1 ≤ ls - S0.2.1 from Nat.sub_le_sub_right hZ.2.2.2 _) ?_
    subst hQ
    exact W.iret (v := ((-9) : Int32)) hx hb hr (fun t ht hW => ⟨⟨((-9) : Int32), (S, ad), rfl, ⟨hE.trans hX.symm, hZ.1, hZ.2.1⟩, by rw [ht]; exact hP, hD⟩, hS.F ht⟩) hS.2.2 dX10_back_11
  have B_Y10_back_43a : ∀ (S : Cst) (ad : Nat → Nat) (x1 : Int32) (x2 : Option Nat) (H : Heap) (locs : List Loc) (ls_ : Array Slot), b_Y10_back_43a S x0 x1 x2 = X → q_Y10_back_43a S x0 lc ls x1 x2 → nH S0 ad0 lc ls S ad → va_P G vwCl (wsC K ad S) H → va_D A (wsC K ad S) → va_S A s.heap H locs → lv_has ls_ 3 [(0, .ref (ad x0)), (1, .int x1), (2, va_re ad x2)] → W p l e ({ frames := 6, cells := lc - S0.1, slots := ls - S0.2.1, locals := 149 } : Room) s m #[Value.ref (ad0 x0), Value.int a1] below meth c H locs (S.1 - S0.1) (S.2.1 - S0.2.1) Q (F0 m 43 ls_ []) := by
    intro S ad x1 x2 H locs ls_ hE hp hZ hP hD hS hl
    unfold b_Y10_back_43a at hE
    unfold q_Y10_back_43a at hp
    refine lv_aload_n hx hb dX10_back_43 rfl (lv_at hl 0 rfl) ?_
    refine va_get (D := G) (ci := 7) (v := va_re ad (grC S x0 0)) (C := RX10) (T := TX10) (N := 5) hx hb hts iX10 hown hK hP x0 (at_7 (k_x0.n hZ.1)) rfl 0 (by decide) (hw (.fieldLink RX10 10 "MotionFloor" "now" "LMotionFloor$Assembly;") (List.mem_of_getElem? (i := 1) rfl)) (fun _ h9 => h9) rfl dX10_back_44 ?_
    obtain ⟨hy12, hp⟩ := hp
    refine cTop (r := (grC S x0 0)) hy12.1 ?_
    refine va_get (D := G) (ci := 0) (v := va_re ad (grC S ((grC S x0 0).getD 0) 4)) (C := RX0) (T := TX0) (N := 11) hx hb hts iX0 hown hK hP ((grC S x0 0).getD 0) (at_0 hy12.2) rfl 4 (by decide) (hw (.fieldLink RX10 123 "MotionFloor$Assembly" "minutes" "LMotionFloor$Ledger;") (List.mem_of_getElem? (i := 6) rfl)) (fun _ h9 => h9) rfl dX10_back_47 ?_
    obtain ⟨hy13, hp⟩ := hp
    refine cTop (r := (grC S ((grC S x0 0).getD 0) 4)) hy13.1 ?_
    refine va_get (D := G) (ci := 2) (v := .int (giC S ((grC S ((grC S x0 0).getD 0) 4).getD 0) 3)) (C := RX3) (T := TX3) (N := 4) hx hb hts iX3 hown hK hP ((grC S ((grC S x0 0).getD 0) 4).getD 0) (at_2 hy13.2) rfl 3 (by decide) (hw (.fieldLink RX10 126 "MotionFloor$Ledger" "size" "I") (List.mem_of_getElem? (i := 7) rfl)) (fun _ h9 => h9) rfl dX10_back_50 ?_
    refine W.widen (k := lc - S0.1) (n := ls - S0.2.1) (show S.1 - S0.1 ≤ lc - S0.1 from Nat.sub_le_sub_right hZ.2.2.1 _) (show S.2.1 - S0.2.1 ≤ ls - S0.2.1 from Nat.sub_le_sub_right hZ.2.2.2 _) ?_
    subst hQ
    exact W.iret (v := (giC S ((grC S ((grC S x0 0).getD 0) 4).getD 0) 3)) hx hb hr (fun t ht hW => ⟨⟨(giC S ((grC S ((grC S x0 0).getD 0) 4).getD 0) 3), (S, ad), rfl, ⟨hE.trans hX.symm, hZ.1, hZ.2.1⟩, by rw [ht]; exact hP, hD⟩, hS.F ht⟩) hS.2.2 dX10_back_53
  have B_Y10_back_27 : ∀ (S : Cst) (ad : Nat → Nat) (x1 : Int32) (o0 : Option Nat) (H : Heap) (locs : List Loc) (ls_ : Array Slot), b_Y10_back_27 S x0 x1 o0 = X → q_Y10_back_27 S x0 lc ls x1 o0 → nH S0 ad0 lc ls S ad → va_P G vwCl (wsC K ad S) H → va_D A (wsC K ad S) → va_S A s.heap H locs → lv_has ls_ 3 [(0, .ref (ad x0)), (1, .int x1)] → W p l e ({ frames := 6, cells := lc - S0.1, slots := ls - S0.2.1, locals := 149 } : Room) s m #[Value.ref (ad0 x0), Value.int a1] below meth c H locs (S.1 - S0.1) (S.2.1 - S0.2.1) Q (F0 m 27 ls_ [va_re ad o0]) := by
    intro S ad x1 o0 H locs ls_ hE hp hZ hP hD hS hl
    unfold b_Y10_back_27 at hE
    unfold q_Y10_back_27 at hp
    refine cAstore_n (ad := ad) (r := o0) (i := 2) (lv' := [(2, va_re ad o0), (0, .ref (ad x0)), (1, .int x1)]) hx hb dX10_back_27 rfl hl (by decide) rfl (fun ls_ hl => ?_)
    refine cAload_n (ad := ad) (r := o0) hx hb dX10_back_28 rfl (lv_at hl 0 rfl) ?_
    refine cIfnonnull (ad := ad) (r := o0) (tgt := 35) hx hb dX10_back_29 (by decide) (fun c4 => ?_) (fun c4 => ?_)
    · rw [if_pos c4] at hE hp
      refine lv_bipush (v := (-11)) hx hb dX10_back_32 (by decide) ?_
      refine W.widen (k := lc - S0.1) (n := ls - S0.2.1) (show S.1 - S0.1 ≤ lc - S0.1 from Nat.sub_le_sub_right hZ.2.2.1 _) (show S.2.1 - S0.2.1 ≤ ls - S0.2.1 from Nat.sub_le_sub_right hZ.2.2.2 _) ?_
      subst hQ
      exact W.iret (v := ((-11) : Int32)) hx hb hr (fun t ht hW => ⟨⟨((-11) : Int32), (S, ad), rfl, ⟨hE.trans hX.symm, hZ.1, hZ.2.1⟩, by rw [ht]; exact hP, hD⟩, hS.F ht⟩) hS.2.2 dX10_back_34
    · rw [if_neg c4] at hE hp
      refine lv_aload_n hx hb dX10_back_35 rfl (lv_at hl 1 rfl) ?_
      refine va_get (D := G) (ci := 7) (v := va_re ad (grC S x0 0)) (C := RX10) (T := TX10) (N := 5) hx hb hts iX10 hown hK hP x0 (at_7 (k_x0.n hZ.1)) rfl 0 (by decide) (hw (.fieldLink RX10 10 "MotionFloor" "now" "LMotionFloor$Assembly;") (List.mem_of_getElem? (i := 1) rfl)) (fun _ h9 => h9) rfl dX10_back_36 ?_
      refine cAload_n (ad := ad) (r := o0) hx hb dX10_back_39 rfl (lv_at hl 0 rfl) ?_
      obtain ⟨hy5, hp⟩ := hp
      refine cTop2 (r := (grC S x0 0)) hy5.1 ?_
      obtain ⟨hy6, hp⟩ := hp
      refine cTop (r := o0) hy6.1 ?_
      obtain ⟨hy7, hp⟩ := hp
      obtain ⟨hy8, hp⟩ := hp
      refine cNov (va_runV (As := [.ref (ad (o0.getD 0))]) (rest := []) ⟨hx, hb, hml, hown, hts⟩ (c_Y0_become l G K ad S ((grC S x0 0).getD 0) (o0.getD 0) (f_Y0_become S ((grC S x0 0).getD 0) (o0.getD 0)).2.1 (f_Y0_become S ((grC S x0 0).getD 0) (o0.getD 0)).2.2.1 _) (cwV 1 hts (wGV t_ (mw (.methodLink RX10 167 yX0_become) (List.mem_of_getElem? (i := 2) rfl)) (mw (.instanceMethod yX0_become) (List.mem_of_getElem? (i := 3) rfl)) (mw (.selects RX0 yX0_become yX0_become) (List.mem_of_getElem? (i := 4) rfl)) (mw (.initialized RX0) (List.mem_of_getElem? (i := 5) rfl)) j_Y0_become) rfl rfl rfl (by decide +kernel) ⟨Nat.le_of_ble_eq_true rfl, Nat.le_of_ble_eq_true rfl⟩) (cPV hK hTE hP hD 0 rfl (at_0 hy5.2) ⟨⟨hy7.1.1, hy7.2.1⟩, hy5.2, hy6.2, hy8⟩) rfl rfl hl.1 rfl (lv_room (Nat.le_of_ble_eq_true rfl)) dX10_back_40 ⟨by show _ ≤ lc - S0.1; have := hZ.1.1.1; have := hy7.1; omega, by show _ ≤ ls - S0.2.1; have := hZ.1.1.2; have := hy7.2; omega⟩) hP hD hS hA (fun u9 H locs hv hP hD hS => ?_)
      obtain ⟨hv, hz, ha⟩ := hv
      obtain ⟨hy11, hp⟩ := hp
      have e1 : (f_Y0_become S ((grC S x0 0).getD 0) (o0.getD 0)).2.1 = u9.1.1 := by rw [← hv]
      have e2 : (f_Y0_become S ((grC S x0 0).getD 0) (o0.getD 0)).2.2.1 = u9.1.2.1 := by rw [← hv]
      refine cCells (cells' := u9.1.1 - S0.1) (slots' := u9.1.2.1 - S0.2.1) (by have := hZ.1.1.1; have := hy7.1; omega) (by have := hZ.1.1.2; have := hy7.2; omega) ?_
      rw [← re_ad (r := o0) ha hy11] at hl
      rw [← ha x0 (k_x0.n hZ.1).1] at hl
      have hZ := hZ.n hz ha (by rw [← e1]; exact hy7.1.2) (by rw [← e2]; exact hy7.2.2)
      rw [← hv] at hE hp
      dsimp only at hE hp
      exact B_Y10_back_43a u9.1 u9.2 x1 o0 _ _ _ hE hp hZ hP hD hS (lv_sub hl [1, 2, 0] rfl)
  have B_M : ∀ (S : Cst) (ad : Nat → Nat) (x1 : Int32) (H : Heap) (locs : List Loc) (ls_ : Array Slot), f_Y10_back S x0 x1 = X → p_Y10_back S x0 lc ls x1 → nH S0 ad0 lc ls S ad → va_P G vwCl (wsC K ad S) H → va_D A (wsC K ad S) → va_S A s.heap H locs → lv_has ls_ 3 [(0, .ref (ad x0)), (1, .int x1)] → W p l e ({ frames := 6, cells := lc - S0.1, slots := ls - S0.2.1, locals := 149 } : Room) s m #[Value.ref (ad0 x0), Value.int a1] below meth c H locs (S.1 - S0.1) (S.2.1 - S0.2.1) Q (F0 m 0 ls_ []) := by
    intro S ad x1 H locs ls_ hE hp hZ hP hD hS hl
    unfold f_Y10_back at hE
    unfold p_Y10_back at hp
    refine lv_iload_n hx hb dX10_back_0 rfl (lv_at hl 1 rfl) ?_
    refine lv_if_lt (tgt := 9) hx hb dX10_back_1 (by decide) (fun c1 => ?_) (fun c1 => ?_)
    · rw [if_pos c1] at hE hp
      exact B_Y10_back_9 S ad x1 _ _ _ hE hp hZ hP hD hS (lv_sub hl [0, 1] rfl)
    · rw [if_neg c1] at hE hp
      refine lv_iload_n hx hb dX10_back_4 rfl (lv_at hl 1 rfl) ?_
      refine lv_iconst (v := 1) hx hb dX10_back_5 (by decide) ?_
      refine lv_icmp_le (tgt := 12) hx hb dX10_back_6 (by decide) (fun c2 => ?_) (fun c2 => ?_)
      · rw [if_pos c2] at hE hp
        refine lv_iload_n hx hb dX10_back_12 rfl (lv_at hl 1 rfl) ?_
        refine lv_if_ne (tgt := 23) hx hb dX10_back_13 (by decide) (fun c3 => ?_) (fun c3 => ?_)
        · rw [if_neg c3] at hE hp
          refine lv_aload_n hx hb dX10_back_23 rfl (lv_at hl 0 rfl) ?_
          refine va_get (D := G) (ci := 7) (v := va_re ad (grC S x0 3)) (C := RX10) (T := TX10) (N := 5) hx hb hts iX10 hown hK hP x0 (at_7 (k_x0.n hZ.1)) rfl 3 (by decide) (hw (.fieldLink RX10 164 "MotionFloor" "secondImage" "LMotionFloor$Assembly;") (List.mem_of_getElem? (i := 0) rfl)) (fun _ h9 => h9) rfl dX10_back_24 ?_
          exact B_Y10_back_27 S ad x1 (grC S x0 3) _ _ _ hE hp hZ hP hD hS (lv_sub hl [0, 1] rfl)
        · rw [if_pos c3] at hE hp
          refine lv_aload_n hx hb dX10_back_16 rfl (lv_at hl 0 rfl) ?_
          refine va_get (D := G) (ci := 7) (v := va_re ad (grC S x0 2)) (C := RX10) (T := TX10) (N := 5) hx hb hts iX10 hown hK hP x0 (at_7 (k_x0.n hZ.1)) rfl 2 (by decide) (hw (.fieldLink RX10 157 "MotionFloor" "firstImage" "LMotionFloor$Assembly;") (List.mem_of_getElem? (i := 8) rfl)) (fun _ h9 => h9) rfl dX10_back_17 ?_
          refine lv_goto (tgt := 27) hx hb dX10_back_20 (by decide) ?_
          exact B_Y10_back_27 S ad x1 (grC S x0 2) _ _ _ hE hp hZ hP hD hS (lv_sub hl [0, 1] rfl)
      · rw [if_neg c2] at hE hp
        exact B_Y10_back_9 S ad x1 _ _ _ hE hp hZ hP hD hS (lv_sub hl [0, 1] rfl)
  exact cCells (Nat.sub_self _).symm (Nat.sub_self _).symm (B_M S0 ad0 a1 _ _ _ hX hp (nH.rf S0 ad0 k_l) hP hD hS hl)
end
section
/-! ===== the class's own table (a static that nobody writes) ===== -/
def tabN (j : Nat) : Int32 := ([0, 1, 1, 1, 1, 2, 1, 1, 0, 1, 1, 2, 4, 1, 1, 1, 1, 2, 1, 0, 1, 0, 0] : List Int32).getD j 0
def zst (nt : Nat) (A : Nat → Prop) (U : State) (H : Heap) : Prop := va_Z "MotionFloor" "NUMBERS_OF_ACT" "[I" (.ref nt) A U H ∧ va_T .int nt 23 (fun j => .int (tabN j)) A U H
def zSt (nt : Nat) (G : va_G) (K : Nat → ClassId) (ad : Nat → Nat) (sz : Nat) (S : Cst) (P : Prop) (U : State) : Prop := cSt G K ad sz S P U ∧ zst nt (va_A (wsC K ad S) sz) U U.heap
theorem zFB {nt : Nat} {G : va_G} {K : Nat → ClassId} {ad : Nat → Nat} {sz : Nat} {S : Cst} {P : Prop} {av : List Value} : FrameBlind (va_Pc av (zSt nt G K ad sz S P)) := fun a U g' mk q => ⟨q.1, (cFB (av := av) a U g' mk ⟨q.1, q.2.1⟩).2, va_Z.moved (Vm.Alike.refl U.vm) q.2.2.1, va_T.moved (Vm.Alike.refl U.vm) q.2.2.2⟩
theorem zPV {nt : Nat} {G : va_G} {K : Nat → ClassId} {ad : Nat → Nat} {S : Cst} {P : Prop} {H : Heap} {s : State} {As : List Value} {A : Nat → Prop} {locs : List Loc} (hK : va_K G vwCl (wTY K) s) (hE : wE s) (hP : va_P G vwCl (wsC K ad S) H) (hD : va_D A (wsC K ad S)) (hN : zst nt A s s.heap) (hS : va_S A s.heap H locs) (hA : ∀ q, s.heap.size ≤ q → A q) (ci : Nat) {q0 b : Nat} {q : vw_C} {fs : List Value} (hc : vwCl[ci]? = some q) (he : (wsC K ad S)[q0]? = some (b, .inr (ci, fs))) (p : P) : PreV s H q.1 b (va_Pc (.ref b :: As) (zSt nt G K ad H.size S P)) As := by
  have hz : ∀ q, va_A (wsC K ad S) H.size q → A q := fun q hq => by
    rcases hq with ⟨k, e', h1⟩ | h1
    · exact hD.2 k (q, e') h1
    · exact hA q (Nat.le_trans hS.1 h1)
  refine ⟨zFB, va_recv hK hP hc he, fun U hU hW' => ⟨rfl, ((cPV (As := As) hK hE hP hD ci hc he p).2.2 U hU hW').2, ?_, ?_⟩⟩
  · rw [hU]
    exact va_Z.moved hW'.alike ((hN.1.kept hS.2.1).narrow hz)
  · rw [hU]
    exact va_T.moved hW'.alike ((hN.2.kept hS.2.1).narrow hz)
end
section
theorem gdX10_canBeDone_0 : ckS (List.drop 0 cX10_canBeDone.data.toList) 0 [(0, .aload_n 0, 1), (1, .getfield 24, 3), (4, .iload_n 1, 1), (5, .iconst 0, 1), (6, .invokevirtual 86, 3), (9, .istore_n 2, 1), (10, .iload_n 2, 1), (11, .iconst 1, 1), (12, .if_icmp .lt 11, 3), (15, .iload_n 2, 1), (16, .getstatic 171, 3), (19, .arraylength, 1), (20, .if_icmp .lt 5, 3), (23, .iconst 0, 1), (24, .ireturn, 1), (25, .getstatic 171, 3), (28, .iload_n 2, 1), (29, .iaload, 1), (30, .iconst 1, 1), (31, .iadd, 1), (32, .istore_n 3, 1), (33, .iload_n 3, 1), (34, .iconst 5, 1), (35, .if_icmp .ge 23, 3), (38, .aload_n 0, 1), (39, .getfield 24, 3), (42, .iload_n 1, 1), (43, .iload_n 3, 1), (44, .invokevirtual 86, 3), (47, .ifCond .eq 5, 3), (50, .iconst 0, 1), (51, .ireturn, 1), (52, .iinc 3 1, 3), (55, .goto (-22), 3), (58, .iconst 1, 1), (59, .ireturn, 1)] = true := by decide +kernel
theorem dX10_canBeDone_0 : decode cX10_canBeDone 0 = .ok (.aload_n 0, 1) := ckS_g gdX10_canBeDone_0 0 rfl
theorem dX10_canBeDone_1 : decode cX10_canBeDone 1 = .ok (.getfield 24, 3) := ckS_g gdX10_canBeDone_0 1 rfl
theorem dX10_canBeDone_4 : decode cX10_canBeDone 4 = .ok (.iload_n 1, 1) := ckS_g gdX10_canBeDone_0 2 rfl
theorem dX10_canBeDone_5 : decode cX10_canBeDone 5 = .ok (.iconst 0, 1) := ckS_g gdX10_canBeDone_0 3 rfl
theorem dX10_canBeDone_6 : decode cX10_canBeDone 6 = .ok (.invokevirtual 86, 3) := ckS_g gdX10_canBeDone_0 4 rfl
theorem dX10_canBeDone_9 : decode cX10_canBeDone 9 = .ok (.istore_n 2, 1) := ckS_g gdX10_canBeDone_0 5 rfl
theorem dX10_canBeDone_10 : decode cX10_canBeDone 10 = .ok (.iload_n 2, 1) := ckS_g gdX10_canBeDone_0 6 rfl
theorem dX10_canBeDone_11 : decode cX10_canBeDone 11 = .ok (.iconst 1, 1) := ckS_g gdX10_canBeDone_0 7 rfl
theorem dX10_canBeDone_12 : decode cX10_canBeDone 12 = .ok (.if_icmp .lt 11, 3) := ckS_g gdX10_canBeDone_0 8 rfl
theorem dX10_canBeDone_15 : decode cX10_canBeDone 15 = .ok (.iload_n 2, 1) := ckS_g gdX10_canBeDone_0 9 rfl
theorem dX10_canBeDone_16 : decode cX10_canBeDone 16 = .ok (.getstatic 171, 3) := ckS_g gdX10_canBeDone_0 10 rfl
theorem dX10_canBeDone_19 : decode cX10_canBeDone 19 = .ok (.arraylength, 1) := ckS_g gdX10_canBeDone_0 11 rfl
theorem dX10_canBeDone_20 : decode cX10_canBeDone 20 = .ok (.if_icmp .lt 5, 3) := ckS_g gdX10_canBeDone_0 12 rfl
theorem dX10_canBeDone_23 : decode cX10_canBeDone 23 = .ok (.iconst 0, 1) := ckS_g gdX10_canBeDone_0 13 rfl
theorem dX10_canBeDone_24 : decode cX10_canBeDone 24 = .ok (.ireturn, 1) := ckS_g gdX10_canBeDone_0 14 rfl
theorem dX10_canBeDone_25 : decode cX10_canBeDone 25 = .ok (.getstatic 171, 3) := ckS_g gdX10_canBeDone_0 15 rfl
theorem dX10_canBeDone_28 : decode cX10_canBeDone 28 = .ok (.iload_n 2, 1) := ckS_g gdX10_canBeDone_0 16 rfl
theorem dX10_canBeDone_29 : decode cX10_canBeDone 29 = .ok (.iaload, 1) := ckS_g gdX10_canBeDone_0 17 rfl
theorem dX10_canBeDone_30 : decode cX10_canBeDone 30 = .ok (.iconst 1, 1) := ckS_g gdX10_canBeDone_0 18 rfl
theorem dX10_canBeDone_31 : decode cX10_canBeDone 31 = .ok (.iadd, 1) := ckS_g gdX10_canBeDone_0 19 rfl
theorem dX10_canBeDone_32 : decode cX10_canBeDone 32 = .ok (.istore_n 3, 1) := ckS_g gdX10_canBeDone_0 20 rfl
theorem dX10_canBeDone_33 : decode cX10_canBeDone 33 = .ok (.iload_n 3, 1) := ckS_g gdX10_canBeDone_0 21 rfl
theorem dX10_canBeDone_34 : decode cX10_canBeDone 34 = .ok (.iconst 5, 1) := ckS_g gdX10_canBeDone_0 22 rfl
theorem dX10_canBeDone_35 : decode cX10_canBeDone 35 = .ok (.if_icmp .ge 23, 3) := ckS_g gdX10_canBeDone_0 23 rfl
theorem dX10_canBeDone_38 : decode cX10_canBeDone 38 = .ok (.aload_n 0, 1) := ckS_g gdX10_canBeDone_0 24 rfl
theorem dX10_canBeDone_39 : decode cX10_canBeDone 39 = .ok (.getfield 24, 3) := ckS_g gdX10_canBeDone_0 25 rfl
theorem dX10_canBeDone_42 : decode cX10_canBeDone 42 = .ok (.iload_n 1, 1) := ckS_g gdX10_canBeDone_0 26 rfl
theorem dX10_canBeDone_43 : decode cX10_canBeDone 43 = .ok (.iload_n 3, 1) := ckS_g gdX10_canBeDone_0 27 rfl
theorem dX10_canBeDone_44 : decode cX10_canBeDone 44 = .ok (.invokevirtual 86, 3) := ckS_g gdX10_canBeDone_0 28 rfl
theorem dX10_canBeDone_47 : decode cX10_canBeDone 47 = .ok (.ifCond .eq 5, 3) := ckS_g gdX10_canBeDone_0 29 rfl
theorem dX10_canBeDone_50 : decode cX10_canBeDone 50 = .ok (.iconst 0, 1) := ckS_g gdX10_canBeDone_0 30 rfl
theorem dX10_canBeDone_51 : decode cX10_canBeDone 51 = .ok (.ireturn, 1) := ckS_g gdX10_canBeDone_0 31 rfl
theorem dX10_canBeDone_52 : decode cX10_canBeDone 52 = .ok (.iinc 3 1, 3) := ckS_g gdX10_canBeDone_0 32 rfl
theorem dX10_canBeDone_55 : decode cX10_canBeDone 55 = .ok (.goto (-22), 3) := ckS_g gdX10_canBeDone_0 33 rfl
theorem dX10_canBeDone_58 : decode cX10_canBeDone 58 = .ok (.iconst 1, 1) := ckS_g gdX10_canBeDone_0 34 rfl
theorem dX10_canBeDone_59 : decode cX10_canBeDone 59 = .ok (.ireturn, 1) := ckS_g gdX10_canBeDone_0 35 rfl
set_option maxRecDepth 100000 in
theorem zc766 : wZ (.fieldLink RX10 171 "MotionFloor" "NUMBERS_OF_ACT" "[I") := ⟨wT4 (List.mem_of_getElem? (i := 216) (by decide +kernel)), Or.inl rfl⟩
set_option maxRecDepth 100000 in
theorem zc767 : wZ (.code yX10_canBeDone cX10_canBeDone 4 (some .boolean)) := ⟨wT4 (List.mem_of_getElem? (i := 215) rfl), Or.inl rfl⟩
def b_Y10_canBeDone_23 (S : Cst) (x0 : Nat) (x1 : Int32) (x2 : Int32) : Int32 := (0 : Int32)
def q_Y10_canBeDone_23 (S : Cst) (x0 : Nat) (x1 : Int32) (x2 : Int32) : Prop := True
def st_Y10_canBeDone_33 (S : Cst) (x0 : Nat) (x1 : Int32) (x2 : Int32) (x3 : Int32) : (Int32) ⊕ (Int32 × Int32 × Int32) := if 5 ≤ x3 then Sum.inl ((1 : Int32)) else if (f_Y3_at S ((grC S x0 4).getD 0) x1 x3) = 0 then Sum.inr (x1, x2, (x3 + 1)) else Sum.inl ((0 : Int32))
def ps_Y10_canBeDone_33 (S : Cst) (x0 : Nat) (x1 : Int32) (x2 : Int32) (x3 : Int32) : Prop := (if 5 ≤ x3 then True else (iR S (grC S x0 4) 2) ∧ (p_Y3_at S ((grC S x0 4).getD 0) x1 x3) ∧ (if (f_Y3_at S ((grC S x0 4).getD 0) x1 x3) = 0 then True else True))
def lp_Y10_canBeDone_33 (S : Cst) (x0 : Nat) : Nat → Int32 → Int32 → Int32 → Int32
  | 0, _, _, _ => 0
  | n + 1, x1, x2, x3 => match st_Y10_canBeDone_33 S x0 x1 x2 x3 with
    | Sum.inl r => r
    | Sum.inr q => lp_Y10_canBeDone_33 S x0 n q.1 q.2.1 q.2.2
def lq_Y10_canBeDone_33 (S : Cst) (x0 : Nat) : Nat → Int32 → Int32 → Int32 → Prop
  | 0, _, _, _ => False
  | n + 1, x1, x2, x3 => ps_Y10_canBeDone_33 S x0 x1 x2 x3 ∧ (match st_Y10_canBeDone_33 S x0 x1 x2 x3 with
    | Sum.inl _ => True
    | Sum.inr q => lq_Y10_canBeDone_33 S x0 n q.1 q.2.1 q.2.2)
def f_Y10_canBeDone (S : Cst) (x0 : Nat) (x1 : Int32) : Int32 := if (f_Y3_at S ((grC S x0 4).getD 0) x1 (0 : Int32)) < 1 then (b_Y10_canBeDone_23 S x0 x1 (f_Y3_at S ((grC S x0 4).getD 0) x1 (0 : Int32))) else if (f_Y3_at S ((grC S x0 4).getD 0) x1 (0 : Int32)) < 23 then (lp_Y10_canBeDone_33 S x0 100000 x1 (f_Y3_at S ((grC S x0 4).getD 0) x1 (0 : Int32)) ((tabN (f_Y3_at S ((grC S x0 4).getD 0) x1 (0 : Int32)).toNatClampNeg) + 1)) else (b_Y10_canBeDone_23 S x0 x1 (f_Y3_at S ((grC S x0 4).getD 0) x1 (0 : Int32)))
def p_Y10_canBeDone (S : Cst) (x0 : Nat) (x1 : Int32) : Prop := (iR S (grC S x0 4) 2) ∧ (p_Y3_at S ((grC S x0 4).getD 0) x1 (0 : Int32)) ∧ (if (f_Y3_at S ((grC S x0 4).getD 0) x1 (0 : Int32)) < 1 then (q_Y10_canBeDone_23 S x0 x1 (f_Y3_at S ((grC S x0 4).getD 0) x1 (0 : Int32))) else (if (f_Y3_at S ((grC S x0 4).getD 0) x1 (0 : Int32)) < 23 then (vp_in (f_Y3_at S ((grC S x0 4).getD 0) x1 (0 : Int32)) 23) ∧ (lq_Y10_canBeDone_33 S x0 100000 x1 (f_Y3_at S ((grC S x0 4).getD 0) x1 (0 : Int32)) ((tabN (f_Y3_at S ((grC S x0 4).getD 0) x1 (0 : Int32)).toNatClampNeg) + 1)) else (q_Y10_canBeDone_23 S x0 x1 (f_Y3_at S ((grC S x0 4).getD 0) x1 (0 : Int32)))))
def e_Y10_canBeDone : List Cond := [.fieldLink RX10 24 "MotionFloor" "row" "LMotionFloor$Ledger;", .methodLink RX10 86 yX3_at, .instanceMethod yX3_at, .selects RX3 yX3_at yX3_at, .initialized RX3, .fieldLink RX10 171 "MotionFloor" "NUMBERS_OF_ACT" "[I"]
def v_Y10_canBeDone : List Cond := .code yX10_canBeDone cX10_canBeDone 4 (some .boolean) :: (e_Y10_canBeDone ++ (wsX100 ++ (v_Y3_at ++ [])))
theorem te_Y10_canBeDone : GoodIn lw_tbl e_Y10_canBeDone := wGc zc530 (wGc zc527 (wGc zc526 (wGc zc525 (wGc zc480 (wGc zc766 (wG0))))))
theorem t_Y10_canBeDone : GoodIn lw_tbl v_Y10_canBeDone := wGc zc767 (wGa te_Y10_canBeDone (wGa zcX10 (wGa t_Y3_at (wG0))))
set_option maxHeartbeats 4000000 in
set_option maxRecDepth 100000 in
theorem c_Y10_canBeDone (l : Launch) (G : va_G) (K : Nat → ClassId) (ad : Nat → Nat) (S : Cst) (x0 : Nat) (a1 : Int32) (nt : Nat) (sz : Nat) : Met l yX10_canBeDone v_Y10_canBeDone ({ frames := 1, cells := 0, slots := 0, locals := 23 }) (va_Pc [.ref (ad x0), .int a1] (zSt nt G K ad sz S (iK S x0 7 ∧ p_Y10_canBeDone S x0 a1))) (va_Qi (fun (r : Int32) (u : Cst) => (r, u) = (f_Y10_canBeDone S x0 a1, S)) (cBt G K ad (va_A (wsC K ad S) sz)) (va_A (wsC K ad S) sz)) 0 0 (va_A (wsC K ad S) sz) := by
  refine Met.ofW (cc := cX10_canBeDone) (maxL := 4) (ret := (some .boolean)) (by decide) rfl ?_
  intro p e s m args below meth c s₁ B hml hv
  obtain ⟨rfl, ⟨⟨hsz, hP, hK, hD0, hTE⟩, hp⟩, hN⟩ := hv
  obtain ⟨k_x0, hp⟩ := hp
  have hx := B.exec
  have hb := B.bytes
  have hr := B.returns
  have hts := atoms_spec (ws := v_Y10_canBeDone) B.pre
  have t_ := t_Y10_canBeDone
  have mw : ∀ w ∈ e_Y10_canBeDone, w ∈ v_Y10_canBeDone := fun w h => List.mem_cons_of_mem _ (List.mem_append_left _ h)
  have hw := fun w (h : w ∈ e_Y10_canBeDone) => hts w (mw w h)
  have iX10 : ∀ w ∈ wsX100, w ∈ v_Y10_canBeDone := fun w h => List.mem_cons_of_mem _ (List.mem_append_right _ (List.mem_append_left _ h))
  have j_Y3_at : ∀ w ∈ v_Y3_at, w ∈ v_Y10_canBeDone := fun w h => List.mem_cons_of_mem _ (List.mem_append_right _ (List.mem_append_right _ (List.mem_append_left _ h)))
  have hown : s.vm.findClass RX10 = some m.cls := findClass_of_methodNamed B.named
  have hlocks := B.notSynchronized
  subst hsz
  have hD := hD0.self (sz := s.heap.size)
  generalize hAe : va_A (wsC K ad S) s.heap.size = A at hD hN ⊢
  have hA : ∀ q : Nat, s.heap.size ≤ q → A q := fun q h => by rw [← hAe]; exact Or.inr h
  have hS : va_S A s.heap s.heap [] := va_S.rf
  have hl : lv_has (lg_sl ([.ref (ad x0), .int a1]) ++ List.replicate (4 - (lg_sl ([.ref (ad x0), .int a1])).length) Slot.unset).toArray 4 [(0, .ref (ad x0)), (1, .int a1)] := by
    exact lv_entry ([.ref (ad x0), .int a1]) (n := 4) (Nat.le_of_ble_eq_true rfl)
  rw [lg_entry_eq]
  generalize (lg_sl ([.ref (ad x0), .int a1]) ++ List.replicate (4 - (lg_sl ([.ref (ad x0), .int a1])).length) Slot.unset).toArray = ls_ at hl ⊢
  refine wGen (fun Q hQ => ?_)
  obtain ⟨X, hX⟩ : ∃ X, f_Y10_canBeDone S x0 a1 = X := ⟨_, rfl⟩
  have B_Y10_canBeDone_23 : ∀ (x1 : Int32) (x2 : Int32) (H : Heap) (locs : List Loc) (ls_ : Array Slot), b_Y10_canBeDone_23 S x0 x1 x2 = X → q_Y10_canBeDone_23 S x0 x1 x2 → va_P G vwCl (wsC K ad S) H → va_D A (wsC K ad S) → va_S A s.heap H locs → lv_has ls_ 4 [(0, .ref (ad x0)), (1, .int x1), (2, .int x2)] → W p l e ({ frames := 1, cells := 0, slots := 0, locals := 23 } : Room) s m #[Value.ref (ad x0), Value.int a1] below meth c H locs 0 0 Q (F0 m 23 ls_ []) := by
    intro x1 x2 H locs ls_ hE hp hP hD hS hl
    unfold b_Y10_canBeDone_23 at hE
    unfold q_Y10_canBeDone_23 at hp
    refine lv_iconst (v := 0) hx hb dX10_canBeDone_23 (by decide) ?_
    subst hQ
    exact W.zret (v := (0 : Int32)) (ty := .boolean) hx hb hr rfl (fun t ht hW => ⟨⟨(0 : Int32), S, rfl, (pair_i (hE.trans hX.symm)), by rw [ht]; exact hP, hD⟩, hS.F ht⟩) hS.2.2 dX10_canBeDone_24
  have L_33 : ∀ (n : Nat) (x1 : Int32) (x2 : Int32) (x3 : Int32) (H : Heap) (locs : List Loc) (ls_ : Array Slot), lp_Y10_canBeDone_33 S x0 n x1 x2 x3 = X → lq_Y10_canBeDone_33 S x0 n x1 x2 x3 → va_P G vwCl (wsC K ad S) H → va_D A (wsC K ad S) → va_S A s.heap H locs → lv_has ls_ 4 [(0, .ref (ad x0)), (1, .int x1), (2, .int x2), (3, .int x3)] → W p l e ({ frames := 1, cells := 0, slots := 0, locals := 23 } : Room) s m #[Value.ref (ad x0), Value.int a1] below meth c H locs 0 0 Q (F0 m 33 ls_ []) := by
    intro n1
    induction n1 with
    | zero => intro x1 x2 x3 H locs ls_ hE hp; exact False.elim hp
    | succ n1 ih1 =>
      intro x1 x2 x3 H locs ls_ hO1 hp hP hD hS hl
      rw [lp_Y10_canBeDone_33] at hO1
      rw [lq_Y10_canBeDone_33] at hp
      obtain ⟨hp, hq1⟩ := hp
      generalize hE : st_Y10_canBeDone_33 S x0 x1 x2 x3 = Y1 at hO1 hq1
      unfold st_Y10_canBeDone_33 at hE
      unfold ps_Y10_canBeDone_33 at hp
      refine lv_iload_n hx hb dX10_canBeDone_33 rfl (lv_at hl 3 rfl) ?_
      refine lv_iconst (v := 5) hx hb dX10_canBeDone_34 (by decide) ?_
      refine lv_icmp_ge (tgt := 58) hx hb dX10_canBeDone_35 (by decide) (fun c8 => ?_) (fun c8 => ?_)
      · rw [if_pos c8] at hE hp
        subst hE
        have hE := hO1
        dsimp only at hE
        refine lv_iconst (v := 1) hx hb dX10_canBeDone_58 (by decide) ?_
        subst hQ
        exact W.zret (v := (1 : Int32)) (ty := .boolean) hx hb hr rfl (fun t ht hW => ⟨⟨(1 : Int32), S, rfl, (pair_i (hE.trans hX.symm)), by rw [ht]; exact hP, hD⟩, hS.F ht⟩) hS.2.2 dX10_canBeDone_59
      · rw [if_neg c8] at hE hp
        refine lv_aload_n hx hb dX10_canBeDone_38 rfl (lv_at hl 0 rfl) ?_
        refine va_get (D := G) (ci := 7) (v := va_re ad (grC S x0 4)) (C := RX10) (T := TX10) (N := 5) hx hb hts iX10 hown hK hP x0 (at_7 k_x0) rfl 4 (by decide) (hw (.fieldLink RX10 24 "MotionFloor" "row" "LMotionFloor$Ledger;") (List.mem_of_getElem? (i := 0) rfl)) (fun _ h9 => h9) rfl dX10_canBeDone_39 ?_
        refine lv_iload_n hx hb dX10_canBeDone_42 rfl (lv_at hl 1 rfl) ?_
        refine lv_iload_n hx hb dX10_canBeDone_43 rfl (lv_at hl 3 rfl) ?_
        obtain ⟨hy9, hp⟩ := hp
        refine cTop3 (r := (grC S x0 4)) hy9.1 ?_
        obtain ⟨hy10, hp⟩ := hp
        refine cGoi (va_runV (As := [.int x1, .int x3]) (rest := []) ⟨hx, hb, hml, hown, hts⟩ (c_Y3_at l G K ad S ((grC S x0 4).getD 0) x1 x3 _) (cwV 2 hts (wGV t_ (mw (.methodLink RX10 86 yX3_at) (List.mem_of_getElem? (i := 1) rfl)) (mw (.instanceMethod yX3_at) (List.mem_of_getElem? (i := 2) rfl)) (mw (.selects RX3 yX3_at yX3_at) (List.mem_of_getElem? (i := 3) rfl)) (mw (.initialized RX3) (List.mem_of_getElem? (i := 4) rfl)) j_Y3_at) rfl rfl rfl (by decide +kernel) ⟨Nat.le_of_ble_eq_true rfl, Nat.le_of_ble_eq_true rfl⟩) (cPV hK hTE hP hD 2 rfl (at_2 hy9.2) ⟨hy9.2, hy10⟩) rfl rfl hl.1 rfl (lv_room (Nat.le_of_ble_eq_true rfl)) dX10_canBeDone_44 ⟨Nat.le_of_ble_eq_true rfl, Nat.le_of_ble_eq_true rfl⟩) hP hD hS hA (fun r12 u11 H locs hv hP hD hS => ?_)
        have h1 := congrArg Prod.fst hv
        have h2 := (congrArg Prod.snd hv).symm
        dsimp only at h1 h2
        subst h1
        subst h2
        refine lv_if_eq (tgt := 52) hx hb dX10_canBeDone_47 (by decide) (fun c13 => ?_) (fun c13 => ?_)
        · rw [if_pos c13] at hE hp
          refine lv_iinc (i := 3) (v := (x3 + 1)) (lv' := [(3, .int (x3 + 1)), (0, .ref (ad x0)), (1, .int x1), (2, .int x2)]) hx hb dX10_canBeDone_52 hl (k := 3) rfl rfl (by decide) rfl (fun ls_ hl => ?_)
          refine lv_goto (tgt := 33) hx hb dX10_canBeDone_55 (by decide) ?_
          subst hE
          dsimp only at hO1 hq1
          exact ih1 x1 x2 (x3 + 1) _ _ _ hO1 hq1 hP hD hS (lv_sub hl [1, 2, 3, 0] rfl)
        · rw [if_neg c13] at hE hp
          subst hE
          have hE := hO1
          dsimp only at hE
          refine lv_iconst (v := 0) hx hb dX10_canBeDone_50 (by decide) ?_
          subst hQ
          exact W.zret (v := (0 : Int32)) (ty := .boolean) hx hb hr rfl (fun t ht hW => ⟨⟨(0 : Int32), S, rfl, (pair_i (hE.trans hX.symm)), by rw [ht]; exact hP, hD⟩, hS.F ht⟩) hS.2.2 dX10_canBeDone_51
  have B_M : ∀ (x1 : Int32) (H : Heap) (locs : List Loc) (ls_ : Array Slot), f_Y10_canBeDone S x0 x1 = X → p_Y10_canBeDone S x0 x1 → va_P G vwCl (wsC K ad S) H → va_D A (wsC K ad S) → va_S A s.heap H locs → lv_has ls_ 4 [(0, .ref (ad x0)), (1, .int x1)] → W p l e ({ frames := 1, cells := 0, slots := 0, locals := 23 } : Room) s m #[Value.ref (ad x0), Value.int a1] below meth c H locs 0 0 Q (F0 m 0 ls_ []) := by
    intro x1 H locs ls_ hE hp hP hD hS hl
    unfold f_Y10_canBeDone at hE
    unfold p_Y10_canBeDone at hp
    refine lv_aload_n hx hb dX10_canBeDone_0 rfl (lv_at hl 0 rfl) ?_
    refine va_get (D := G) (ci := 7) (v := va_re ad (grC S x0 4)) (C := RX10) (T := TX10) (N := 5) hx hb hts iX10 hown hK hP x0 (at_7 k_x0) rfl 4 (by decide) (hw (.fieldLink RX10 24 "MotionFloor" "row" "LMotionFloor$Ledger;") (List.mem_of_getElem? (i := 0) rfl)) (fun _ h9 => h9) rfl dX10_canBeDone_1 ?_
    refine lv_iload_n hx hb dX10_canBeDone_4 rfl (lv_at hl 1 rfl) ?_
    refine lv_iconst (v := 0) hx hb dX10_canBeDone_5 (by decide) ?_
    obtain ⟨hy1, hp⟩ := hp
    refine cTop3 (r := (grC S x0 4)) hy1.1 ?_
    obtain ⟨hy2, hp⟩ := hp
    refine cGoi (va_runV (As := [.int x1, .int 0]) (rest := []) ⟨hx, hb, hml, hown, hts⟩ (c_Y3_at l G K ad S ((grC S x0 4).getD 0) x1 (0 : Int32) _) (cwV 2 hts (wGV t_ (mw (.methodLink RX10 86 yX3_at) (List.mem_of_getElem? (i := 1) rfl)) (mw (.instanceMethod yX3_at) (List.mem_of_getElem? (i := 2) rfl)) (mw (.selects RX3 yX3_at yX3_at) (List.mem_of_getElem? (i := 3) rfl)) (mw (.initialized RX3) (List.mem_of_getElem? (i := 4) rfl)) j_Y3_at) rfl rfl rfl (by decide +kernel) ⟨Nat.le_of_ble_eq_true rfl, Nat.le_of_ble_eq_true rfl⟩) (cPV hK hTE hP hD 2 rfl (at_2 hy1.2) ⟨hy1.2, hy2⟩) rfl rfl hl.1 rfl (lv_room (Nat.le_of_ble_eq_true rfl)) dX10_canBeDone_6 ⟨Nat.le_of_ble_eq_true rfl, Nat.le_of_ble_eq_true rfl⟩) hP hD hS hA (fun r4 u3 H locs hv hP hD hS => ?_)
    have h1 := congrArg Prod.fst hv
    have h2 := (congrArg Prod.snd hv).symm
    dsimp only at h1 h2
    subst h1
    subst h2
    refine lv_istore_n (i := 2) (lv' := [(2, .int (f_Y3_at S ((grC S x0 4).getD 0) x1 (0 : Int32))), (0, .ref (ad x0)), (1, .int x1)]) hx hb dX10_canBeDone_9 rfl hl (by decide) rfl (fun ls_ hl => ?_)
    refine lv_iload_n hx hb dX10_canBeDone_10 rfl (lv_at hl 0 rfl) ?_
    refine lv_iconst (v := 1) hx hb dX10_canBeDone_11 (by decide) ?_
    refine lv_icmp_lt (tgt := 23) hx hb dX10_canBeDone_12 (by decide) (fun c5 => ?_) (fun c5 => ?_)
    · rw [if_pos c5] at hE hp
      exact B_Y10_canBeDone_23 x1 (f_Y3_at S ((grC S x0 4).getD 0) x1 (0 : Int32)) _ _ _ hE hp hP hD hS (lv_sub hl [1, 2, 0] rfl)
    · rw [if_neg c5] at hE hp
      refine lv_iload_n hx hb dX10_canBeDone_15 rfl (lv_at hl 0 rfl) ?_
      refine va_gets hx hb hN.1 hS hown (hw (.fieldLink RX10 171 "MotionFloor" "NUMBERS_OF_ACT" "[I") (List.mem_of_getElem? (i := 5) rfl)) (fun _ h9 => h9) dX10_canBeDone_16 ?_
      refine va_tlen (v := 23) hx hb hN.2 hS rfl dX10_canBeDone_19 ?_
      refine lv_icmp_lt (tgt := 25) hx hb dX10_canBeDone_20 (by decide) (fun c6 => ?_) (fun c6 => ?_)
      · rw [if_pos c6] at hE hp
        refine va_gets hx hb hN.1 hS hown (hw (.fieldLink RX10 171 "MotionFloor" "NUMBERS_OF_ACT" "[I") (List.mem_of_getElem? (i := 5) rfl)) (fun _ h9 => h9) dX10_canBeDone_25 ?_
        refine lv_iload_n hx hb dX10_canBeDone_28 rfl (lv_at hl 0 rfl) ?_
        obtain ⟨hy7, hp⟩ := hp
        refine va_ti (v := .int (tabN (f_Y3_at S ((grC S x0 4).getD 0) x1 (0 : Int32)).toNatClampNeg)) hx hb hN.2 hS hy7 rfl dX10_canBeDone_29 ?_
        refine lv_iconst (v := 1) hx hb dX10_canBeDone_30 (by decide) ?_
        refine lv_iadd hx hb dX10_canBeDone_31 ?_
        refine lv_istore_n (i := 3) (lv' := [(3, .int ((tabN (f_Y3_at S ((grC S x0 4).getD 0) x1 (0 : Int32)).toNatClampNeg) + 1)), (2, .int (f_Y3_at S ((grC S x0 4).getD 0) x1 (0 : Int32))), (0, .ref (ad x0)), (1, .int x1)]) hx hb dX10_canBeDone_32 rfl hl (by decide) rfl (fun ls_ hl => ?_)
        exact L_33 100000 x1 (f_Y3_at S ((grC S x0 4).getD 0) x1 (0 : Int32)) ((tabN (f_Y3_at S ((grC S x0 4).getD 0) x1 (0 : Int32)).toNatClampNeg) + 1) _ _ _ hE hp hP hD hS (lv_sub hl [2, 3, 1, 0] rfl)
      · rw [if_neg c6] at hE hp
        exact B_Y10_canBeDone_23 x1 (f_Y3_at S ((grC S x0 4).getD 0) x1 (0 : Int32)) _ _ _ hE hp hP hD hS (lv_sub hl [1, 2, 0] rfl)
  exact B_M a1 _ _ _ hX hp hP hD hS hl
theorem gdX10_check_0 : ckS (List.drop 0 cX10_check.data.toList) 0 [(0, .aload_n 0, 1), (1, .getfield 16, 3), (4, .aload_n 0, 1), (5, .getfield 10, 3), (8, .getfield 88, 3), (11, .getfield 92, 3), (14, .invokevirtual 28, 3), (17, .iconst 0, 1), (18, .istore_n 1, 1), (19, .iload_n 1, 1), (20, .aload_n 0, 1), (21, .getfield 24, 3), (24, .getfield 126, 3), (27, .if_icmp .ge 93, 3), (30, .aload_n 0, 1), (31, .getfield 24, 3), (34, .iload_n 1, 1), (35, .iconst 5, 1), (36, .invokevirtual 86, 3), (39, .istore_n 2, 1), (40, .iload_n 2, 1), (41, .ifCond .lt 11, 3), (44, .aload_n 0, 1), (45, .iload_n 1, 1), (46, .invokevirtual 154, 3), (49, .ifCond .ne 5, 3), (52, .iload_n 1, 1), (53, .ireturn, 1), (54, .aload_n 0, 1), (55, .getfield 16, 3), (58, .aload_n 0, 1), (59, .getfield 24, 3), (62, .iload_n 1, 1), (63, .iconst 0, 1), (64, .invokevirtual 86, 3), (67, .aload_n 0, 1), (68, .getfield 24, 3), (71, .iload_n 1, 1), (72, .iconst 1, 1), (73, .invokevirtual 86, 3)] = true := by decide +kernel
theorem dX10_check_0 : decode cX10_check 0 = .ok (.aload_n 0, 1) := ckS_g gdX10_check_0 0 rfl
theorem dX10_check_1 : decode cX10_check 1 = .ok (.getfield 16, 3) := ckS_g gdX10_check_0 1 rfl
theorem dX10_check_4 : decode cX10_check 4 = .ok (.aload_n 0, 1) := ckS_g gdX10_check_0 2 rfl
theorem dX10_check_5 : decode cX10_check 5 = .ok (.getfield 10, 3) := ckS_g gdX10_check_0 3 rfl
theorem dX10_check_8 : decode cX10_check 8 = .ok (.getfield 88, 3) := ckS_g gdX10_check_0 4 rfl
theorem dX10_check_11 : decode cX10_check 11 = .ok (.getfield 92, 3) := ckS_g gdX10_check_0 5 rfl
theorem dX10_check_14 : decode cX10_check 14 = .ok (.invokevirtual 28, 3) := ckS_g gdX10_check_0 6 rfl
theorem dX10_check_17 : decode cX10_check 17 = .ok (.iconst 0, 1) := ckS_g gdX10_check_0 7 rfl
theorem dX10_check_18 : decode cX10_check 18 = .ok (.istore_n 1, 1) := ckS_g gdX10_check_0 8 rfl
theorem dX10_check_19 : decode cX10_check 19 = .ok (.iload_n 1, 1) := ckS_g gdX10_check_0 9 rfl
theorem dX10_check_20 : decode cX10_check 20 = .ok (.aload_n 0, 1) := ckS_g gdX10_check_0 10 rfl
theorem dX10_check_21 : decode cX10_check 21 = .ok (.getfield 24, 3) := ckS_g gdX10_check_0 11 rfl
theorem dX10_check_24 : decode cX10_check 24 = .ok (.getfield 126, 3) := ckS_g gdX10_check_0 12 rfl
theorem dX10_check_27 : decode cX10_check 27 = .ok (.if_icmp .ge 93, 3) := ckS_g gdX10_check_0 13 rfl
theorem dX10_check_30 : decode cX10_check 30 = .ok (.aload_n 0, 1) := ckS_g gdX10_check_0 14 rfl
theorem dX10_check_31 : decode cX10_check 31 = .ok (.getfield 24, 3) := ckS_g gdX10_check_0 15 rfl
theorem dX10_check_34 : decode cX10_check 34 = .ok (.iload_n 1, 1) := ckS_g gdX10_check_0 16 rfl
theorem dX10_check_35 : decode cX10_check 35 = .ok (.iconst 5, 1) := ckS_g gdX10_check_0 17 rfl
theorem dX10_check_36 : decode cX10_check 36 = .ok (.invokevirtual 86, 3) := ckS_g gdX10_check_0 18 rfl
theorem dX10_check_39 : decode cX10_check 39 = .ok (.istore_n 2, 1) := ckS_g gdX10_check_0 19 rfl
theorem dX10_check_40 : decode cX10_check 40 = .ok (.iload_n 2, 1) := ckS_g gdX10_check_0 20 rfl
theorem dX10_check_41 : decode cX10_check 41 = .ok (.ifCond .lt 11, 3) := ckS_g gdX10_check_0 21 rfl
theorem dX10_check_44 : decode cX10_check 44 = .ok (.aload_n 0, 1) := ckS_g gdX10_check_0 22 rfl
theorem dX10_check_45 : decode cX10_check 45 = .ok (.iload_n 1, 1) := ckS_g gdX10_check_0 23 rfl
theorem dX10_check_46 : decode cX10_check 46 = .ok (.invokevirtual 154, 3) := ckS_g gdX10_check_0 24 rfl
theorem dX10_check_49 : decode cX10_check 49 = .ok (.ifCond .ne 5, 3) := ckS_g gdX10_check_0 25 rfl
theorem dX10_check_52 : decode cX10_check 52 = .ok (.iload_n 1, 1) := ckS_g gdX10_check_0 26 rfl
theorem dX10_check_53 : decode cX10_check 53 = .ok (.ireturn, 1) := ckS_g gdX10_check_0 27 rfl
theorem dX10_check_54 : decode cX10_check 54 = .ok (.aload_n 0, 1) := ckS_g gdX10_check_0 28 rfl
theorem dX10_check_55 : decode cX10_check 55 = .ok (.getfield 16, 3) := ckS_g gdX10_check_0 29 rfl
theorem dX10_check_58 : decode cX10_check 58 = .ok (.aload_n 0, 1) := ckS_g gdX10_check_0 30 rfl
theorem dX10_check_59 : decode cX10_check 59 = .ok (.getfield 24, 3) := ckS_g gdX10_check_0 31 rfl
theorem dX10_check_62 : decode cX10_check 62 = .ok (.iload_n 1, 1) := ckS_g gdX10_check_0 32 rfl
theorem dX10_check_63 : decode cX10_check 63 = .ok (.iconst 0, 1) := ckS_g gdX10_check_0 33 rfl
theorem dX10_check_64 : decode cX10_check 64 = .ok (.invokevirtual 86, 3) := ckS_g gdX10_check_0 34 rfl
theorem dX10_check_67 : decode cX10_check 67 = .ok (.aload_n 0, 1) := ckS_g gdX10_check_0 35 rfl
theorem dX10_check_68 : decode cX10_check 68 = .ok (.getfield 24, 3) := ckS_g gdX10_check_0 36 rfl
theorem dX10_check_71 : decode cX10_check 71 = .ok (.iload_n 1, 1) := ckS_g gdX10_check_0 37 rfl
theorem dX10_check_72 : decode cX10_check 72 = .ok (.iconst 1, 1) := ckS_g gdX10_check_0 38 rfl
theorem dX10_check_73 : decode cX10_check 73 = .ok (.invokevirtual 86, 3) := ckS_g gdX10_check_0 39 rfl
theorem gdX10_check_76 : ckS (List.drop 76 cX10_check.data.toList) 76 [(76, .aload_n 0, 1), (77, .getfield 24, 3), (80, .iload_n 1, 1), (81, .iconst 2, 1), (82, .invokevirtual 86, 3), (85, .aload_n 0, 1), (86, .getfield 24, 3), (89, .iload_n 1, 1), (90, .iconst 3, 1), (91, .invokevirtual 86, 3), (94, .aload_n 0, 1), (95, .getfield 24, 3), (98, .iload_n 1, 1), (99, .iconst 4, 1), (100, .invokevirtual 86, 3), (103, .invokevirtual 32, 3), (106, .istore_n 3, 1), (107, .iload_n 3, 1), (108, .iload_n 2, 1), (109, .if_icmp .eq 5, 3), (112, .iload_n 1, 1), (113, .ireturn, 1), (114, .iinc 1 1, 3), (117, .goto (-98), 3), (120, .iconst (-1), 1), (121, .ireturn, 1)] = true := by decide +kernel
theorem dX10_check_76 : decode cX10_check 76 = .ok (.aload_n 0, 1) := ckS_g gdX10_check_76 0 rfl
theorem dX10_check_77 : decode cX10_check 77 = .ok (.getfield 24, 3) := ckS_g gdX10_check_76 1 rfl
theorem dX10_check_80 : decode cX10_check 80 = .ok (.iload_n 1, 1) := ckS_g gdX10_check_76 2 rfl
theorem dX10_check_81 : decode cX10_check 81 = .ok (.iconst 2, 1) := ckS_g gdX10_check_76 3 rfl
theorem dX10_check_82 : decode cX10_check 82 = .ok (.invokevirtual 86, 3) := ckS_g gdX10_check_76 4 rfl
theorem dX10_check_85 : decode cX10_check 85 = .ok (.aload_n 0, 1) := ckS_g gdX10_check_76 5 rfl
theorem dX10_check_86 : decode cX10_check 86 = .ok (.getfield 24, 3) := ckS_g gdX10_check_76 6 rfl
theorem dX10_check_89 : decode cX10_check 89 = .ok (.iload_n 1, 1) := ckS_g gdX10_check_76 7 rfl
theorem dX10_check_90 : decode cX10_check 90 = .ok (.iconst 3, 1) := ckS_g gdX10_check_76 8 rfl
theorem dX10_check_91 : decode cX10_check 91 = .ok (.invokevirtual 86, 3) := ckS_g gdX10_check_76 9 rfl
theorem dX10_check_94 : decode cX10_check 94 = .ok (.aload_n 0, 1) := ckS_g gdX10_check_76 10 rfl
theorem dX10_check_95 : decode cX10_check 95 = .ok (.getfield 24, 3) := ckS_g gdX10_check_76 11 rfl
theorem dX10_check_98 : decode cX10_check 98 = .ok (.iload_n 1, 1) := ckS_g gdX10_check_76 12 rfl
theorem dX10_check_99 : decode cX10_check 99 = .ok (.iconst 4, 1) := ckS_g gdX10_check_76 13 rfl
theorem dX10_check_100 : decode cX10_check 100 = .ok (.invokevirtual 86, 3) := ckS_g gdX10_check_76 14 rfl
theorem dX10_check_103 : decode cX10_check 103 = .ok (.invokevirtual 32, 3) := ckS_g gdX10_check_76 15 rfl
theorem dX10_check_106 : decode cX10_check 106 = .ok (.istore_n 3, 1) := ckS_g gdX10_check_76 16 rfl
theorem dX10_check_107 : decode cX10_check 107 = .ok (.iload_n 3, 1) := ckS_g gdX10_check_76 17 rfl
theorem dX10_check_108 : decode cX10_check 108 = .ok (.iload_n 2, 1) := ckS_g gdX10_check_76 18 rfl
theorem dX10_check_109 : decode cX10_check 109 = .ok (.if_icmp .eq 5, 3) := ckS_g gdX10_check_76 19 rfl
theorem dX10_check_112 : decode cX10_check 112 = .ok (.iload_n 1, 1) := ckS_g gdX10_check_76 20 rfl
theorem dX10_check_113 : decode cX10_check 113 = .ok (.ireturn, 1) := ckS_g gdX10_check_76 21 rfl
theorem dX10_check_114 : decode cX10_check 114 = .ok (.iinc 1 1, 3) := ckS_g gdX10_check_76 22 rfl
theorem dX10_check_117 : decode cX10_check 117 = .ok (.goto (-98), 3) := ckS_g gdX10_check_76 23 rfl
theorem dX10_check_120 : decode cX10_check 120 = .ok (.iconst (-1), 1) := ckS_g gdX10_check_76 24 rfl
theorem dX10_check_121 : decode cX10_check 121 = .ok (.ireturn, 1) := ckS_g gdX10_check_76 25 rfl
set_option maxRecDepth 100000 in
theorem zc768 : wZ (.selects RX10 yX10_canBeDone yX10_canBeDone) := ⟨List.mem_append_left _ (List.mem_of_getElem? (i := 0) (by decide +kernel)), Or.inl rfl⟩
set_option maxRecDepth 100000 in
theorem zc769 : wZ (.instanceMethod yX10_canBeDone) := ⟨wT4 (List.mem_of_getElem? (i := 214) (by decide +kernel)), Or.inl rfl⟩
set_option maxRecDepth 100000 in
theorem zc770 : wZ (.methodLink RX10 154 yX10_canBeDone) := ⟨wT4 (List.mem_of_getElem? (i := 212) (by decide +kernel)), Or.inl rfl⟩
set_option maxRecDepth 100000 in
theorem zc771 : wZ (.code yX10_check cX10_check 4 (some .int)) := ⟨wT4 (List.mem_of_getElem? (i := 211) rfl), Or.inl rfl⟩
def b_Y10_check_52 (S : Cst) (x0 : Nat) (x1 : Int32) (x2 : Int32) : Int32 × Cst := (x1, S)
def q_Y10_check_52 (S : Cst) (x0 : Nat) (lc : Nat) (ls : Nat) (x1 : Int32) (x2 : Int32) : Prop := True
def b_Y10_check_106a (S : Cst) (x0 : Nat) (x1 : Int32) (x2 : Int32) (y0 : Int32) : (Int32 × Cst) ⊕ (Cst × Int32) := if y0 = x2 then Sum.inr (S, (x1 + 1)) else Sum.inl ((x1, S))
def q_Y10_check_106a (S : Cst) (x0 : Nat) (lc : Nat) (ls : Nat) (x1 : Int32) (x2 : Int32) (y0 : Int32) : Prop := (if y0 = x2 then True else True)
def st_Y10_check_19 (S : Cst) (x0 : Nat) (x1 : Int32) : (Int32 × Cst) ⊕ (Cst × Int32) := if (giC S ((grC S x0 4).getD 0) 3) ≤ x1 then Sum.inl ((((-1) : Int32), S)) else if (f_Y3_at S ((grC S x0 4).getD 0) x1 (5 : Int32)) < 0 then Sum.inl ((b_Y10_check_52 S x0 x1 (f_Y3_at S ((grC S x0 4).getD 0) x1 (5 : Int32)))) else if (f_Y10_canBeDone S x0 x1) = 0 then Sum.inl ((b_Y10_check_52 S x0 x1 (f_Y3_at S ((grC S x0 4).getD 0) x1 (5 : Int32)))) else (b_Y10_check_106a ((f_Y0_enact S ((grC S x0 1).getD 0) (f_Y3_at S ((grC S x0 4).getD 0) x1 (0 : Int32)) (f_Y3_at S ((grC S x0 4).getD 0) x1 (1 : Int32)) (f_Y3_at S ((grC S x0 4).getD 0) x1 (2 : Int32)) (f_Y3_at S ((grC S x0 4).getD 0) x1 (3 : Int32)) (f_Y3_at S ((grC S x0 4).getD 0) x1 (4 : Int32))).2) x0 x1 (f_Y3_at S ((grC S x0 4).getD 0) x1 (5 : Int32)) ((f_Y0_enact S ((grC S x0 1).getD 0) (f_Y3_at S ((grC S x0 4).getD 0) x1 (0 : Int32)) (f_Y3_at S ((grC S x0 4).getD 0) x1 (1 : Int32)) (f_Y3_at S ((grC S x0 4).getD 0) x1 (2 : Int32)) (f_Y3_at S ((grC S x0 4).getD 0) x1 (3 : Int32)) (f_Y3_at S ((grC S x0 4).getD 0) x1 (4 : Int32))).1))
def ps_Y10_check_19 (S : Cst) (x0 : Nat) (lc : Nat) (ls : Nat) (x1 : Int32) : Prop := (iR S (grC S x0 4) 2) ∧ (if (giC S ((grC S x0 4).getD 0) 3) ≤ x1 then True else (iR S (grC S x0 4) 2) ∧ (p_Y3_at S ((grC S x0 4).getD 0) x1 (5 : Int32)) ∧ (if (f_Y3_at S ((grC S x0 4).getD 0) x1 (5 : Int32)) < 0 then (q_Y10_check_52 S x0 lc ls x1 (f_Y3_at S ((grC S x0 4).getD 0) x1 (5 : Int32))) else (p_Y10_canBeDone S x0 x1) ∧ (if (f_Y10_canBeDone S x0 x1) = 0 then (q_Y10_check_52 S x0 lc ls x1 (f_Y3_at S ((grC S x0 4).getD 0) x1 (5 : Int32))) else (iR S (grC S x0 4) 2) ∧ (p_Y3_at S ((grC S x0 4).getD 0) x1 (0 : Int32)) ∧ (iR S (grC S x0 4) 2) ∧ (p_Y3_at S ((grC S x0 4).getD 0) x1 (1 : Int32)) ∧ (iR S (grC S x0 4) 2) ∧ (p_Y3_at S ((grC S x0 4).getD 0) x1 (2 : Int32)) ∧ (iR S (grC S x0 4) 2) ∧ (p_Y3_at S ((grC S x0 4).getD 0) x1 (3 : Int32)) ∧ (iR S (grC S x0 4) 2) ∧ (p_Y3_at S ((grC S x0 4).getD 0) x1 (4 : Int32)) ∧ (iR S (grC S x0 1) 0) ∧ ((S.1 ≤ (f_Y0_enact S ((grC S x0 1).getD 0) (f_Y3_at S ((grC S x0 4).getD 0) x1 (0 : Int32)) (f_Y3_at S ((grC S x0 4).getD 0) x1 (1 : Int32)) (f_Y3_at S ((grC S x0 4).getD 0) x1 (2 : Int32)) (f_Y3_at S ((grC S x0 4).getD 0) x1 (3 : Int32)) (f_Y3_at S ((grC S x0 4).getD 0) x1 (4 : Int32))).2.1 ∧ (f_Y0_enact S ((grC S x0 1).getD 0) (f_Y3_at S ((grC S x0 4).getD 0) x1 (0 : Int32)) (f_Y3_at S ((grC S x0 4).getD 0) x1 (1 : Int32)) (f_Y3_at S ((grC S x0 4).getD 0) x1 (2 : Int32)) (f_Y3_at S ((grC S x0 4).getD 0) x1 (3 : Int32)) (f_Y3_at S ((grC S x0 4).getD 0) x1 (4 : Int32))).2.1 ≤ lc) ∧ (S.2.1 ≤ (f_Y0_enact S ((grC S x0 1).getD 0) (f_Y3_at S ((grC S x0 4).getD 0) x1 (0 : Int32)) (f_Y3_at S ((grC S x0 4).getD 0) x1 (1 : Int32)) (f_Y3_at S ((grC S x0 4).getD 0) x1 (2 : Int32)) (f_Y3_at S ((grC S x0 4).getD 0) x1 (3 : Int32)) (f_Y3_at S ((grC S x0 4).getD 0) x1 (4 : Int32))).2.2.1 ∧ (f_Y0_enact S ((grC S x0 1).getD 0) (f_Y3_at S ((grC S x0 4).getD 0) x1 (0 : Int32)) (f_Y3_at S ((grC S x0 4).getD 0) x1 (1 : Int32)) (f_Y3_at S ((grC S x0 4).getD 0) x1 (2 : Int32)) (f_Y3_at S ((grC S x0 4).getD 0) x1 (3 : Int32)) (f_Y3_at S ((grC S x0 4).getD 0) x1 (4 : Int32))).2.2.1 ≤ ls)) ∧ (p_Y0_enact S ((grC S x0 1).getD 0) (f_Y0_enact S ((grC S x0 1).getD 0) (f_Y3_at S ((grC S x0 4).getD 0) x1 (0 : Int32)) (f_Y3_at S ((grC S x0 4).getD 0) x1 (1 : Int32)) (f_Y3_at S ((grC S x0 4).getD 0) x1 (2 : Int32)) (f_Y3_at S ((grC S x0 4).getD 0) x1 (3 : Int32)) (f_Y3_at S ((grC S x0 4).getD 0) x1 (4 : Int32))).2.1 (f_Y0_enact S ((grC S x0 1).getD 0) (f_Y3_at S ((grC S x0 4).getD 0) x1 (0 : Int32)) (f_Y3_at S ((grC S x0 4).getD 0) x1 (1 : Int32)) (f_Y3_at S ((grC S x0 4).getD 0) x1 (2 : Int32)) (f_Y3_at S ((grC S x0 4).getD 0) x1 (3 : Int32)) (f_Y3_at S ((grC S x0 4).getD 0) x1 (4 : Int32))).2.2.1 (f_Y3_at S ((grC S x0 4).getD 0) x1 (0 : Int32)) (f_Y3_at S ((grC S x0 4).getD 0) x1 (1 : Int32)) (f_Y3_at S ((grC S x0 4).getD 0) x1 (2 : Int32)) (f_Y3_at S ((grC S x0 4).getD 0) x1 (3 : Int32)) (f_Y3_at S ((grC S x0 4).getD 0) x1 (4 : Int32))) ∧ (q_Y10_check_106a ((f_Y0_enact S ((grC S x0 1).getD 0) (f_Y3_at S ((grC S x0 4).getD 0) x1 (0 : Int32)) (f_Y3_at S ((grC S x0 4).getD 0) x1 (1 : Int32)) (f_Y3_at S ((grC S x0 4).getD 0) x1 (2 : Int32)) (f_Y3_at S ((grC S x0 4).getD 0) x1 (3 : Int32)) (f_Y3_at S ((grC S x0 4).getD 0) x1 (4 : Int32))).2) x0 lc ls x1 (f_Y3_at S ((grC S x0 4).getD 0) x1 (5 : Int32)) ((f_Y0_enact S ((grC S x0 1).getD 0) (f_Y3_at S ((grC S x0 4).getD 0) x1 (0 : Int32)) (f_Y3_at S ((grC S x0 4).getD 0) x1 (1 : Int32)) (f_Y3_at S ((grC S x0 4).getD 0) x1 (2 : Int32)) (f_Y3_at S ((grC S x0 4).getD 0) x1 (3 : Int32)) (f_Y3_at S ((grC S x0 4).getD 0) x1 (4 : Int32))).1)))))
def lp_Y10_check_19 (x0 : Nat) : Nat → Cst → Int32 → Int32 × Cst
  | 0, S, _ => (0, S)
  | n + 1, S, x1 => match st_Y10_check_19 S x0 x1 with
    | Sum.inl r => r
    | Sum.inr q => lp_Y10_check_19 x0 n q.1 q.2
def lq_Y10_check_19 (x0 : Nat) (lc : Nat) (ls : Nat) : Nat → Cst → Int32 → Prop
  | 0, _, _ => False
  | n + 1, S, x1 => ps_Y10_check_19 S x0 lc ls x1 ∧ (match st_Y10_check_19 S x0 x1 with
    | Sum.inl _ => True
    | Sum.inr q => lq_Y10_check_19 x0 lc ls n q.1 q.2)
def b_Y10_check_17a (S : Cst) (x0 : Nat)  : Int32 × Cst := (lp_Y10_check_19 x0 100000 S 0)
def q_Y10_check_17a (S : Cst) (x0 : Nat) (lc : Nat) (ls : Nat)  : Prop := (lq_Y10_check_19 x0 lc ls 100000 S 0)
def f_Y10_check (S : Cst) (x0 : Nat) : Int32 × Cst := (b_Y10_check_17a ((f_Y0_begin S ((grC S x0 1).getD 0) (giC S ((grC S ((grC S x0 0).getD 0) 0).getD 0) 0)).2) x0)
def p_Y10_check (S : Cst) (x0 : Nat) (lc : Nat) (ls : Nat) : Prop := (iR S (grC S x0 0) 0) ∧ (iR S (grC S ((grC S x0 0).getD 0) 0) 1) ∧ (iR S (grC S x0 1) 0) ∧ (p_Y0_begin S ((grC S x0 1).getD 0) (giC S ((grC S ((grC S x0 0).getD 0) 0).getD 0) 0)) ∧ (q_Y10_check_17a ((f_Y0_begin S ((grC S x0 1).getD 0) (giC S ((grC S ((grC S x0 0).getD 0) 0).getD 0) 0)).2) x0 lc ls)
def e_Y10_check : List Cond := [.fieldLink RX10 16 "MotionFloor" "trial" "LMotionFloor$Assembly;", .fieldLink RX10 10 "MotionFloor" "now" "LMotionFloor$Assembly;", .fieldLink RX10 88 "MotionFloor$Assembly" "house" "LMotionFloor$House;", .fieldLink RX10 92 "MotionFloor$House" "seats" "I", .methodLink RX10 28 yX0_begin, .instanceMethod yX0_begin, .selects RX0 yX0_begin yX0_begin, .initialized RX0, .fieldLink RX10 24 "MotionFloor" "row" "LMotionFloor$Ledger;", .fieldLink RX10 126 "MotionFloor$Ledger" "size" "I", .methodLink RX10 86 yX3_at, .instanceMethod yX3_at, .selects RX3 yX3_at yX3_at, .initialized RX3, .methodLink RX10 154 yX10_canBeDone, .instanceMethod yX10_canBeDone, .selects RX10 yX10_canBeDone yX10_canBeDone, .initialized RX10, .methodLink RX10 32 yX0_enact, .instanceMethod yX0_enact, .selects RX0 yX0_enact yX0_enact]
def v_Y10_check : List Cond := .code yX10_check cX10_check 4 (some .int) :: (e_Y10_check ++ (wsX100 ++ (wsX00 ++ (wsX20 ++ (wsX30 ++ (v_Y0_begin ++ (v_Y3_at ++ (v_Y10_canBeDone ++ (v_Y0_enact ++ [])))))))))
theorem te_Y10_check : GoodIn lw_tbl e_Y10_check := wGc zc716 (wGc zc496 (wGc zc545 (wGc zc544 (wGc zc495 (wGc zc494 (wGc zc493 (wGc zc39 (wGc zc530 (wGc zc534 (wGc zc527 (wGc zc526 (wGc zc525 (wGc zc480 (wGc zc770 (wGc zc769 (wGc zc768 (wGc zc759 (wGc zc693 (wGc zc692 (wGc zc691 (wG0)))))))))))))))))))))
theorem t_Y10_check : GoodIn lw_tbl v_Y10_check := wGc zc771 (wGa te_Y10_check (wGa zcX10 (wGa zcX0 (wGa zcX2 (wGa zcX3 (wGa t_Y0_begin (wGa t_Y3_at (wGa t_Y10_canBeDone (wGa t_Y0_enact (wG0))))))))))
set_option maxHeartbeats 4000000 in
set_option maxRecDepth 100000 in
theorem c_Y10_check (l : Launch) (G : va_G) (K : Nat → ClassId) (ad0 : Nat → Nat) (S0 : Cst) (x0 : Nat) (lc : Nat) (ls : Nat)  (nt : Nat) (sz : Nat) : Met l yX10_check v_Y10_check ({ frames := 8, cells := lc - S0.1, slots := ls - S0.2.1, locals := 226 }) (va_Pc [.ref (ad0 x0)] (zSt nt G K ad0 sz S0 ((S0.1 ≤ lc ∧ S0.2.1 ≤ ls) ∧ iK S0 x0 7 ∧ p_Y10_check S0 x0 lc ls))) (va_Qi (fun (r : Int32) (u : Cst × (Nat → Nat)) => (r, u.1) = f_Y10_check S0 x0 ∧ eN S0 u.1 ∧ (∀ q, q < S0.1 → u.2 q = ad0 q)) (fun u t => cBt G K u.2 (va_A (wsC K ad0 S0) sz) u.1 t) (va_A (wsC K ad0 S0) sz)) (lc - S0.1) (ls - S0.2.1) (va_A (wsC K ad0 S0) sz) := by
  refine Met.ofW (cc := cX10_check) (maxL := 4) (ret := (some .int)) (by decide) rfl ?_
  intro p e s m args below meth c s₁ B hml hv
  obtain ⟨rfl, ⟨⟨hsz, hP, hK, hD0, hTE⟩, hp⟩, hN⟩ := hv
  obtain ⟨k_l, hp⟩ := hp
  obtain ⟨k_x0, hp⟩ := hp
  have hx := B.exec
  have hb := B.bytes
  have hr := B.returns
  have hts := atoms_spec (ws := v_Y10_check) B.pre
  have t_ := t_Y10_check
  have mw : ∀ w ∈ e_Y10_check, w ∈ v_Y10_check := fun w h => List.mem_cons_of_mem _ (List.mem_append_left _ h)
  have hw := fun w (h : w ∈ e_Y10_check) => hts w (mw w h)
  have iX10 : ∀ w ∈ wsX100, w ∈ v_Y10_check := fun w h => List.mem_cons_of_mem _ (List.mem_append_right _ (List.mem_append_left _ h))
  have iX0 : ∀ w ∈ wsX00, w ∈ v_Y10_check := fun w h => List.mem_cons_of_mem _ (List.mem_append_right _ (List.mem_append_right _ (List.mem_append_left _ h)))
  have iX2 : ∀ w ∈ wsX20, w ∈ v_Y10_check := fun w h => List.mem_cons_of_mem _ (List.mem_append_right _ (List.mem_append_right _ (List.mem_append_right _ (List.mem_append_left _ h))))
  have iX3 : ∀ w ∈ wsX30, w ∈ v_Y10_check := fun w h => List.mem_cons_of_mem _ (List.mem_append_right _ (List.mem_append_right _ (List.mem_append_right _ (List.mem_append_right _ (List.mem_append_left _ h)))))
  have j_Y0_begin : ∀ w ∈ v_Y0_begin, w ∈ v_Y10_check := fun w h => List.mem_cons_of_mem _ (List.mem_append_right _ (List.mem_append_right _ (List.mem_append_right _ (List.mem_append_right _ (List.mem_append_right _ (List.mem_append_left _ h))))))
  have j_Y3_at : ∀ w ∈ v_Y3_at, w ∈ v_Y10_check := fun w h => List.mem_cons_of_mem _ (List.mem_append_right _ (List.mem_append_right _ (List.mem_append_right _ (List.mem_append_right _ (List.mem_append_right _ (List.mem_append_right _ (List.mem_append_left _ h)))))))
  have j_Y10_canBeDone : ∀ w ∈ v_Y10_canBeDone, w ∈ v_Y10_check := fun w h => List.mem_cons_of_mem _ (List.mem_append_right _ (List.mem_append_right _ (List.mem_append_right _ (List.mem_append_right _ (List.mem_append_right _ (List.mem_append_right _ (List.mem_append_right _ (List.mem_append_left _ h))))))))
  have j_Y0_enact : ∀ w ∈ v_Y0_enact, w ∈ v_Y10_check := fun w h => List.mem_cons_of_mem _ (List.mem_append_right _ (List.mem_append_right _ (List.mem_append_right _ (List.mem_append_right _ (List.mem_append_right _ (List.mem_append_right _ (List.mem_append_right _ (List.mem_append_right _ (List.mem_append_left _ h)))))))))
  have hown : s.vm.findClass RX10 = some m.cls := findClass_of_methodNamed B.named
  have hlocks := B.notSynchronized
  subst hsz
  have hD := hD0.self (sz := s.heap.size)
  generalize hAe : va_A (wsC K ad0 S0) s.heap.size = A at hD hN ⊢
  have hA : ∀ q : Nat, s.heap.size ≤ q → A q := fun q h => by rw [← hAe]; exact Or.inr h
  have hS : va_S A s.heap s.heap [] := va_S.rf
  have hl : lv_has (lg_sl ([.ref (ad0 x0)]) ++ List.replicate (4 - (lg_sl ([.ref (ad0 x0)])).length) Slot.unset).toArray 4 [(0, .ref (ad0 x0))] := by
    exact lv_entry ([.ref (ad0 x0)]) (n := 4) (Nat.le_of_ble_eq_true rfl)
  rw [lg_entry_eq]
  generalize (lg_sl ([.ref (ad0 x0)]) ++ List.replicate (4 - (lg_sl ([.ref (ad0 x0)])).length) Slot.unset).toArray = ls_ at hl ⊢
  refine wGen (fun Q hQ => ?_)
  obtain ⟨X, hX⟩ : ∃ X, f_Y10_check S0 x0 = X := ⟨_, rfl⟩
  have B_Y10_check_52 : ∀ (S : Cst) (ad : Nat → Nat) (x1 : Int32) (x2 : Int32) (H : Heap) (locs : List Loc) (ls_ : Array Slot), b_Y10_check_52 S x0 x1 x2 = X → q_Y10_check_52 S x0 lc ls x1 x2 → nH S0 ad0 lc ls S ad → va_P G vwCl (wsC K ad S) H → va_D A (wsC K ad S) → va_S A s.heap H locs → lv_has ls_ 4 [(0, .ref (ad x0)), (1, .int x1), (2, .int x2)] → W p l e ({ frames := 8, cells := lc - S0.1, slots := ls - S0.2.1, locals := 226 } : Room) s m #[Value.ref (ad0 x0)] below meth c H locs (S.1 - S0.1) (S.2.1 - S0.2.1) Q (F0 m 52 ls_ []) := by
    intro S ad x1 x2 H locs ls_ hE hp hZ hP hD hS hl
    unfold b_Y10_check_52 at hE
    unfold q_Y10_check_52 at hp
    refine lv_iload_n hx hb dX10_check_52 rfl (lv_at hl 1 rfl) ?_
    refine W.widen (k := lc - S0.1) (n := ls - S0.2.1) (show S.1 - S0.1 ≤ lc - S0.1 from Nat.sub_le_sub_right hZ.2.2.1 _) (show S.2.1 - S0.2.1 ≤ ls - S0.2.1 from Nat.sub_le_sub_right hZ.2.2.2 _) ?_
    subst hQ
    exact W.iret (v := x1) hx hb hr (fun t ht hW => ⟨⟨x1, (S, ad), rfl, ⟨hE.trans hX.symm, hZ.1, hZ.2.1⟩, by rw [ht]; exact hP, hD⟩, hS.F ht⟩) hS.2.2 dX10_check_53
  have L_19 : ∀ (n : Nat) (S : Cst) (ad : Nat → Nat) (x1 : Int32) (H : Heap) (locs : List Loc) (ls_ : Array Slot), lp_Y10_check_19 x0 n S x1 = X → lq_Y10_check_19 x0 lc ls n S x1 → nH S0 ad0 lc ls S ad → va_P G vwCl (wsC K ad S) H → va_D A (wsC K ad S) → va_S A s.heap H locs → lv_has ls_ 4 [(0, .ref (ad x0)), (1, .int x1)] → W p l e ({ frames := 8, cells := lc - S0.1, slots := ls - S0.2.1, locals := 226 } : Room) s m #[Value.ref (ad0 x0)] below meth c H locs (S.1 - S0.1) (S.2.1 - S0.2.1) Q (F0 m 19 ls_ []) := by
    intro n1
    induction n1 with
    | zero => intro S ad x1 H locs ls_ hE hp; exact False.elim hp
    | succ n1 ih1 =>
      intro S ad x1 H locs ls_ hO1 hp hZ hP hD hS hl
      rw [lp_Y10_check_19] at hO1
      rw [lq_Y10_check_19] at hp
      obtain ⟨hp, hq1⟩ := hp
      generalize hE : st_Y10_check_19 S x0 x1 = Y1 at hO1 hq1
      unfold st_Y10_check_19 at hE
      unfold ps_Y10_check_19 at hp
      have B_Y10_check_106a : ∀ (S : Cst) (ad : Nat → Nat) (x1 : Int32) (x2 : Int32) (y0 : Int32) (H : Heap) (locs : List Loc) (ls_ : Array Slot), b_Y10_check_106a S x0 x1 x2 y0 = Y1 → q_Y10_check_106a S x0 lc ls x1 x2 y0 → nH S0 ad0 lc ls S ad → va_P G vwCl (wsC K ad S) H → va_D A (wsC K ad S) → va_S A s.heap H locs → lv_has ls_ 4 [(0, .ref (ad x0)), (1, .int x1), (2, .int x2)] → W p l e ({ frames := 8, cells := lc - S0.1, slots := ls - S0.2.1, locals := 226 } : Room) s m #[Value.ref (ad0 x0)] below meth c H locs (S.1 - S0.1) (S.2.1 - S0.2.1) Q (F0 m 106 ls_ [.int y0]) := by
        intro S ad x1 x2 y0 H locs ls_ hE hp hZ hP hD hS hl
        unfold b_Y10_check_106a at hE
        unfold q_Y10_check_106a at hp
        refine lv_istore_n (i := 3) (lv' := [(3, .int y0), (0, .ref (ad x0)), (1, .int x1), (2, .int x2)]) hx hb dX10_check_106 rfl hl (by decide) rfl (fun ls_ hl => ?_)
        refine lv_iload_n hx hb dX10_check_107 rfl (lv_at hl 0 rfl) ?_
        refine lv_iload_n hx hb dX10_check_108 rfl (lv_at hl 3 rfl) ?_
        refine lv_icmp_eq (tgt := 114) hx hb dX10_check_109 (by decide) (fun c43 => ?_) (fun c43 => ?_)
        · rw [if_pos c43] at hE hp
          refine lv_iinc (i := 1) (v := (x1 + 1)) (lv' := [(1, .int (x1 + 1)), (3, .int y0), (0, .ref (ad x0)), (2, .int x2)]) hx hb dX10_check_114 hl (k := 2) rfl rfl (by decide) rfl (fun ls_ hl => ?_)
          refine lv_goto (tgt := 19) hx hb dX10_check_117 (by decide) ?_
          subst hE
          dsimp only at hO1 hq1
          exact ih1 S ad (x1 + 1) _ _ _ hO1 hq1 hZ hP hD hS (lv_sub hl [2, 0] rfl)
        · rw [if_neg c43] at hE hp
          subst hE
          have hE := hO1
          dsimp only at hE
          refine lv_iload_n hx hb dX10_check_112 rfl (lv_at hl 2 rfl) ?_
          refine W.widen (k := lc - S0.1) (n := ls - S0.2.1) (show S.1 - S0.1 ≤ lc - S0.1 from Nat.sub_le_sub_right hZ.2.2.1 _) (show S.2.1 - S0.2.1 ≤ ls - S0.2.1 from Nat.sub_le_sub_right hZ.2.2.2 _) ?_
          subst hQ
          exact W.iret (v := x1) hx hb hr (fun t ht hW => ⟨⟨x1, (S, ad), rfl, ⟨hE.trans hX.symm, hZ.1, hZ.2.1⟩, by rw [ht]; exact hP, hD⟩, hS.F ht⟩) hS.2.2 dX10_check_113
      refine lv_iload_n hx hb dX10_check_19 rfl (lv_at hl 1 rfl) ?_
      refine lv_aload_n hx hb dX10_check_20 rfl (lv_at hl 0 rfl) ?_
      refine va_get (D := G) (ci := 7) (v := va_re ad (grC S x0 4)) (C := RX10) (T := TX10) (N := 5) hx hb hts iX10 hown hK hP x0 (at_7 (k_x0.n hZ.1)) rfl 4 (by decide) (hw (.fieldLink RX10 24 "MotionFloor" "row" "LMotionFloor$Ledger;") (List.mem_of_getElem? (i := 8) rfl)) (fun _ h9 => h9) rfl dX10_check_21 ?_
      obtain ⟨hy7, hp⟩ := hp
      refine cTop (r := (grC S x0 4)) hy7.1 ?_
      refine va_get (D := G) (ci := 2) (v := .int (giC S ((grC S x0 4).getD 0) 3)) (C := RX3) (T := TX3) (N := 4) hx hb hts iX3 hown hK hP ((grC S x0 4).getD 0) (at_2 hy7.2) rfl 3 (by decide) (hw (.fieldLink RX10 126 "MotionFloor$Ledger" "size" "I") (List.mem_of_getElem? (i := 9) rfl)) (fun _ h9 => h9) rfl dX10_check_24 ?_
      refine lv_icmp_ge (tgt := 120) hx hb dX10_check_27 (by decide) (fun c8 => ?_) (fun c8 => ?_)
      · rw [if_pos c8] at hE hp
        subst hE
        have hE := hO1
        dsimp only at hE
        refine lv_iconst (v := (-1)) hx hb dX10_check_120 (by decide) ?_
        refine W.widen (k := lc - S0.1) (n := ls - S0.2.1) (show S.1 - S0.1 ≤ lc - S0.1 from Nat.sub_le_sub_right hZ.2.2.1 _) (show S.2.1 - S0.2.1 ≤ ls - S0.2.1 from Nat.sub_le_sub_right hZ.2.2.2 _) ?_
        subst hQ
        exact W.iret (v := ((-1) : Int32)) hx hb hr (fun t ht hW => ⟨⟨((-1) : Int32), (S, ad), rfl, ⟨hE.trans hX.symm, hZ.1, hZ.2.1⟩, by rw [ht]; exact hP, hD⟩, hS.F ht⟩) hS.2.2 dX10_check_121
      · rw [if_neg c8] at hE hp
        refine lv_aload_n hx hb dX10_check_30 rfl (lv_at hl 0 rfl) ?_
        refine va_get (D := G) (ci := 7) (v := va_re ad (grC S x0 4)) (C := RX10) (T := TX10) (N := 5) hx hb hts iX10 hown hK hP x0 (at_7 (k_x0.n hZ.1)) rfl 4 (by decide) (hw (.fieldLink RX10 24 "MotionFloor" "row" "LMotionFloor$Ledger;") (List.mem_of_getElem? (i := 8) rfl)) (fun _ h9 => h9) rfl dX10_check_31 ?_
        refine lv_iload_n hx hb dX10_check_34 rfl (lv_at hl 1 rfl) ?_
        refine lv_iconst (v := 5) hx hb dX10_check_35 (by decide) ?_
        obtain ⟨hy9, hp⟩ := hp
        refine cTop3 (r := (grC S x0 4)) hy9.1 ?_
        obtain ⟨hy10, hp⟩ := hp
        refine cGoi (va_runV (As := [.int x1, .int 5]) (rest := []) ⟨hx, hb, hml, hown, hts⟩ (c_Y3_at l G K ad S ((grC S x0 4).getD 0) x1 (5 : Int32) _) (cwV 2 hts (wGV t_ (mw (.methodLink RX10 86 yX3_at) (List.mem_of_getElem? (i := 10) rfl)) (mw (.instanceMethod yX3_at) (List.mem_of_getElem? (i := 11) rfl)) (mw (.selects RX3 yX3_at yX3_at) (List.mem_of_getElem? (i := 12) rfl)) (mw (.initialized RX3) (List.mem_of_getElem? (i := 13) rfl)) j_Y3_at) rfl rfl rfl (by decide +kernel) ⟨Nat.le_of_ble_eq_true rfl, Nat.le_of_ble_eq_true rfl⟩) (cPV hK hTE hP hD 2 rfl (at_2 hy9.2) ⟨hy9.2, hy10⟩) rfl rfl hl.1 rfl (lv_room (Nat.le_of_ble_eq_true rfl)) dX10_check_36 ⟨(show S.1 - S0.1 ≤ lc - S0.1 from Nat.sub_le_sub_right hZ.2.2.1 _), (show S.2.1 - S0.2.1 ≤ ls - S0.2.1 from Nat.sub_le_sub_right hZ.2.2.2 _)⟩) hP hD hS hA (fun r12 u11 H locs hv hP hD hS => ?_)
        have h1 := congrArg Prod.fst hv
        have h2 := (congrArg Prod.snd hv).symm
        dsimp only at h1 h2
        subst h1
        subst h2
        refine lv_istore_n (i := 2) (lv' := [(2, .int (f_Y3_at S ((grC S x0 4).getD 0) x1 (5 : Int32))), (0, .ref (ad x0)), (1, .int x1)]) hx hb dX10_check_39 rfl hl (by decide) rfl (fun ls_ hl => ?_)
        refine lv_iload_n hx hb dX10_check_40 rfl (lv_at hl 0 rfl) ?_
        refine lv_if_lt (tgt := 52) hx hb dX10_check_41 (by decide) (fun c13 => ?_) (fun c13 => ?_)
        · rw [if_pos c13] at hE hp
          subst hE
          have hE := hO1
          dsimp only at hE
          exact B_Y10_check_52 S ad x1 (f_Y3_at S ((grC S x0 4).getD 0) x1 (5 : Int32)) _ _ _ hE hp hZ hP hD hS (lv_sub hl [1, 2, 0] rfl)
        · rw [if_neg c13] at hE hp
          refine lv_aload_n hx hb dX10_check_44 rfl (lv_at hl 1 rfl) ?_
          refine lv_iload_n hx hb dX10_check_45 rfl (lv_at hl 2 rfl) ?_
          obtain ⟨hy14, hp⟩ := hp
          refine cGoi (va_runV (As := [.int x1]) (rest := []) ⟨hx, hb, hml, hown, hts⟩ (c_Y10_canBeDone l G K ad S x0 x1 nt _) (cwV 1 hts (wGV t_ (mw (.methodLink RX10 154 yX10_canBeDone) (List.mem_of_getElem? (i := 14) rfl)) (mw (.instanceMethod yX10_canBeDone) (List.mem_of_getElem? (i := 15) rfl)) (mw (.selects RX10 yX10_canBeDone yX10_canBeDone) (List.mem_of_getElem? (i := 16) rfl)) (mw (.initialized RX10) (List.mem_of_getElem? (i := 17) rfl)) j_Y10_canBeDone) rfl rfl rfl (by decide +kernel) ⟨Nat.le_of_ble_eq_true rfl, Nat.le_of_ble_eq_true rfl⟩) (zPV hK hTE hP hD hN hS hA 7 rfl (at_7 (k_x0.n hZ.1)) ⟨(k_x0.n hZ.1), hy14⟩) rfl rfl hl.1 rfl (lv_room (Nat.le_of_ble_eq_true rfl)) dX10_check_46 ⟨(show S.1 - S0.1 ≤ lc - S0.1 from Nat.sub_le_sub_right hZ.2.2.1 _), (show S.2.1 - S0.2.1 ≤ ls - S0.2.1 from Nat.sub_le_sub_right hZ.2.2.2 _)⟩) hP hD hS hA (fun r16 u15 H locs hv hP hD hS => ?_)
          have h1 := congrArg Prod.fst hv
          have h2 := (congrArg Prod.snd hv).symm
          dsimp only at h1 h2
          subst h1
          subst h2
          refine lv_if_ne (tgt := 54) hx hb dX10_check_49 (by decide) (fun c17 => ?_) (fun c17 => ?_)
          · rw [if_neg c17] at hE hp
            refine lv_aload_n hx hb dX10_check_54 rfl (lv_at hl 1 rfl) ?_
            refine va_get (D := G) (ci := 7) (v := va_re ad (grC S x0 1)) (C := RX10) (T := TX10) (N := 5) hx hb hts iX10 hown hK hP x0 (at_7 (k_x0.n hZ.1)) rfl 1 (by decide) (hw (.fieldLink RX10 16 "MotionFloor" "trial" "LMotionFloor$Assembly;") (List.mem_of_getElem? (i := 0) rfl)) (fun _ h9 => h9) rfl dX10_check_55 ?_
            refine lv_aload_n hx hb dX10_check_58 rfl (lv_at hl 1 rfl) ?_
            refine va_get (D := G) (ci := 7) (v := va_re ad (grC S x0 4)) (C := RX10) (T := TX10) (N := 5) hx hb hts iX10 hown hK hP x0 (at_7 (k_x0.n hZ.1)) rfl 4 (by decide) (hw (.fieldLink RX10 24 "MotionFloor" "row" "LMotionFloor$Ledger;") (List.mem_of_getElem? (i := 8) rfl)) (fun _ h9 => h9) rfl dX10_check_59 ?_
            refine lv_iload_n hx hb dX10_check_62 rfl (lv_at hl 2 rfl) ?_
            refine lv_iconst (v := 0) hx hb dX10_check_63 (by decide) ?_
            obtain ⟨hy18, hp⟩ := hp
            refine cTop3 (r := (grC S x0 4)) hy18.1 ?_
            obtain ⟨hy19, hp⟩ := hp
            refine cGoi (va_runV (As := [.int x1, .int 0]) (rest := [va_re ad (grC S x0 1)]) ⟨hx, hb, hml, hown, hts⟩ (c_Y3_at l G K ad S ((grC S x0 4).getD 0) x1 (0 : Int32) _) (cwV 2 hts (wGV t_ (mw (.methodLink RX10 86 yX3_at) (List.mem_of_getElem? (i := 10) rfl)) (mw (.instanceMethod yX3_at) (List.mem_of_getElem? (i := 11) rfl)) (mw (.selects RX3 yX3_at yX3_at) (List.mem_of_getElem? (i := 12) rfl)) (mw (.initialized RX3) (List.mem_of_getElem? (i := 13) rfl)) j_Y3_at) rfl rfl rfl (by decide +kernel) ⟨Nat.le_of_ble_eq_true rfl, Nat.le_of_ble_eq_true rfl⟩) (cPV hK hTE hP hD 2 rfl (at_2 hy18.2) ⟨hy18.2, hy19⟩) rfl rfl hl.1 rfl (lv_room (by simp only [List.map_cons, List.map_nil, List.sum_cons, List.sum_nil, re_cat]; exact Nat.le_of_ble_eq_true rfl)) dX10_check_64 ⟨(show S.1 - S0.1 ≤ lc - S0.1 from Nat.sub_le_sub_right hZ.2.2.1 _), (show S.2.1 - S0.2.1 ≤ ls - S0.2.1 from Nat.sub_le_sub_right hZ.2.2.2 _)⟩) hP hD hS hA (fun r21 u20 H locs hv hP hD hS => ?_)
            have h1 := congrArg Prod.fst hv
            have h2 := (congrArg Prod.snd hv).symm
            dsimp only at h1 h2
            subst h1
            subst h2
            refine lv_aload_n hx hb dX10_check_67 rfl (lv_at hl 1 rfl) ?_
            refine va_get (D := G) (ci := 7) (v := va_re ad (grC S x0 4)) (C := RX10) (T := TX10) (N := 5) hx hb hts iX10 hown hK hP x0 (at_7 (k_x0.n hZ.1)) rfl 4 (by decide) (hw (.fieldLink RX10 24 "MotionFloor" "row" "LMotionFloor$Ledger;") (List.mem_of_getElem? (i := 8) rfl)) (fun _ h9 => h9) rfl dX10_check_68 ?_
            refine lv_iload_n hx hb dX10_check_71 rfl (lv_at hl 2 rfl) ?_
            refine lv_iconst (v := 1) hx hb dX10_check_72 (by decide) ?_
            obtain ⟨hy22, hp⟩ := hp
            refine cTop3 (r := (grC S x0 4)) hy22.1 ?_
            obtain ⟨hy23, hp⟩ := hp
            refine cGoi (va_runV (As := [.int x1, .int 1]) (rest := [.int (f_Y3_at S ((grC S x0 4).getD 0) x1 (0 : Int32)), va_re ad (grC S x0 1)]) ⟨hx, hb, hml, hown, hts⟩ (c_Y3_at l G K ad S ((grC S x0 4).getD 0) x1 (1 : Int32) _) (cwV 2 hts (wGV t_ (mw (.methodLink RX10 86 yX3_at) (List.mem_of_getElem? (i := 10) rfl)) (mw (.instanceMethod yX3_at) (List.mem_of_getElem? (i := 11) rfl)) (mw (.selects RX3 yX3_at yX3_at) (List.mem_of_getElem? (i := 12) rfl)) (mw (.initialized RX3) (List.mem_of_getElem? (i := 13) rfl)) j_Y3_at) rfl rfl rfl (by decide +kernel) ⟨Nat.le_of_ble_eq_true rfl, Nat.le_of_ble_eq_true rfl⟩) (cPV hK hTE hP hD 2 rfl (at_2 hy22.2) ⟨hy22.2, hy23⟩) rfl rfl hl.1 rfl (lv_room (by simp only [List.map_cons, List.map_nil, List.sum_cons, List.sum_nil, re_cat]; exact Nat.le_of_ble_eq_true rfl)) dX10_check_73 ⟨(show S.1 - S0.1 ≤ lc - S0.1 from Nat.sub_le_sub_right hZ.2.2.1 _), (show S.2.1 - S0.2.1 ≤ ls - S0.2.1 from Nat.sub_le_sub_right hZ.2.2.2 _)⟩) hP hD hS hA (fun r25 u24 H locs hv hP hD hS => ?_)
            have h1 := congrArg Prod.fst hv
            have h2 := (congrArg Prod.snd hv).symm
            dsimp only at h1 h2
            subst h1
            subst h2
            refine lv_aload_n hx hb dX10_check_76 rfl (lv_at hl 1 rfl) ?_
            refine va_get (D := G) (ci := 7) (v := va_re ad (grC S x0 4)) (C := RX10) (T := TX10) (N := 5) hx hb hts iX10 hown hK hP x0 (at_7 (k_x0.n hZ.1)) rfl 4 (by decide) (hw (.fieldLink RX10 24 "MotionFloor" "row" "LMotionFloor$Ledger;") (List.mem_of_getElem? (i := 8) rfl)) (fun _ h9 => h9) rfl dX10_check_77 ?_
            refine lv_iload_n hx hb dX10_check_80 rfl (lv_at hl 2 rfl) ?_
            refine lv_iconst (v := 2) hx hb dX10_check_81 (by decide) ?_
            obtain ⟨hy26, hp⟩ := hp
            refine cTop3 (r := (grC S x0 4)) hy26.1 ?_
            obtain ⟨hy27, hp⟩ := hp
            refine cGoi (va_runV (As := [.int x1, .int 2]) (rest := [.int (f_Y3_at S ((grC S x0 4).getD 0) x1 (1 : Int32)), .int (f_Y3_at S ((grC S x0 4).getD 0) x1 (0 : Int32)), va_re ad (grC S x0 1)]) ⟨hx, hb, hml, hown, hts⟩ (c_Y3_at l G K ad S ((grC S x0 4).getD 0) x1 (2 : Int32) _) (cwV 2 hts (wGV t_ (mw (.methodLink RX10 86 yX3_at) (List.mem_of_getElem? (i := 10) rfl)) (mw (.instanceMethod yX3_at) (List.mem_of_getElem? (i := 11) rfl)) (mw (.selects RX3 yX3_at yX3_at) (List.mem_of_getElem? (i := 12) rfl)) (mw (.initialized RX3) (List.mem_of_getElem? (i := 13) rfl)) j_Y3_at) rfl rfl rfl (by decide +kernel) ⟨Nat.le_of_ble_eq_true rfl, Nat.le_of_ble_eq_true rfl⟩) (cPV hK hTE hP hD 2 rfl (at_2 hy26.2) ⟨hy26.2, hy27⟩) rfl rfl hl.1 rfl (lv_room (by simp only [List.map_cons, List.map_nil, List.sum_cons, List.sum_nil, re_cat]; exact Nat.le_of_ble_eq_true rfl)) dX10_check_82 ⟨(show S.1 - S0.1 ≤ lc - S0.1 from Nat.sub_le_sub_right hZ.2.2.1 _), (show S.2.1 - S0.2.1 ≤ ls - S0.2.1 from Nat.sub_le_sub_right hZ.2.2.2 _)⟩) hP hD hS hA (fun r29 u28 H locs hv hP hD hS => ?_)
            have h1 := congrArg Prod.fst hv
            have h2 := (congrArg Prod.snd hv).symm
            dsimp only at h1 h2
            subst h1
            subst h2
            refine lv_aload_n hx hb dX10_check_85 rfl (lv_at hl 1 rfl) ?_
            refine va_get (D := G) (ci := 7) (v := va_re ad (grC S x0 4)) (C := RX10) (T := TX10) (N := 5) hx hb hts iX10 hown hK hP x0 (at_7 (k_x0.n hZ.1)) rfl 4 (by decide) (hw (.fieldLink RX10 24 "MotionFloor" "row" "LMotionFloor$Ledger;") (List.mem_of_getElem? (i := 8) rfl)) (fun _ h9 => h9) rfl dX10_check_86 ?_
            refine lv_iload_n hx hb dX10_check_89 rfl (lv_at hl 2 rfl) ?_
            refine lv_iconst (v := 3) hx hb dX10_check_90 (by decide) ?_
            obtain ⟨hy30, hp⟩ := hp
            refine cTop3 (r := (grC S x0 4)) hy30.1 ?_
            obtain ⟨hy31, hp⟩ := hp
            refine cGoi (va_runV (As := [.int x1, .int 3]) (rest := [.int (f_Y3_at S ((grC S x0 4).getD 0) x1 (2 : Int32)), .int (f_Y3_at S ((grC S x0 4).getD 0) x1 (1 : Int32)), .int (f_Y3_at S ((grC S x0 4).getD 0) x1 (0 : Int32)), va_re ad (grC S x0 1)]) ⟨hx, hb, hml, hown, hts⟩ (c_Y3_at l G K ad S ((grC S x0 4).getD 0) x1 (3 : Int32) _) (cwV 2 hts (wGV t_ (mw (.methodLink RX10 86 yX3_at) (List.mem_of_getElem? (i := 10) rfl)) (mw (.instanceMethod yX3_at) (List.mem_of_getElem? (i := 11) rfl)) (mw (.selects RX3 yX3_at yX3_at) (List.mem_of_getElem? (i := 12) rfl)) (mw (.initialized RX3) (List.mem_of_getElem? (i := 13) rfl)) j_Y3_at) rfl rfl rfl (by decide +kernel) ⟨Nat.le_of_ble_eq_true rfl, Nat.le_of_ble_eq_true rfl⟩) (cPV hK hTE hP hD 2 rfl (at_2 hy30.2) ⟨hy30.2, hy31⟩) rfl rfl hl.1 rfl (lv_room (by simp only [List.map_cons, List.map_nil, List.sum_cons, List.sum_nil, re_cat]; exact Nat.le_of_ble_eq_true rfl)) dX10_check_91 ⟨(show S.1 - S0.1 ≤ lc - S0.1 from Nat.sub_le_sub_right hZ.2.2.1 _), (show S.2.1 - S0.2.1 ≤ ls - S0.2.1 from Nat.sub_le_sub_right hZ.2.2.2 _)⟩) hP hD hS hA (fun r33 u32 H locs hv hP hD hS => ?_)
            have h1 := congrArg Prod.fst hv
            have h2 := (congrArg Prod.snd hv).symm
            dsimp only at h1 h2
            subst h1
            subst h2
            refine lv_aload_n hx hb dX10_check_94 rfl (lv_at hl 1 rfl) ?_
            refine va_get (D := G) (ci := 7) (v := va_re ad (grC S x0 4)) (C := RX10) (T := TX10) (N := 5) hx hb hts iX10 hown hK hP x0 (at_7 (k_x0.n hZ.1)) rfl 4 (by decide) (hw (.fieldLink RX10 24 "MotionFloor" "row" "LMotionFloor$Ledger;") (List.mem_of_getElem? (i := 8) rfl)) (fun _ h9 => h9) rfl dX10_check_95 ?_
            refine lv_iload_n hx hb dX10_check_98 rfl (lv_at hl 2 rfl) ?_
            refine lv_iconst (v := 4) hx hb dX10_check_99 (by decide) ?_
            obtain ⟨hy34, hp⟩ := hp
            refine cTop3 (r := (grC S x0 4)) hy34.1 ?_
            obtain ⟨hy35, hp⟩ := hp
            refine cGoi (va_runV (As := [.int x1, .int 4]) (rest := [.int (f_Y3_at S ((grC S x0 4).getD 0) x1 (3 : Int32)), .int (f_Y3_at S ((grC S x0 4).getD 0) x1 (2 : Int32)), .int (f_Y3_at S ((grC S x0 4).getD 0) x1 (1 : Int32)), .int (f_Y3_at S ((grC S x0 4).getD 0) x1 (0 : Int32)), va_re ad (grC S x0 1)]) ⟨hx, hb, hml, hown, hts⟩ (c_Y3_at l G K ad S ((grC S x0 4).getD 0) x1 (4 : Int32) _) (cwV 2 hts (wGV t_ (mw (.methodLink RX10 86 yX3_at) (List.mem_of_getElem? (i := 10) rfl)) (mw (.instanceMethod yX3_at) (List.mem_of_getElem? (i := 11) rfl)) (mw (.selects RX3 yX3_at yX3_at) (List.mem_of_getElem? (i := 12) rfl)) (mw (.initialized RX3) (List.mem_of_getElem? (i := 13) rfl)) j_Y3_at) rfl rfl rfl (by decide +kernel) ⟨Nat.le_of_ble_eq_true rfl, Nat.le_of_ble_eq_true rfl⟩) (cPV hK hTE hP hD 2 rfl (at_2 hy34.2) ⟨hy34.2, hy35⟩) rfl rfl hl.1 rfl (lv_room (by simp only [List.map_cons, List.map_nil, List.sum_cons, List.sum_nil, re_cat]; exact Nat.le_of_ble_eq_true rfl)) dX10_check_100 ⟨(show S.1 - S0.1 ≤ lc - S0.1 from Nat.sub_le_sub_right hZ.2.2.1 _), (show S.2.1 - S0.2.1 ≤ ls - S0.2.1 from Nat.sub_le_sub_right hZ.2.2.2 _)⟩) hP hD hS hA (fun r37 u36 H locs hv hP hD hS => ?_)
            have h1 := congrArg Prod.fst hv
            have h2 := (congrArg Prod.snd hv).symm
            dsimp only at h1 h2
            subst h1
            subst h2
            obtain ⟨hy38, hp⟩ := hp
            refine cTop6 (r := (grC S x0 1)) hy38.1 ?_
            obtain ⟨hy39, hp⟩ := hp
            obtain ⟨hy40, hp⟩ := hp
            refine cNoi (va_runV (As := [.int (f_Y3_at S ((grC S x0 4).getD 0) x1 (0 : Int32)), .int (f_Y3_at S ((grC S x0 4).getD 0) x1 (1 : Int32)), .int (f_Y3_at S ((grC S x0 4).getD 0) x1 (2 : Int32)), .int (f_Y3_at S ((grC S x0 4).getD 0) x1 (3 : Int32)), .int (f_Y3_at S ((grC S x0 4).getD 0) x1 (4 : Int32))]) (rest := []) ⟨hx, hb, hml, hown, hts⟩ (c_Y0_enact l G K ad S ((grC S x0 1).getD 0) (f_Y0_enact S ((grC S x0 1).getD 0) (f_Y3_at S ((grC S x0 4).getD 0) x1 (0 : Int32)) (f_Y3_at S ((grC S x0 4).getD 0) x1 (1 : Int32)) (f_Y3_at S ((grC S x0 4).getD 0) x1 (2 : Int32)) (f_Y3_at S ((grC S x0 4).getD 0) x1 (3 : Int32)) (f_Y3_at S ((grC S x0 4).getD 0) x1 (4 : Int32))).2.1 (f_Y0_enact S ((grC S x0 1).getD 0) (f_Y3_at S ((grC S x0 4).getD 0) x1 (0 : Int32)) (f_Y3_at S ((grC S x0 4).getD 0) x1 (1 : Int32)) (f_Y3_at S ((grC S x0 4).getD 0) x1 (2 : Int32)) (f_Y3_at S ((grC S x0 4).getD 0) x1 (3 : Int32)) (f_Y3_at S ((grC S x0 4).getD 0) x1 (4 : Int32))).2.2.1 (f_Y3_at S ((grC S x0 4).getD 0) x1 (0 : Int32)) (f_Y3_at S ((grC S x0 4).getD 0) x1 (1 : Int32)) (f_Y3_at S ((grC S x0 4).getD 0) x1 (2 : Int32)) (f_Y3_at S ((grC S x0 4).getD 0) x1 (3 : Int32)) (f_Y3_at S ((grC S x0 4).getD 0) x1 (4 : Int32)) _) (cwV 5 hts (wGV t_ (mw (.methodLink RX10 32 yX0_enact) (List.mem_of_getElem? (i := 18) rfl)) (mw (.instanceMethod yX0_enact) (List.mem_of_getElem? (i := 19) rfl)) (mw (.selects RX0 yX0_enact yX0_enact) (List.mem_of_getElem? (i := 20) rfl)) (mw (.initialized RX0) (List.mem_of_getElem? (i := 7) rfl)) j_Y0_enact) rfl rfl rfl (by decide +kernel) ⟨Nat.le_of_ble_eq_true rfl, Nat.le_of_ble_eq_true rfl⟩) (cPV hK hTE hP hD 0 rfl (at_0 hy38.2) ⟨⟨hy39.1.1, hy39.2.1⟩, hy38.2, hy40⟩) rfl rfl hl.1 rfl (lv_room (Nat.le_of_ble_eq_true rfl)) dX10_check_103 ⟨by show _ ≤ lc - S0.1; have := hZ.1.1.1; have := hy39.1; omega, by show _ ≤ ls - S0.2.1; have := hZ.1.1.2; have := hy39.2; omega⟩) hP hD hS hA (fun r42 u41 H locs hv hP hD hS => ?_)
            obtain ⟨hv, hz, ha⟩ := hv
            have e1 : (f_Y0_enact S ((grC S x0 1).getD 0) (f_Y3_at S ((grC S x0 4).getD 0) x1 (0 : Int32)) (f_Y3_at S ((grC S x0 4).getD 0) x1 (1 : Int32)) (f_Y3_at S ((grC S x0 4).getD 0) x1 (2 : Int32)) (f_Y3_at S ((grC S x0 4).getD 0) x1 (3 : Int32)) (f_Y3_at S ((grC S x0 4).getD 0) x1 (4 : Int32))).2.1 = u41.1.1 := by rw [← hv]
            have e2 : (f_Y0_enact S ((grC S x0 1).getD 0) (f_Y3_at S ((grC S x0 4).getD 0) x1 (0 : Int32)) (f_Y3_at S ((grC S x0 4).getD 0) x1 (1 : Int32)) (f_Y3_at S ((grC S x0 4).getD 0) x1 (2 : Int32)) (f_Y3_at S ((grC S x0 4).getD 0) x1 (3 : Int32)) (f_Y3_at S ((grC S x0 4).getD 0) x1 (4 : Int32))).2.2.1 = u41.1.2.1 := by rw [← hv]
            refine cCells (cells' := u41.1.1 - S0.1) (slots' := u41.1.2.1 - S0.2.1) (by have := hZ.1.1.1; have := hy39.1; omega) (by have := hZ.1.1.2; have := hy39.2; omega) ?_
            rw [← ha x0 (k_x0.n hZ.1).1] at hl
            have hZ := hZ.n hz ha (by rw [← e1]; exact hy39.1.2) (by rw [← e2]; exact hy39.2.2)
            rw [← hv] at hE hp
            dsimp only at hE hp
            exact B_Y10_check_106a u41.1 u41.2 x1 (f_Y3_at S ((grC S x0 4).getD 0) x1 (5 : Int32)) r42 _ _ _ hE hp hZ hP hD hS (lv_sub hl [1, 2, 0] rfl)
          · rw [if_pos c17] at hE hp
            subst hE
            have hE := hO1
            dsimp only at hE
            exact B_Y10_check_52 S ad x1 (f_Y3_at S ((grC S x0 4).getD 0) x1 (5 : Int32)) _ _ _ hE hp hZ hP hD hS (lv_sub hl [1, 2, 0] rfl)
  have B_Y10_check_17a : ∀ (S : Cst) (ad : Nat → Nat)  (H : Heap) (locs : List Loc) (ls_ : Array Slot), b_Y10_check_17a S x0 = X → q_Y10_check_17a S x0 lc ls → nH S0 ad0 lc ls S ad → va_P G vwCl (wsC K ad S) H → va_D A (wsC K ad S) → va_S A s.heap H locs → lv_has ls_ 4 [(0, .ref (ad x0))] → W p l e ({ frames := 8, cells := lc - S0.1, slots := ls - S0.2.1, locals := 226 } : Room) s m #[Value.ref (ad0 x0)] below meth c H locs (S.1 - S0.1) (S.2.1 - S0.2.1) Q (F0 m 17 ls_ []) := by
    intro S ad H locs ls_ hE hp hZ hP hD hS hl
    unfold b_Y10_check_17a at hE
    unfold q_Y10_check_17a at hp
    refine lv_iconst (v := 0) hx hb dX10_check_17 (by decide) ?_
    refine lv_istore_n (i := 1) (lv' := [(1, .int 0), (0, .ref (ad x0))]) hx hb dX10_check_18 rfl hl (by decide) rfl (fun ls_ hl => ?_)
    exact L_19 100000 S ad 0 _ _ _ hE hp hZ hP hD hS (lv_sub hl [1, 0] rfl)
  have B_M : ∀ (S : Cst) (ad : Nat → Nat) (H : Heap) (locs : List Loc) (ls_ : Array Slot), f_Y10_check S x0 = X → p_Y10_check S x0 lc ls → nH S0 ad0 lc ls S ad → va_P G vwCl (wsC K ad S) H → va_D A (wsC K ad S) → va_S A s.heap H locs → lv_has ls_ 4 [(0, .ref (ad x0))] → W p l e ({ frames := 8, cells := lc - S0.1, slots := ls - S0.2.1, locals := 226 } : Room) s m #[Value.ref (ad0 x0)] below meth c H locs (S.1 - S0.1) (S.2.1 - S0.2.1) Q (F0 m 0 ls_ []) := by
    intro S ad H locs ls_ hE hp hZ hP hD hS hl
    unfold f_Y10_check at hE
    unfold p_Y10_check at hp
    refine lv_aload_n hx hb dX10_check_0 rfl (lv_at hl 0 rfl) ?_
    refine va_get (D := G) (ci := 7) (v := va_re ad (grC S x0 1)) (C := RX10) (T := TX10) (N := 5) hx hb hts iX10 hown hK hP x0 (at_7 (k_x0.n hZ.1)) rfl 1 (by decide) (hw (.fieldLink RX10 16 "MotionFloor" "trial" "LMotionFloor$Assembly;") (List.mem_of_getElem? (i := 0) rfl)) (fun _ h9 => h9) rfl dX10_check_1 ?_
    refine lv_aload_n hx hb dX10_check_4 rfl (lv_at hl 0 rfl) ?_
    refine va_get (D := G) (ci := 7) (v := va_re ad (grC S x0 0)) (C := RX10) (T := TX10) (N := 5) hx hb hts iX10 hown hK hP x0 (at_7 (k_x0.n hZ.1)) rfl 0 (by decide) (hw (.fieldLink RX10 10 "MotionFloor" "now" "LMotionFloor$Assembly;") (List.mem_of_getElem? (i := 1) rfl)) (fun _ h9 => h9) rfl dX10_check_5 ?_
    obtain ⟨hy1, hp⟩ := hp
    refine cTop (r := (grC S x0 0)) hy1.1 ?_
    refine va_get (D := G) (ci := 0) (v := va_re ad (grC S ((grC S x0 0).getD 0) 0)) (C := RX0) (T := TX0) (N := 11) hx hb hts iX0 hown hK hP ((grC S x0 0).getD 0) (at_0 hy1.2) rfl 0 (by decide) (hw (.fieldLink RX10 88 "MotionFloor$Assembly" "house" "LMotionFloor$House;") (List.mem_of_getElem? (i := 2) rfl)) (fun _ h9 => h9) rfl dX10_check_8 ?_
    obtain ⟨hy2, hp⟩ := hp
    refine cTop (r := (grC S ((grC S x0 0).getD 0) 0)) hy2.1 ?_
    refine va_get (D := G) (ci := 1) (v := .int (giC S ((grC S ((grC S x0 0).getD 0) 0).getD 0) 0)) (C := RX2) (T := TX2) (N := 8) hx hb hts iX2 hown hK hP ((grC S ((grC S x0 0).getD 0) 0).getD 0) (at_1 hy2.2) rfl 0 (by decide) (hw (.fieldLink RX10 92 "MotionFloor$House" "seats" "I") (List.mem_of_getElem? (i := 3) rfl)) (fun _ h9 => h9) rfl dX10_check_11 ?_
    obtain ⟨hy3, hp⟩ := hp
    refine cTop2 (r := (grC S x0 1)) hy3.1 ?_
    obtain ⟨hy4, hp⟩ := hp
    refine cGov (va_runV (As := [.int (giC S ((grC S ((grC S x0 0).getD 0) 0).getD 0) 0)]) (rest := []) ⟨hx, hb, hml, hown, hts⟩ (c_Y0_begin l G K ad S ((grC S x0 1).getD 0) (giC S ((grC S ((grC S x0 0).getD 0) 0).getD 0) 0) _) (cwV 1 hts (wGV t_ (mw (.methodLink RX10 28 yX0_begin) (List.mem_of_getElem? (i := 4) rfl)) (mw (.instanceMethod yX0_begin) (List.mem_of_getElem? (i := 5) rfl)) (mw (.selects RX0 yX0_begin yX0_begin) (List.mem_of_getElem? (i := 6) rfl)) (mw (.initialized RX0) (List.mem_of_getElem? (i := 7) rfl)) j_Y0_begin) rfl rfl rfl (by decide +kernel) ⟨Nat.le_of_ble_eq_true rfl, Nat.le_of_ble_eq_true rfl⟩) (cPV hK hTE hP hD 0 rfl (at_0 hy3.2) ⟨hy3.2, hy4⟩) rfl rfl hl.1 rfl (lv_room (Nat.le_of_ble_eq_true rfl)) dX10_check_14 ⟨(show S.1 - S0.1 ≤ lc - S0.1 from Nat.sub_le_sub_right hZ.2.2.1 _), (show S.2.1 - S0.2.1 ≤ ls - S0.2.1 from Nat.sub_le_sub_right hZ.2.2.2 _)⟩) hP hD hS hA (fun u5 H locs hv hP hD hS => ?_)
    obtain ⟨hv, hz⟩ := hv
    have hZ := hZ.k hz
    refine cCells (cells' := u5.1 - S0.1) (slots' := u5.2.1 - S0.2.1) (by have e : S.1 = u5.1 := hz.1.1; show S.1 - S0.1 + 0 = _; omega) (by have e : S.2.1 = u5.2.1 := hz.1.2; show S.2.1 - S0.2.1 + 0 = _; omega) ?_
    rw [← hv] at hE hp
    dsimp only at hE hp
    exact B_Y10_check_17a u5 ad _ _ _ hE hp hZ hP hD hS (lv_sub hl [0] rfl)
  exact cCells (Nat.sub_self _).symm (Nat.sub_self _).symm (B_M S0 ad0 _ _ _ hX hp (nH.rf S0 ad0 k_l) hP hD hS hl)
end
