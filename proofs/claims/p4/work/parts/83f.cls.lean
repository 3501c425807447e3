theorem gdX10_image_4 : ckS (List.drop 4 cX10_image.data.toList) 4 [(4, .aload_n 0, 1), (5, .aload_n 0, 1), (6, .aload_n 0, 1), (7, .getfield 157, 3), (10, .invokevirtual 160, 3), (13, .putfield 157, 3), (16, .goto 26, 3), (33, .putfield 164, 3), (36, .goto 6, 3), (42, .aload_n 0, 1), (43, .getfield 10, 3), (46, .getfield 123, 3), (49, .getfield 126, 3), (52, .ireturn, 1)] = true := by decide +kernel
theorem dX10_image_4 : decode cX10_image 4 = .ok (.aload_n 0, 1) := ckS_g gdX10_image_4 0 rfl
theorem dX10_image_5 : decode cX10_image 5 = .ok (.aload_n 0, 1) := ckS_g gdX10_image_4 1 rfl
theorem dX10_image_6 : decode cX10_image 6 = .ok (.aload_n 0, 1) := ckS_g gdX10_image_4 2 rfl
theorem dX10_image_7 : decode cX10_image 7 = .ok (.getfield 157, 3) := ckS_g gdX10_image_4 3 rfl
theorem dX10_image_10 : decode cX10_image 10 = .ok (.invokevirtual 160, 3) := ckS_g gdX10_image_4 4 rfl
theorem dX10_image_13 : decode cX10_image 13 = .ok (.putfield 157, 3) := ckS_g gdX10_image_4 5 rfl
theorem dX10_image_16 : decode cX10_image 16 = .ok (.goto 26, 3) := ckS_g gdX10_image_4 6 rfl
theorem dX10_image_33 : decode cX10_image 33 = .ok (.putfield 164, 3) := ckS_g gdX10_image_4 7 rfl
theorem dX10_image_36 : decode cX10_image 36 = .ok (.goto 6, 3) := ckS_g gdX10_image_4 8 rfl
theorem dX10_image_42 : decode cX10_image 42 = .ok (.aload_n 0, 1) := ckS_g gdX10_image_4 9 rfl
theorem dX10_image_43 : decode cX10_image 43 = .ok (.getfield 10, 3) := ckS_g gdX10_image_4 10 rfl
theorem dX10_image_46 : decode cX10_image 46 = .ok (.getfield 123, 3) := ckS_g gdX10_image_4 11 rfl
theorem dX10_image_49 : decode cX10_image 49 = .ok (.getfield 126, 3) := ckS_g gdX10_image_4 12 rfl
theorem dX10_image_52 : decode cX10_image 52 = .ok (.ireturn, 1) := ckS_g gdX10_image_4 13 rfl
set_option maxRecDepth 100000 in
theorem zc758 : wZ (.fieldLink RX10 157 "MotionFloor" "firstImage" "LMotionFloor$Assembly;") := ⟨wT1 (List.mem_of_getElem? (i := 239) (by decide +kernel)), Or.inl rfl⟩
set_option maxRecDepth 100000 in
theorem zc759 : wZ (.initialized RX10) := ⟨wT1 (List.mem_of_getElem? (i := 1) (by decide +kernel)), Or.inl rfl⟩
set_option maxRecDepth 100000 in
theorem zc760 : wZ (.selects RX10 yX10_imageOfNow yX10_imageOfNow) := ⟨List.mem_append_left _ (List.mem_of_getElem? (i := 1) (by decide +kernel)), Or.inl rfl⟩
set_option maxRecDepth 100000 in
theorem zc761 : wZ (.instanceMethod yX10_imageOfNow) := ⟨wT4 (List.mem_of_getElem? (i := 228) (by decide +kernel)), Or.inl rfl⟩
set_option maxRecDepth 100000 in
theorem zc762 : wZ (.methodLink RX10 160 yX10_imageOfNow) := ⟨wT4 (List.mem_of_getElem? (i := 226) (by decide +kernel)), Or.inl rfl⟩
set_option maxRecDepth 100000 in
theorem zc763 : wZ (.fieldLink RX10 164 "MotionFloor" "secondImage" "LMotionFloor$Assembly;") := ⟨wT2 (List.mem_of_getElem? (i := 0) (by decide +kernel)), Or.inl rfl⟩
set_option maxRecDepth 100000 in
theorem zc764 : wZ (.code yX10_image cX10_image 2 (some .int)) := ⟨wT4 (List.mem_of_getElem? (i := 225) rfl), Or.inl rfl⟩
def b_Y10_image_42 (S : Cst) (x0 : Nat) (x1 : Int32) : Int32 × Cst := ((giC S ((grC S ((grC S x0 0).getD 0) 4).getD 0) 3), S)
def q_Y10_image_42 (S : Cst) (x0 : Nat) (lc : Nat) (ls : Nat) (x1 : Int32) : Prop := (iR S (grC S x0 0) 0) ∧ (iR S (grC S ((grC S x0 0).getD 0) 4) 2) ∧ True
def b_Y10_image_33a (S : Cst) (x0 : Nat) (x1 : Int32) (o0 : Option Nat) : Int32 × Cst := (b_Y10_image_42 (srC S x0 3 o0) x0 x1)
def q_Y10_image_33a (S : Cst) (x0 : Nat) (lc : Nat) (ls : Nat) (x1 : Int32) (o0 : Option Nat) : Prop := (q_Y10_image_42 (srC S x0 3 o0) x0 lc ls x1)
def b_Y10_image_13a (S : Cst) (x0 : Nat) (x1 : Int32) (o0 : Option Nat) : Int32 × Cst := (b_Y10_image_42 (srC S x0 2 o0) x0 x1)
def q_Y10_image_13a (S : Cst) (x0 : Nat) (lc : Nat) (ls : Nat) (x1 : Int32) (o0 : Option Nat) : Prop := (q_Y10_image_42 (srC S x0 2 o0) x0 lc ls x1)
def f_Y10_image (S : Cst) (x0 : Nat) (x1 : Int32) : Int32 × Cst := if x1 = 0 then (b_Y10_image_13a ((f_Y10_imageOfNow S x0 (grC S x0 2)).2) x0 x1 ((f_Y10_imageOfNow S x0 (grC S x0 2)).1)) else if x1 = 1 then (b_Y10_image_33a ((f_Y10_imageOfNow S x0 (grC S x0 3)).2) x0 x1 ((f_Y10_imageOfNow S x0 (grC S x0 3)).1)) else (((-9) : Int32), S)
def p_Y10_image (S : Cst) (x0 : Nat) (lc : Nat) (ls : Nat) (x1 : Int32) : Prop := (if x1 = 0 then ((S.1 ≤ (f_Y10_imageOfNow S x0 (grC S x0 2)).2.1 ∧ (f_Y10_imageOfNow S x0 (grC S x0 2)).2.1 ≤ lc) ∧ (S.2.1 ≤ (f_Y10_imageOfNow S x0 (grC S x0 2)).2.2.1 ∧ (f_Y10_imageOfNow S x0 (grC S x0 2)).2.2.1 ≤ ls)) ∧ (p_Y10_imageOfNow S x0 (f_Y10_imageOfNow S x0 (grC S x0 2)).2.1 (f_Y10_imageOfNow S x0 (grC S x0 2)).2.2.1 (grC S x0 2)) ∧ (q_Y10_image_13a ((f_Y10_imageOfNow S x0 (grC S x0 2)).2) x0 lc ls x1 ((f_Y10_imageOfNow S x0 (grC S x0 2)).1)) else (if x1 = 1 then ((S.1 ≤ (f_Y10_imageOfNow S x0 (grC S x0 3)).2.1 ∧ (f_Y10_imageOfNow S x0 (grC S x0 3)).2.1 ≤ lc) ∧ (S.2.1 ≤ (f_Y10_imageOfNow S x0 (grC S x0 3)).2.2.1 ∧ (f_Y10_imageOfNow S x0 (grC S x0 3)).2.2.1 ≤ ls)) ∧ (p_Y10_imageOfNow S x0 (f_Y10_imageOfNow S x0 (grC S x0 3)).2.1 (f_Y10_imageOfNow S x0 (grC S x0 3)).2.2.1 (grC S x0 3)) ∧ (q_Y10_image_33a ((f_Y10_imageOfNow S x0 (grC S x0 3)).2) x0 lc ls x1 ((f_Y10_imageOfNow S x0 (grC S x0 3)).1)) else True))
def e_Y10_image : List Cond := [.fieldLink RX10 164 "MotionFloor" "secondImage" "LMotionFloor$Assembly;", .methodLink RX10 160 yX10_imageOfNow, .instanceMethod yX10_imageOfNow, .selects RX10 yX10_imageOfNow yX10_imageOfNow, .initialized RX10, .fieldLink RX10 10 "MotionFloor" "now" "LMotionFloor$Assembly;", .fieldLink RX10 123 "MotionFloor$Assembly" "minutes" "LMotionFloor$Ledger;", .fieldLink RX10 126 "MotionFloor$Ledger" "size" "I", .fieldLink RX10 157 "MotionFloor" "firstImage" "LMotionFloor$Assembly;"]
def v_Y10_image : List Cond := .code yX10_image cX10_image 2 (some .int) :: (e_Y10_image ++ (wsX100 ++ (wsX00 ++ (wsX30 ++ (v_Y10_imageOfNow ++ [])))))
theorem te_Y10_image : GoodIn lw_tbl e_Y10_image := wGc zc763 (wGc zc762 (wGc zc761 (wGc zc760 (wGc zc759 (wGc zc496 (wGc zc535 (wGc zc534 (wGc zc758 (wG0)))))))))
theorem t_Y10_image : GoodIn lw_tbl v_Y10_image := wGc zc764 (wGa te_Y10_image (wGa zcX10 (wGa zcX0 (wGa zcX3 (wGa t_Y10_imageOfNow (wG0))))))
set_option maxHeartbeats 4000000 in
set_option maxRecDepth 100000 in
theorem c_Y10_image (l : Launch) (G : va_G) (K : Nat → ClassId) (ad0 : Nat → Nat) (S0 : Cst) (x0 : Nat) (lc : Nat) (ls : Nat) (a1 : Int32) (sz : Nat) : Met l yX10_image v_Y10_image ({ frames := 7, cells := lc - S0.1, slots := ls - S0.2.1, locals := 171 }) (va_Pc [.ref (ad0 x0), .int a1] (cSt G K ad0 sz S0 ((S0.1 ≤ lc ∧ S0.2.1 ≤ ls) ∧ iK S0 x0 7 ∧ p_Y10_image S0 x0 lc ls a1))) (va_Qi (fun (r : Int32) (u : Cst × (Nat → Nat)) => (r, u.1) = f_Y10_image S0 x0 a1 ∧ eN S0 u.1 ∧ (∀ q, q < S0.1 → u.2 q = ad0 q)) (fun u t => cBt G K u.2 (va_A (wsC K ad0 S0) sz) u.1 t) (va_A (wsC K ad0 S0) sz)) (lc - S0.1) (ls - S0.2.1) (va_A (wsC K ad0 S0) sz) := by
  refine Met.ofW (cc := cX10_image) (maxL := 2) (ret := (some .int)) (by decide) rfl ?_
  intro p e s m args below meth c s₁ B hml hv
  obtain ⟨rfl, ⟨hsz, hP, hK, hD0, hTE⟩, hp⟩ := hv
  obtain ⟨k_l, hp⟩ := hp
  obtain ⟨k_x0, hp⟩ := hp
  have hx := B.exec
  have hb := B.bytes
  have hr := B.returns
  have hts := atoms_spec (ws := v_Y10_image) B.pre
  have t_ := t_Y10_image
  have mw : ∀ w ∈ e_Y10_image, w ∈ v_Y10_image := fun w h => List.mem_cons_of_mem _ (List.mem_append_left _ h)
  have hw := fun w (h : w ∈ e_Y10_image) => hts w (mw w h)
  have iX10 : ∀ w ∈ wsX100, w ∈ v_Y10_image := fun w h => List.mem_cons_of_mem _ (List.mem_append_right _ (List.mem_append_left _ h))
  have iX0 : ∀ w ∈ wsX00, w ∈ v_Y10_image := fun w h => List.mem_cons_of_mem _ (List.mem_append_right _ (List.mem_append_right _ (List.mem_append_left _ h)))
  have iX3 : ∀ w ∈ wsX30, w ∈ v_Y10_image := fun w h => List.mem_cons_of_mem _ (List.mem_append_right _ (List.mem_append_right _ (List.mem_append_right _ (List.mem_append_left _ h))))
  have j_Y10_imageOfNow : ∀ w ∈ v_Y10_imageOfNow, w ∈ v_Y10_image := fun w h => List.mem_cons_of_mem _ (List.mem_append_right _ (List.mem_append_right _ (List.mem_append_right _ (List.mem_append_right _ (List.mem_append_left _ h)))))
  have hown : s.vm.findClass RX10 = some m.cls := findClass_of_methodNamed B.named
  have hlocks := B.notSynchronized
  subst hsz
  have hD := hD0.self (sz := s.heap.size)
  generalize hAe : va_A (wsC K ad0 S0) s.heap.size = A at hD ⊢
  have hA : ∀ q : Nat, s.heap.size ≤ q → A q := fun q h => by rw [← hAe]; exact Or.inr h
  have hS : va_S A s.heap s.heap [] := va_S.rf
  have hl : lv_has (lg_sl ([.ref (ad0 x0), .int a1]) ++ List.replicate (2 - (lg_sl ([.ref (ad0 x0), .int a1])).length) Slot.unset).toArray 2 [(0, .ref (ad0 x0)), (1, .int a1)] := by
    exact lv_entry ([.ref (ad0 x0), .int a1]) (n := 2) (Nat.le_of_ble_eq_true rfl)
  rw [lg_entry_eq]
  generalize (lg_sl ([.ref (ad0 x0), .int a1]) ++ List.replicate (2 - (lg_sl ([.ref (ad0 x0), .int a1])).length) Slot.unset).toArray = ls_ at hl ⊢
  refine wGen (fun Q hQ => ?_)
  obtain ⟨X, hX⟩ : ∃ X, f_Y10_image S0 x0 a1 = X := ⟨_, rfl⟩
  have B_Y10_image_42 : ∀ (S : Cst) (ad : Nat → Nat) (x1 : Int32) (H : Heap) (locs : List Loc) (ls_ : Array Slot), b_Y10_image_42 S x0 x1 = X → q_Y10_image_42 S x0 lc ls x1 → nH S0 ad0 lc ls S ad → va_P G vwCl (wsC K ad S) H → va_D A (wsC K ad S) → va_S A s.heap H locs → lv_has ls_ 2 [(0, .ref (ad x0)), (1, .int x1)] → W p l e ({ frames := 7, cells := lc - S0.1, slots := ls - S0.2.1, locals := 171 } : Room) s m #[Value.ref (ad0 x0), Value.int a1] below meth c H locs (S.1 - S0.1) (S.2.1 - S0.2.1) Q (F0 m 42 ls_ []) := by
    intro S ad x1 H locs ls_ hE hp hZ hP hD hS hl
    unfold b_Y10_image_42 at hE
    unfold q_Y10_image_42 at hp
    refine lv_aload_n hx hb dX10_image_42 rfl (lv_at hl 0 rfl) ?_
    refine va_get (D := G) (ci := 7) (v := va_re ad (grC S x0 0)) (C := RX10) (T := TX10) (N := 5) hx hb hts iX10 hown hK hP x0 (at_7 (k_x0.n hZ.1)) rfl 0 (by decide) (hw (.fieldLink RX10 10 "MotionFloor" "now" "LMotionFloor$Assembly;") (List.mem_of_getElem? (i := 5) rfl)) (fun _ h9 => h9) rfl dX10_image_43 ?_
    obtain ⟨hy7, hp⟩ := hp
    refine cTop (r := (grC S x0 0)) hy7.1 ?_
    refine va_get (D := G) (ci := 0) (v := va_re ad (grC S ((grC S x0 0).getD 0) 4)) (C := RX0) (T := TX0) (N := 11) hx hb hts iX0 hown hK hP ((grC S x0 0).getD 0) (at_0 hy7.2) rfl 4 (by decide) (hw (.fieldLink RX10 123 "MotionFloor$Assembly" "minutes" "LMotionFloor$Ledger;") (List.mem_of_getElem? (i := 6) rfl)) (fun _ h9 => h9) rfl dX10_image_46 ?_
    obtain ⟨hy8, hp⟩ := hp
    refine cTop (r := (grC S ((grC S x0 0).getD 0) 4)) hy8.1 ?_
    refine va_get (D := G) (ci := 2) (v := .int (giC S ((grC S ((grC S x0 0).getD 0) 4).getD 0) 3)) (C := RX3) (T := TX3) (N := 4) hx hb hts iX3 hown hK hP ((grC S ((grC S x0 0).getD 0) 4).getD 0) (at_2 hy8.2) rfl 3 (by decide) (hw (.fieldLink RX10 126 "MotionFloor$Ledger" "size" "I") (List.mem_of_getElem? (i := 7) rfl)) (fun _ h9 => h9) rfl dX10_image_49 ?_
    refine W.widen (k := lc - S0.1) (n := ls - S0.2.1) (show S.1 - S0.1 ≤ lc - S0.1 from Nat.sub_le_sub_right hZ.2.2.1 _) (show S.2.1 - S0.2.1 ≤ ls - S0.2.1 from Nat.sub_le_sub_right hZ.2.2.2 _) ?_
    subst hQ
    exact W.iret (v := (giC S ((grC S ((grC S x0 0).getD 0) 4).getD 0) 3)) hx hb hr (fun t ht hW => ⟨⟨(giC S ((grC S ((grC S x0 0).getD 0) 4).getD 0) 3), (S, ad), rfl, ⟨hE.trans hX.symm, hZ.1, hZ.2.1⟩, by rw [ht]; exact hP, hD⟩, hS.F ht⟩) hS.2.2 dX10_image_52
  have B_Y10_image_33a : ∀ (S : Cst) (ad : Nat → Nat) (x1 : Int32) (o0 : Option Nat) (H : Heap) (locs : List Loc) (ls_ : Array Slot), b_Y10_image_33a S x0 x1 o0 = X → q_Y10_image_33a S x0 lc ls x1 o0 → nH S0 ad0 lc ls S ad → va_P G vwCl (wsC K ad S) H → va_D A (wsC K ad S) → va_S A s.heap H locs → lv_has ls_ 2 [(0, .ref (ad x0)), (1, .int x1)] → W p l e ({ frames := 7, cells := lc - S0.1, slots := ls - S0.2.1, locals := 171 } : Room) s m #[Value.ref (ad0 x0), Value.int a1] below meth c H locs (S.1 - S0.1) (S.2.1 - S0.2.1) Q (F0 m 33 ls_ [va_re ad o0, .ref (ad x0)]) := by
    intro S ad x1 o0 H locs ls_ hE hp hZ hP hD hS hl
    unfold b_Y10_image_33a at hE
    unfold q_Y10_image_33a at hp
    refine va_put (D := G) (ci := 7) (v := va_re ad o0) (ty := .object "MotionFloor$Assembly") (C := RX10) (T := TX10) (N := 5) hx hb hts iX10 tyX10 tyX10_ok nmX10 hown hK hP hD hS x0 (at_7 (k_x0.n hZ.1)) rfl 3 (by decide) (hw (.fieldLink RX10 164 "MotionFloor" "secondImage" "LMotionFloor$Assembly;") (List.mem_of_getElem? (i := 0) rfl)) (fun _ h9 => h9) rfl (by decide +kernel) (re_nar ad _ _) (re_fit ad _ _) (Nat.le_of_ble_eq_true rfl) dX10_image_33 (fun H locs hP hD hS => ?_)
    rw [st_7_3 (k_x0.n hZ.1)] at hP hD
    have hZ := hZ.k (eK.sr S x0 3 o0)
    refine lv_goto (tgt := 42) hx hb dX10_image_36 (by decide) ?_
    exact B_Y10_image_42 (srC S x0 3 o0) ad x1 _ _ _ hE hp hZ hP hD hS (lv_sub hl [0, 1] rfl)
  have B_Y10_image_13a : ∀ (S : Cst) (ad : Nat → Nat) (x1 : Int32) (o0 : Option Nat) (H : Heap) (locs : List Loc) (ls_ : Array Slot), b_Y10_image_13a S x0 x1 o0 = X → q_Y10_image_13a S x0 lc ls x1 o0 → nH S0 ad0 lc ls S ad → va_P G vwCl (wsC K ad S) H → va_D A (wsC K ad S) → va_S A s.heap H locs → lv_has ls_ 2 [(0, .ref (ad x0)), (1, .int x1)] → W p l e ({ frames := 7, cells := lc - S0.1, slots := ls - S0.2.1, locals := 171 } : Room) s m #[Value.ref (ad0 x0), Value.int a1] below meth c H locs (S.1 - S0.1) (S.2.1 - S0.2.1) Q (F0 m 13 ls_ [va_re ad o0, .ref (ad x0)]) := by
    intro S ad x1 o0 H locs ls_ hE hp hZ hP hD hS hl
    unfold b_Y10_image_13a at hE
    unfold q_Y10_image_13a at hp
    refine va_put (D := G) (ci := 7) (v := va_re ad o0) (ty := .object "MotionFloor$Assembly") (C := RX10) (T := TX10) (N := 5) hx hb hts iX10 tyX10 tyX10_ok nmX10 hown hK hP hD hS x0 (at_7 (k_x0.n hZ.1)) rfl 2 (by decide) (hw (.fieldLink RX10 157 "MotionFloor" "firstImage" "LMotionFloor$Assembly;") (List.mem_of_getElem? (i := 8) rfl)) (fun _ h9 => h9) rfl (by decide +kernel) (re_nar ad _ _) (re_fit ad _ _) (Nat.le_of_ble_eq_true rfl) dX10_image_13 (fun H locs hP hD hS => ?_)
    rw [st_7_2 (k_x0.n hZ.1)] at hP hD
    have hZ := hZ.k (eK.sr S x0 2 o0)
    refine lv_goto (tgt := 42) hx hb dX10_image_16 (by decide) ?_
    exact B_Y10_image_42 (srC S x0 2 o0) ad x1 _ _ _ hE hp hZ hP hD hS (lv_sub hl [0, 1] rfl)
  have B_M : ∀ (S : Cst) (ad : Nat → Nat) (x1 : Int32) (H : Heap) (locs : List Loc) (ls_ : Array Slot), f_Y10_image S x0 x1 = X → p_Y10_image S x0 lc ls x1 → nH S0 ad0 lc ls S ad → va_P G vwCl (wsC K ad S) H → va_D A (wsC K ad S) → va_S A s.heap H locs → lv_has ls_ 2 [(0, .ref (ad x0)), (1, .int x1)] → W p l e ({ frames := 7, cells := lc - S0.1, slots := ls - S0.2.1, locals := 171 } : Room) s m #[Value.ref (ad0 x0), Value.int a1] below meth c H locs (S.1 - S0.1) (S.2.1 - S0.2.1) Q (F0 m 0 ls_ []) := by
    intro S ad x1 H locs ls_ hE hp hZ hP hD hS hl
    unfold f_Y10_image at hE
    unfold p_Y10_image at hp
    refine lv_iload_n hx hb dX10_image_0 rfl (lv_at hl 1 rfl) ?_
    refine lv_if_ne (tgt := 19) hx hb dX10_image_1 (by decide) (fun c1 => ?_) (fun c1 => ?_)
    · rw [if_neg c1] at hE hp
      refine lv_iload_n hx hb dX10_image_19 rfl (lv_at hl 1 rfl) ?_
      refine lv_iconst (v := 1) hx hb dX10_image_20 (by decide) ?_
      refine lv_icmp_ne (tgt := 39) hx hb dX10_image_21 (by decide) (fun c2 => ?_) (fun c2 => ?_)
      · rw [if_neg c2] at hE hp
        refine lv_bipush (v := (-9)) hx hb dX10_image_39 (by decide) ?_
        refine W.widen (k := lc - S0.1) (n := ls - S0.2.1) (show S.1 - S0.1 ≤ lc - S0.1 from Nat.sub_le_sub_right hZ.2.2.1 _) (show S.2.1 - S0.2.1 ≤ ls - S0.2.1 from Nat.sub_le_sub_right hZ.2.2.2 _) ?_
        subst hQ
        exact W.iret (v := ((-9) : Int32)) hx hb hr (fun t ht hW => ⟨⟨((-9) : Int32), (S, ad), rfl, ⟨hE.trans hX.symm, hZ.1, hZ.2.1⟩, by rw [ht]; exact hP, hD⟩, hS.F ht⟩) hS.2.2 dX10_image_41
      · rw [if_pos c2] at hE hp
        refine lv_aload_n hx hb dX10_image_24 rfl (lv_at hl 0 rfl) ?_
        refine lv_aload_n hx hb dX10_image_25 rfl (lv_at hl 0 rfl) ?_
        refine lv_aload_n hx hb dX10_image_26 rfl (lv_at hl 0 rfl) ?_
        refine va_get (D := G) (ci := 7) (v := va_re ad (grC S x0 3)) (C := RX10) (T := TX10) (N := 5) hx hb hts iX10 hown hK hP x0 (at_7 (k_x0.n hZ.1)) rfl 3 (by decide) (hw (.fieldLink RX10 164 "MotionFloor" "secondImage" "LMotionFloor$Assembly;") (List.mem_of_getElem? (i := 0) rfl)) (fun _ h9 => h9) rfl dX10_image_27 ?_
        obtain ⟨hy3, hp⟩ := hp
        obtain ⟨hy4, hp⟩ := hp
        refine cNoq (va_runV (As := [va_re ad (grC S x0 3)]) (rest := [.ref (ad x0)]) ⟨hx, hb, hml, hown, hts⟩ (c_Y10_imageOfNow l G K ad S x0 (f_Y10_imageOfNow S x0 (grC S x0 3)).2.1 (f_Y10_imageOfNow S x0 (grC S x0 3)).2.2.1 (grC S x0 3) _) (cwV 1 hts (wGV t_ (mw (.methodLink RX10 160 yX10_imageOfNow) (List.mem_of_getElem? (i := 1) rfl)) (mw (.instanceMethod yX10_imageOfNow) (List.mem_of_getElem? (i := 2) rfl)) (mw (.selects RX10 yX10_imageOfNow yX10_imageOfNow) (List.mem_of_getElem? (i := 3) rfl)) (mw (.initialized RX10) (List.mem_of_getElem? (i := 4) rfl)) j_Y10_imageOfNow) rfl rfl rfl (by decide +kernel) ⟨Nat.le_of_ble_eq_true rfl, Nat.le_of_ble_eq_true rfl⟩) (cPV hK hTE hP hD 7 rfl (at_7 (k_x0.n hZ.1)) ⟨⟨hy3.1.1, hy3.2.1⟩, (k_x0.n hZ.1), hy4⟩) rfl rfl hl.1 rfl (lv_room (Nat.le_of_ble_eq_true rfl)) dX10_image_30 ⟨by show _ ≤ lc - S0.1; have := hZ.1.1.1; have := hy3.1; omega, by show _ ≤ ls - S0.2.1; have := hZ.1.1.2; have := hy3.2; omega⟩) hP hD hS hA (fun r6 u5 H locs hv hP hD hS => ?_)
        obtain ⟨hv, hz, ha⟩ := hv
        have e1 : (f_Y10_imageOfNow S x0 (grC S x0 3)).2.1 = u5.1.1 := by rw [← hv]
        have e2 : (f_Y10_imageOfNow S x0 (grC S x0 3)).2.2.1 = u5.1.2.1 := by rw [← hv]
        refine cCells (cells' := u5.1.1 - S0.1) (slots' := u5.1.2.1 - S0.2.1) (by have := hZ.1.1.1; have := hy3.1; omega) (by have := hZ.1.1.2; have := hy3.2; omega) ?_
        rw [← ha x0 (k_x0.n hZ.1).1] at hl
        rw [← ha x0 (k_x0.n hZ.1).1]
        have hZ := hZ.n hz ha (by rw [← e1]; exact hy3.1.2) (by rw [← e2]; exact hy3.2.2)
        rw [← hv] at hE hp
        dsimp only at hE hp
        exact B_Y10_image_33a u5.1 u5.2 x1 r6 _ _ _ hE hp hZ hP hD hS (lv_sub hl [0, 1] rfl)
    · rw [if_pos c1] at hE hp
      refine lv_aload_n hx hb dX10_image_4 rfl (lv_at hl 0 rfl) ?_
      refine lv_aload_n hx hb dX10_image_5 rfl (lv_at hl 0 rfl) ?_
      refine lv_aload_n hx hb dX10_image_6 rfl (lv_at hl 0 rfl) ?_
      refine va_get (D := G) (ci := 7) (v := va_re ad (grC S x0 2)) (C := RX10) (T := TX10) (N := 5) hx hb hts iX10 hown hK hP x0 (at_7 (k_x0.n hZ.1)) rfl 2 (by decide) (hw (.fieldLink RX10 157 "MotionFloor" "firstImage" "LMotionFloor$Assembly;") (List.mem_of_getElem? (i := 8) rfl)) (fun _ h9 => h9) rfl dX10_image_7 ?_
      obtain ⟨hy9, hp⟩ := hp
      obtain ⟨hy10, hp⟩ := hp
      refine cNoq (va_runV (As := [va_re ad (grC S x0 2)]) (rest := [.ref (ad x0)]) ⟨hx, hb, hml, hown, hts⟩ (c_Y10_imageOfNow l G K ad S x0 (f_Y10_imageOfNow S x0 (grC S x0 2)).2.1 (f_Y10_imageOfNow S x0 (grC S x0 2)).2.2.1 (grC S x0 2) _) (cwV 1 hts (wGV t_ (mw (.methodLink RX10 160 yX10_imageOfNow) (List.mem_of_getElem? (i := 1) rfl)) (mw (.instanceMethod yX10_imageOfNow) (List.mem_of_getElem? (i := 2) rfl)) (mw (.selects RX10 yX10_imageOfNow yX10_imageOfNow) (List.mem_of_getElem? (i := 3) rfl)) (mw (.initialized RX10) (List.mem_of_getElem? (i := 4) rfl)) j_Y10_imageOfNow) rfl rfl rfl (by decide +kernel) ⟨Nat.le_of_ble_eq_true rfl, Nat.le_of_ble_eq_true rfl⟩) (cPV hK hTE hP hD 7 rfl (at_7 (k_x0.n hZ.1)) ⟨⟨hy9.1.1, hy9.2.1⟩, (k_x0.n hZ.1), hy10⟩) rfl rfl hl.1 rfl (lv_room (Nat.le_of_ble_eq_true rfl)) dX10_image_10 ⟨by show _ ≤ lc - S0.1; have := hZ.1.1.1; have := hy9.1; omega, by show _ ≤ ls - S0.2.1; have := hZ.1.1.2; have := hy9.2; omega⟩) hP hD hS hA (fun r12 u11 H locs hv hP hD hS => ?_)
      obtain ⟨hv, hz, ha⟩ := hv
      have e1 : (f_Y10_imageOfNow S x0 (grC S x0 2)).2.1 = u11.1.1 := by rw [← hv]
      have e2 : (f_Y10_imageOfNow S x0 (grC S x0 2)).2.2.1 = u11.1.2.1 := by rw [← hv]
      refine cCells (cells' := u11.1.1 - S0.1) (slots' := u11.1.2.1 - S0.2.1) (by have := hZ.1.1.1; have := hy9.1; omega) (by have := hZ.1.1.2; have := hy9.2; omega) ?_
      rw [← ha x0 (k_x0.n hZ.1).1] at hl
      rw [← ha x0 (k_x0.n hZ.1).1]
      have hZ := hZ.n hz ha (by rw [← e1]; exact hy9.1.2) (by rw [← e2]; exact hy9.2.2)
      rw [← hv] at hE hp
      dsimp only at hE hp
      exact B_Y10_image_13a u11.1 u11.2 x1 r12 _ _ _ hE hp hZ hP hD hS (lv_sub hl [0, 1] rfl)
  exact cCells (Nat.sub_self _).symm (Nat.sub_self _).symm (B_M S0 ad0 a1 _ _ _ hX hp (nH.rf S0 ad0 k_l) hP hD hS hl)
theorem gdX10_back_0 : ckS (List.drop 0 cX10_back.data.toList) 0 [(0, .iload_n 1, 1), (1, .ifCond .lt 8, 3), (4, .iload_n 1, 1), (5, .iconst 1, 1), (6, .if_icmp .le 6, 3), (9, .bipush (-9), 2), (11, .ireturn, 1), (12, .iload_n 1, 1), (13, .ifCond .ne 10, 3), (16, .aload_n 0, 1), (17, .getfield 157, 3), (20, .goto 7, 3), (23, .aload_n 0, 1), (24, .getfield 164, 3), (27, .astore_n 2, 1), (28, .aload_n 2, 1), (29, .ifnonnull 6, 3), (32, .bipush (-11), 2), (34, .ireturn, 1), (35, .aload_n 0, 1), (36, .getfield 10, 3), (39, .aload_n 2, 1), (40, .invokevirtual 167, 3), (43, .aload_n 0, 1), (44, .getfield 10, 3), (47, .getfield 123, 3), (50, .getfield 126, 3), (53, .ireturn, 1)] = true := by decide +kernel
theorem dX10_back_0 : decode cX10_back 0 = .ok (.iload_n 1, 1) := ckS_g gdX10_back_0 0 rfl
theorem dX10_back_1 : decode cX10_back 1 = .ok (.ifCond .lt 8, 3) := ckS_g gdX10_back_0 1 rfl
theorem dX10_back_4 : decode cX10_back 4 = .ok (.iload_n 1, 1) := ckS_g gdX10_back_0 2 rfl
theorem dX10_back_5 : decode cX10_back 5 = .ok (.iconst 1, 1) := ckS_g gdX10_back_0 3 rfl
theorem dX10_back_6 : decode cX10_back 6 = .ok (.if_icmp .le 6, 3) := ckS_g gdX10_back_0 4 rfl
theorem dX10_back_9 : decode cX10_back 9 = .ok (.bipush (-9), 2) := ckS_g gdX10_back_0 5 rfl
theorem dX10_back_11 : decode cX10_back 11 = .ok (.ireturn, 1) := ckS_g gdX10_back_0 6 rfl
theorem dX10_back_12 : decode cX10_back 12 = .ok (.iload_n 1, 1) := ckS_g gdX10_back_0 7 rfl
theorem dX10_back_13 : decode cX10_back 13 = .ok (.ifCond .ne 10, 3) := ckS_g gdX10_back_0 8 rfl
theorem dX10_back_16 : decode cX10_back 16 = .ok (.aload_n 0, 1) := ckS_g gdX10_back_0 9 rfl
theorem dX10_back_17 : decode cX10_back 17 = .ok (.getfield 157, 3) := ckS_g gdX10_back_0 10 rfl
theorem dX10_back_20 : decode cX10_back 20 = .ok (.goto 7, 3) := ckS_g gdX10_back_0 11 rfl
theorem dX10_back_23 : decode cX10_back 23 = .ok (.aload_n 0, 1) := ckS_g gdX10_back_0 12 rfl
theorem dX10_back_24 : decode cX10_back 24 = .ok (.getfield 164, 3) := ckS_g gdX10_back_0 13 rfl
theorem dX10_back_27 : decode cX10_back 27 = .ok (.astore_n 2, 1) := ckS_g gdX10_back_0 14 rfl
theorem dX10_back_28 : decode cX10_back 28 = .ok (.aload_n 2, 1) := ckS_g gdX10_back_0 15 rfl
theorem dX10_back_29 : decode cX10_back 29 = .ok (.ifnonnull 6, 3) := ckS_g gdX10_back_0 16 rfl
theorem dX10_back_32 : decode cX10_back 32 = .ok (.bipush (-11), 2) := ckS_g gdX10_back_0 17 rfl
theorem dX10_back_34 : decode cX10_back 34 = .ok (.ireturn, 1) := ckS_g gdX10_back_0 18 rfl
theorem dX10_back_35 : decode cX10_back 35 = .ok (.aload_n 0, 1) := ckS_g gdX10_back_0 19 rfl
theorem dX10_back_36 : decode cX10_back 36 = .ok (.getfield 10, 3) := ckS_g gdX10_back_0 20 rfl
theorem dX10_back_39 : decode cX10_back 39 = .ok (.aload_n 2, 1) := ckS_g gdX10_back_0 21 rfl
theorem dX10_back_40 : decode cX10_back 40 = .ok (.invokevirtual 167, 3) := ckS_g gdX10_back_0 22 rfl
theorem dX10_back_43 : decode cX10_back 43 = .ok (.aload_n 0, 1) := ckS_g gdX10_back_0 23 rfl
theorem dX10_back_44 : decode cX10_back 44 = .ok (.getfield 10, 3) := ckS_g gdX10_back_0 24 rfl
theorem dX10_back_47 : decode cX10_back 47 = .ok (.getfield 123, 3) := ckS_g gdX10_back_0 25 rfl
theorem dX10_back_50 : decode cX10_back 50 = .ok (.getfield 126, 3) := ckS_g gdX10_back_0 26 rfl
theorem dX10_back_53 : decode cX10_back 53 = .ok (.ireturn, 1) := ckS_g gdX10_back_0 27 rfl
set_option maxRecDepth 100000 in
theorem zc765 : wZ (.code yX10_back cX10_back 3 (some .int)) := ⟨wT5 (List.mem_of_getElem? (i := 20) rfl), Or.inl rfl⟩
def b_Y10_back_9 (S : Cst) (x0 : Nat) (x1 : Int32) : Int32 × Cst := (((-9) : Int32), S)
def q_Y10_back_9 (S : Cst) (x0 : Nat) (lc : Nat) (ls : Nat) (x1 : Int32) : Prop := True
def b_Y10_back_43a (S : Cst) (x0 : Nat) (x1 : Int32) (x2 : Option Nat) : Int32 × Cst := ((giC S ((grC S ((grC S x0 0).getD 0) 4).getD 0) 3), S)
def q_Y10_back_43a (S : Cst) (x0 : Nat) (lc : Nat) (ls : Nat) (x1 : Int32) (x2 : Option Nat) : Prop := (iR S (grC S x0 0) 0) ∧ (iR S (grC S ((grC S x0 0).getD 0) 4) 2) ∧ True
def b_Y10_back_27 (S : Cst) (x0 : Nat) (x1 : Int32) (o0 : Option Nat) : Int32 × Cst := if o0 = none then (((-11) : Int32), S) else (b_Y10_back_43a ((f_Y0_become S ((grC S x0 0).getD 0) (o0.getD 0)).2) x0 x1 o0)
def q_Y10_back_27 (S : Cst) (x0 : Nat) (lc : Nat) (ls : Nat) (x1 : Int32) (o0 : Option Nat) : Prop := (if o0 = none then True else (iR S (grC S x0 0) 0) ∧ (iR S o0 0) ∧ ((S.1 ≤ (f_Y0_become S ((grC S x0 0).getD 0) (o0.getD 0)).2.1 ∧ (f_Y0_become S ((grC S x0 0).getD 0) (o0.getD 0)).2.1 ≤ lc) ∧ (S.2.1 ≤ (f_Y0_become S ((grC S x0 0).getD 0) (o0.getD 0)).2.2.1 ∧ (f_Y0_become S ((grC S x0 0).getD 0) (o0.getD 0)).2.2.1 ≤ ls)) ∧ (p_Y0_become S ((grC S x0 0).getD 0) (o0.getD 0) (f_Y0_become S ((grC S x0 0).getD 0) (o0.getD 0)).2.1 (f_Y0_become S ((grC S x0 0).getD 0) (o0.getD 0)).2.2.1) ∧ (vR S o0) ∧ (q_Y10_back_43a ((f_Y0_become S ((grC S x0 0).getD 0) (o0.getD 0)).2) x0 lc ls x1 o0))
def f_Y10_back (S : Cst) (x0 : Nat) (x1 : Int32) : Int32 × Cst := if x1 < 0 then (b_Y10_back_9 S x0 x1) else if x1 ≤ 1 then if x1 = 0 then (b_Y10_back_27 S x0 x1 (grC S x0 2)) else (b_Y10_back_27 S x0 x1 (grC S x0 3)) else (b_Y10_back_9 S x0 x1)
def p_Y10_back (S : Cst) (x0 : Nat) (lc : Nat) (ls : Nat) (x1 : Int32) : Prop := (if x1 < 0 then (q_Y10_back_9 S x0 lc ls x1) else (if x1 ≤ 1 then (if x1 = 0 then (q_Y10_back_27 S x0 lc ls x1 (grC S x0 2)) else (q_Y10_back_27 S x0 lc ls x1 (grC S x0 3))) else (q_Y10_back_9 S x0 lc ls x1)))
def e_Y10_back : List Cond := [.fieldLink RX10 164 "MotionFloor" "secondImage" "LMotionFloor$Assembly;", .fieldLink RX10 10 "MotionFloor" "now" "LMotionFloor$Assembly;", .methodLink RX10 167 yX0_become, .instanceMethod yX0_become, .selects RX0 yX0_become yX0_become, .initialized RX0, .fieldLink RX10 123 "MotionFloor$Assembly" "minutes" "LMotionFloor$Ledger;", .fieldLink RX10 126 "MotionFloor$Ledger" "size" "I", .fieldLink RX10 157 "MotionFloor" "firstImage" "LMotionFloor$Assembly;"]
def v_Y10_back : List Cond := .code yX10_back cX10_back 3 (some .int) :: (e_Y10_back ++ (wsX100 ++ (wsX00 ++ (wsX30 ++ (v_Y0_become ++ [])))))
theorem te_Y10_back : GoodIn lw_tbl e_Y10_back := wGc zc763 (wGc zc496 (wGc zc752 (wGc zc751 (wGc zc750 (wGc zc39 (wGc zc535 (wGc zc534 (wGc zc758 (wG0)))))))))
theorem t_Y10_back : GoodIn lw_tbl v_Y10_back := wGc zc765 (wGa te_Y10_back (wGa zcX10 (wGa zcX0 (wGa zcX3 (wGa t_Y0_become (wG0))))))
set_option maxHeartbeats 4000000 in
set_option maxRecDepth 100000 in
theorem c_Y10_back (l : Launch) (G : va_G) (K : Nat → ClassId) (ad0 : Nat → Nat) (S0 : Cst) (x0 : Nat) (lc : Nat) (ls : Nat) (a1 : Int32) (sz : Nat) : Met l yX10_back v_Y10_back ({ frames := 6, cells := lc - S0.1, slots := ls - S0.2.1, locals := 149 }) (va_Pc [.ref (ad0 x0), .int a1] (cSt G K ad0 sz S0 ((S0.1 ≤ lc ∧ S0.2.1 ≤ ls) ∧ iK S0 x0 7 ∧ p_Y10_back S0 x0 lc ls a1))) (va_Qi (fun (r : Int32) (u : Cst × (Nat → Nat)) => (r, u.1) = f_Y10_back S0 x0 a1 ∧ eN S0 u.1 ∧ (∀ q, q < S0.1 → u.2 q = ad0 q)) (fun u t => cBt G K u.2 (va_A (wsC K ad0 S0) sz) u.1 t) (va_A (wsC K ad0 S0) sz)) (lc - S0.1) (ls - S0.2.1) (va_A (wsC K ad0 S0) sz) := by
  refine Met.ofW (cc := cX10_back) (maxL := 3) (ret := (some .int)) (by decide) rfl ?_
  intro p e s m args below meth c s₁ B hml hv
  obtain ⟨rfl, ⟨hsz, hP, hK, hD0, hTE⟩, hp⟩ := hv
  obtain ⟨k_l, hp⟩ := hp
  obtain ⟨k_x0, hp⟩ := hp
  have hx := B.exec
  have hb := B.bytes
  have hr := B.returns
  have hts := atoms_spec (ws := v_Y10_back) B.pre
  have t_ := t_Y10_back
  have mw : ∀ w ∈ e_Y10_back, w ∈ v_Y10_back := fun w h => List.mem_cons_of_mem _ (List.mem_append_left _ h)
  have hw := fun w (h : w ∈ e_Y10_back) => hts w (mw w h)
  have iX10 : ∀ w ∈ wsX100, w ∈ v_Y10_back := fun w h => List.mem_cons_of_mem _ (List.mem_append_right _ (List.mem_append_left _ h))
  have iX0 : ∀ w ∈ wsX00, w ∈ v_Y10_back := fun w h => List.mem_cons_of_mem _ (List.mem_append_right _ (List.mem_append_right _ (List.mem_append_left _ h)))
  have iX3 : ∀ w ∈ wsX30, w ∈ v_Y10_back := fun w h => List.mem_cons_of_mem _ (List.mem_append_right _ (List.mem_append_right _ (List.mem_append_right _ (List.mem_append_left _ h))))
  have j_Y0_become : ∀ w ∈ v_Y0_become, w ∈ v_Y10_back := fun w h => List.mem_cons_of_mem _ (List.mem_append_right _ (List.mem_append_right _ (List.mem_append_right _ (List.mem_append_right _ (List.mem_append_left _ h)))))
  have hown : s.vm.findClass RX10 = some m.cls := findClass_of_methodNamed B.named
  have hlocks := B.notSynchronized
  subst hsz
  have hD := hD0.self (sz := s.heap.size)
  generalize hAe : va_A (wsC K ad0 S0) s.heap.size = A at hD ⊢
  have hA : ∀ q : Nat, s.heap.size ≤ q → A q := fun q h => by rw [← hAe]; exact Or.inr h
  have hS : va_S A s.heap s.heap [] := va_S.rf
  have hl : lv_has (lg_sl ([.ref (ad0 x0), .int a1]) ++ List.replicate (3 - (lg_sl ([.ref (ad0 x0), .int a1])).length) Slot.unset).toArray 3 [(0, .ref (ad0 x0)), (1, .int a1)] := by
    exact lv_entry ([.ref (ad0 x0), .int a1]) (n := 3) (Nat.le_of_ble_eq_true rfl)
  rw [lg_entry_eq]
  generalize (lg_sl ([.ref (ad0 x0), .int a1]) ++ List.replicate (3 - (lg_sl ([.ref (ad0 x0), .int a1])).length) Slot.unset).toArray = ls_ at hl ⊢
  refine wGen (fun Q hQ => ?_)
  obtain ⟨X, hX⟩ : ∃ X, f_Y10_back S0 x0 a1 = X := ⟨_, rfl⟩
  have B_Y10_back_9 : ∀ (S : Cst) (ad : Nat → Nat) (x1 : Int32) (H : Heap) (locs : List Loc) (ls_ : Array Slot), b_Y10_back_9 S x0 x1 = X → q_Y10_back_9 S x0 lc ls x1 → nH S0 ad0 lc ls S ad → va_P G vwCl (wsC K ad S) H → va_D A (wsC K ad S) → va_S A s.heap H locs → lv_has ls_ 3 [(0, .ref (ad x0)), (1, .int x1)] → W p l e ({ frames := 6, cells := lc - S0.1, slots := ls - S0.2.1, locals := 149 } : Room) s m #[Value.ref (ad0 x0), Value.int a1] below meth c H locs (S.1 - S0.1) (S.2.1 - S0.2.1) Q (F0 m 9 ls_ []) := by
    intro S ad x1 H locs ls_ hE hp hZ hP hD hS hl
    unfold b_Y10_back_9 at hE
    unfold q_Y10_back_9 at hp
    refine lv_bipush (v := (-9)) hx hb dX10_back_9 (by decide) ?_
    refine W.widen (k := lc - S0.1) (n := ls - S0.2.1) (show S.1 - S0.1 ≤ lc - S0.1 from Nat.sub_le_sub_right hZ.2.2.1 _) (show S.2.1 - S0.2.1 ≤ ls - S0.2.1 from Nat.sub_le_sub_right hZ.2.2.2 _) ?_
    subst hQ
    exact W.iret (v := ((-9) : Int32)) hx hb hr (fun t ht hW => ⟨⟨((-9) : Int32), (S, ad), rfl, ⟨hE.trans hX.symm, hZ.1, hZ.2.1⟩, by rw [ht]; exact hP, hD⟩, hS.F ht⟩) hS.2.2 dX10_back_11
  have B_Y10_back_43a : ∀ (S : Cst) (ad : Nat → Nat) (x1 : Int32) (x2 : Option Nat) (H : Heap) (locs : List Loc) (ls_ : Array Slot), b_Y10_back_43a S x0 x1 x2 = X → q_Y10_back_43a S x0 lc ls x1 x2 → nH S0 ad0 lc ls S ad → va_P G vwCl (wsC K ad S) H → va_D A (wsC K ad S) → va_S A s.heap H locs → lv_has ls_ 3 [(0, .ref (ad x0)), (1, .int x1), (2, va_re ad x2)] → W p l e ({ frames := 6, cells := lc - S0.1, slots := ls - S0.2.1, locals := 149 } : Room) s m #[Value.ref (ad0 x0), Value.int a1] below meth c H locs (S.1 - S0.1) (S.2.1 - S0.2.1) Q (F0 m 43 ls_ []) := by
    intro S ad x1 x2 H locs ls_ hE hp hZ hP hD hS hl
    unfold b_Y10_back_43a at hE
    unfold q_Y10_back_43a at hp
    refine lv_aload_n hx hb dX10_back_43 rfl (lv_at hl 0 rfl) ?_
    refine va_get (D := G) (ci := 7) (v := va_re ad (grC S x0 0)) (C := RX10) (T := TX10) (N := 5) hx hb hts iX10 hown hK hP x0 (at_7 (k_x0.n hZ.1)) rfl 0 (by decide) (hw (.fieldLink RX10 10 "MotionFloor" "now" "LMotionFloor$Assembly;") (List.mem_of_getElem? (i := 1) rfl)) (fun _ h9 => h9) rfl dX10_back_44 ?_
    obtain ⟨hy12, hp⟩ := hp
    refine cTop (r := (grC S x0 0)) hy12.1 ?_
    refine va_get (D := G) (ci := 0) (v := va_re ad (grC S ((grC S x0 0).getD 0) 4)) (C := RX0) (T := TX0) (N := 11) hx hb hts iX0 hown hK hP ((grC S x0 0).getD 0) (at_0 hy12.2) rfl 4 (by decide) (hw (.fieldLink RX10 123 "MotionFloor$Assembly" "minutes" "LMotionFloor$Ledger;") (List.mem_of_getElem? (i := 6) rfl)) (fun _ h9 => h9) rfl dX10_back_47 ?_
    obtain ⟨hy13, hp⟩ := hp
    refine cTop (r := (grC S ((grC S x0 0).getD 0) 4)) hy13.1 ?_
    refine va_get (D := G) (ci := 2) (v := .int (giC S ((grC S ((grC S x0 0).getD 0) 4).getD 0) 3)) (C := RX3) (T := TX3) (N := 4) hx hb hts iX3 hown hK hP ((grC S ((grC S x0 0).getD 0) 4).getD 0) (at_2 hy13.2) rfl 3 (by decide) (hw (.fieldLink RX10 126 "MotionFloor$Ledger" "size" "I") (List.mem_of_getElem? (i := 7) rfl)) (fun _ h9 => h9) rfl dX10_back_50 ?_
    refine W.widen (k := lc - S0.1) (n := ls - S0.2.1) (show S.1 - S0.1 ≤ lc - S0.1 from Nat.sub_le_sub_right hZ.2.2.1 _) (show S.2.1 - S0.2.1 ≤ ls - S0.2.1 from Nat.sub_le_sub_right hZ.2.2.2 _) ?_
    subst hQ
    exact W.iret (v := (giC S ((grC S ((grC S x0 0).getD 0) 4).getD 0) 3)) hx hb hr (fun t ht hW => ⟨⟨(giC S ((grC S ((grC S x0 0).getD 0) 4).getD 0) 3), (S, ad), rfl, ⟨hE.trans hX.symm, hZ.1, hZ.2.1⟩, by rw [ht]; exact hP, hD⟩, hS.F ht⟩) hS.2.2 dX10_back_53
  have B_Y10_back_27 : ∀ (S : Cst) (ad : Nat → Nat) (x1 : Int32) (o0 : Option Nat) (H : Heap) (locs : List Loc) (ls_ : Array Slot), b_Y10_back_27 S x0 x1 o0 = X → q_Y10_back_27 S x0 lc ls x1 o0 → nH S0 ad0 lc ls S ad → va_P G vwCl (wsC K ad S) H → va_D A (wsC K ad S) → va_S A s.heap H locs → lv_has ls_ 3 [(0, .ref (ad x0)), (1, .int x1)] → W p l e ({ frames := 6, cells := lc - S0.1, slots := ls - S0.2.1, locals := 149 } : Room) s m #[Value.ref (ad0 x0), Value.int a1] below meth c H locs (S.1 - S0.1) (S.2.1 - S0.2.1) Q (F0 m 27 ls_ [va_re ad o0]) := by
    intro S ad x1 o0 H locs ls_ hE hp hZ hP hD hS hl
    unfold b_Y10_back_27 at hE
    unfold q_Y10_back_27 at hp
    refine cAstore_n (ad := ad) (r := o0) (i := 2) (lv' := [(2, va_re ad o0), (0, .ref (ad x0)), (1, .int x1)]) hx hb dX10_back_27 rfl hl (by decide) rfl (fun ls_ hl => ?_)
    refine cAload_n (ad := ad) (r := o0) hx hb dX10_back_28 rfl (lv_at hl 0 rfl) ?_
    refine cIfnonnull (ad := ad) (r := o0) (tgt := 35) hx hb dX10_back_29 (by decide) (fun c4 => ?_) (fun c4 => ?_)
    · rw [if_pos c4] at hE hp
      refine lv_bipush (v := (-11)) hx hb dX10_back_32 (by decide) ?_
      refine W.widen (k := lc - S0.1) (n := ls - S0.2.1) (show S.1 - S0.1 ≤ lc - S0.1 from Nat.sub_le_sub_right hZ.2.2.1 _) (show S.2.1 - S0.2.1 ≤ ls - S0.2.1 from Nat.sub_le_sub_right hZ.2.2.2 _) ?_
      subst hQ
      exact W.iret (v := ((-11) : Int32)) hx hb hr (fun t ht hW => ⟨⟨((-11) : Int32), (S, ad), rfl, ⟨hE.trans hX.symm, hZ.1, hZ.2.1⟩, by rw [ht]; exact hP, hD⟩, hS.F ht⟩) hS.2.2 dX10_back_34
    · rw [if_neg c4] at hE hp
      refine lv_aload_n hx hb dX10_back_35 rfl (lv_at hl 1 rfl) ?_
      refine va_get (D := G) (ci := 7) (v := va_re ad (grC S x0 0)) (C := RX10) (T := TX10) (N := 5) hx hb hts iX10 hown hK hP x0 (at_7 (k_x0.n hZ.1)) rfl 0 (by decide) (hw (.fieldLink RX10 10 "MotionFloor" "now" "LMotionFloor$Assembly;") (List.mem_of_getElem? (i := 1) rfl)) (fun _ h9 => h9) rfl dX10_back_36 ?_
      refine cAload_n (ad := ad) (r := o0) hx hb dX10_back_39 rfl (lv_at hl 0 rfl) ?_
      obtain ⟨hy5, hp⟩ := hp
      refine cTop2 (r := (grC S x0 0)) hy5.1 ?_
      obtain ⟨hy6, hp⟩ := hp
      refine cTop (r := o0) hy6.1 ?_
      obtain ⟨hy7, hp⟩ := hp
      obtain ⟨hy8, hp⟩ := hp
      refine cNov (va_runV (As := [.ref (ad (o0.getD 0))]) (rest := []) ⟨hx, hb, hml, hown, hts⟩ (c_Y0_become l G K ad S ((grC S x0 0).getD 0) (o0.getD 0) (f_Y0_become S ((grC S x0 0).getD 0) (o0.getD 0)).2.1 (f_Y0_become S ((grC S x0 0).getD 0) (o0.getD 0)).2.2.1 _) (cwV 1 hts (wGV t_ (mw (.methodLink RX10 167 yX0_become) (List.mem_of_getElem? (i := 2) rfl)) (mw (.instanceMethod yX0_become) (List.mem_of_getElem? (i := 3) rfl)) (mw (.selects RX0 yX0_become yX0_become) (List.mem_of_getElem? (i := 4) rfl)) (mw (.initialized RX0) (List.mem_of_getElem? (i := 5) rfl)) j_Y0_become) rfl rfl rfl (by decide +kernel) ⟨Nat.le_of_ble_eq_true rfl, Nat.le_of_ble_eq_true rfl⟩) (cPV hK hTE hP hD 0 rfl (at_0 hy5.2) ⟨⟨hy7.1.1, hy7.2.1⟩, hy5.2, hy6.2, hy8⟩) rfl rfl hl.1 rfl (lv_room (Nat.le_of_ble_eq_true rfl)) dX10_back_40 ⟨by show _ ≤ lc - S0.1; have := hZ.1.1.1; have := hy7.1; omega, by show _ ≤ ls - S0.2.1; have := hZ.1.1.2; have := hy7.2; omega⟩) hP hD hS hA (fun u9 H locs hv hP hD hS => ?_)
      obtain ⟨hv, hz, ha⟩ := hv
      obtain ⟨hy11, hp⟩ := hp
      have e1 : (f_Y0_become S ((grC S x0 0).getD 0) (o0.getD 0)).2.1 = u9.1.1 := by rw [← hv]
      have e2 : (f_Y0_become S ((grC S x0 0).getD 0) (o0.getD 0)).2.2.1 = u9.1.2.1 := by rw [← hv]
      refine cCells (cells' := u9.1.1 - S0.1) (slots' := u9.1.2.1 - S0.2.1) (by have := hZ.1.1.1; have := hy7.1; omega) (by have := hZ.1.1.2; have := hy7.2; omega) ?_
      rw [← re_ad (r := o0) ha hy11] at hl
      rw [← ha x0 (k_x0.n hZ.1).1] at hl
      have hZ := hZ.n hz ha (by rw [← e1]; exact hy7.1.2) (by rw [← e2]; exact hy7.2.2)
      rw [← hv] at hE hp
      dsimp only at hE hp
      exact B_Y10_back_43a u9.1 u9.2 x1 o0 _ _ _ hE hp hZ hP hD hS (lv_sub hl [1, 2, 0] rfl)
  have B_M : ∀ (S : Cst) (ad : Nat → Nat) (x1 : Int32) (H : Heap) (locs : List Loc) (ls_ : Array Slot), f_Y10_back S x0 x1 = X → p_Y10_back S x0 lc ls x1 → nH S0 ad0 lc ls S ad → va_P G vwCl (wsC K ad S) H → va_D A (wsC K ad S) → va_S A s.heap H locs → lv_has ls_ 3 [(0, .ref (ad x0)), (1, .int x1)] → W p l e ({ frames := 6, cells := lc - S0.1, slots := ls - S0.2.1, locals := 149 } : Room) s m #[Value.ref (ad0 x0), Value.int a1] below meth c H locs (S.1 - S0.1) (S.2.1 - S0.2.1) Q (F0 m 0 ls_ []) := by
    intro S ad x1 H locs ls_ hE hp hZ hP hD hS hl
    unfold f_Y10_back at hE
    unfold p_Y10_back at hp
    refine lv_iload_n hx hb dX10_back_0 rfl (lv_at hl 1 rfl) ?_
    refine lv_if_lt (tgt := 9) hx hb dX10_back_1 (by decide) (fun c1 => ?_) (fun c1 => ?_)
    · rw [if_pos c1] at hE hp
      exact B_Y10_back_9 S ad x1 _ _ _ hE hp hZ hP hD hS (lv_sub hl [0, 1] rfl)
    · rw [if_neg c1] at hE hp
      refine lv_iload_n hx hb dX10_back_4 rfl (lv_at hl 1 rfl) ?_
      refine lv_iconst (v := 1) hx hb dX10_back_5 (by decide) ?_
      refine lv_icmp_le (tgt := 12) hx hb dX10_back_6 (by decide) (fun c2 => ?_) (fun c2 => ?_)
      · rw [if_pos c2] at hE hp
        refine lv_iload_n hx hb dX10_back_12 rfl (lv_at hl 1 rfl) ?_
        refine lv_if_ne (tgt := 23) hx hb dX10_back_13 (by decide) (fun c3 => ?_) (fun c3 => ?_)
        · rw [if_neg c3] at hE hp
          refine lv_aload_n hx hb dX10_back_23 rfl (lv_at hl 0 rfl) ?_
          refine va_get (D := G) (ci := 7) (v := va_re ad (grC S x0 3)) (C := RX10) (T := TX10) (N := 5) hx hb hts iX10 hown hK hP x0 (at_7 (k_x0.n hZ.1)) rfl 3 (by decide) (hw (.fieldLink RX10 164 "MotionFloor" "secondImage" "LMotionFloor$Assembly;") (List.mem_of_getElem? (i := 0) rfl)) (fun _ h9 => h9) rfl dX10_back_24 ?_
          exact B_Y10_back_27 S ad x1 (grC S x0 3) _ _ _ hE hp hZ hP hD hS (lv_sub hl [0, 1] rfl)
        · rw [if_pos c3] at hE hp
          refine lv_aload_n hx hb dX10_back_16 rfl (lv_at hl 0 rfl) ?_
          refine va_get (D := G) (ci := 7) (v := va_re ad (grC S x0 2)) (C := RX10) (T := TX10) (N := 5) hx hb hts iX10 hown hK hP x0 (at_7 (k_x0.n hZ.1)) rfl 2 (by decide) (hw (.fieldLink RX10 157 "MotionFloor" "firstImage" "LMotionFloor$Assembly;") (List.mem_of_getElem? (i := 8) rfl)) (fun _ h9 => h9) rfl dX10_back_17 ?_
          refine lv_goto (tgt := 27) hx hb dX10_back_20 (by decide) ?_
          exact B_Y10_back_27 S ad x1 (grC S x0 2) _ _ _ hE hp hZ hP hD hS (lv_sub hl [0, 1] rfl)
      · rw [if_neg c2] at hE hp
        exact B_Y10_back_9 S ad x1 _ _ _ hE hp hZ hP hD hS (lv_sub hl [0, 1] rfl)
  exact cCells (Nat.sub_self _).symm (Nat.sub_self _).symm (B_M S0 ad0 a1 _ _ _ hX hp (nH.rf S0 ad0 k_l) hP hD hS hl)
