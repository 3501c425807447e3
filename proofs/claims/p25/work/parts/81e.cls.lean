set_option maxRecDepth 100000 in
theorem zc218 : wZ (.selects RX2 yX2_hasFloor yX2_hasFloor) := ⟨wT2 (List.mem_of_getElem? (i := 88) (by decide +kernel)), Or.inl rfl⟩
set_option maxRecDepth 100000 in
theorem zc219 : wZ (.instanceMethod yX2_hasFloor) := ⟨wT2 (List.mem_of_getElem? (i := 87) (by decide +kernel)), Or.inl rfl⟩
set_option maxRecDepth 100000 in
theorem zc220 : wZ (.methodLink RX2 64 yX2_hasFloor) := ⟨wT2 (List.mem_of_getElem? (i := 212) (by decide +kernel)), Or.inl rfl⟩
set_option maxRecDepth 100000 in
theorem zc221 : wZ (.code yX2_silence cX2_silence 2 none) := ⟨wT2 (List.mem_of_getElem? (i := 211) rfl), Or.inl rfl⟩
def b_Y2_silence_13 (S : Cst) (x0 : Nat) (x1 : Int32) : Int32 × Cst := (0, S)
def q_Y2_silence_13 (S : Cst) (x0 : Nat) (x1 : Int32) : Prop := True
def f_Y2_silence (S : Cst) (x0 : Nat) (x1 : Int32) : Int32 × Cst := if (f_Y2_hasFloor S x0 x1) = 0 then (b_Y2_silence_13 S x0 x1) else (b_Y2_silence_13 (siC S x0 6 ((-1) : Int32)) x0 x1)
def p_Y2_silence (S : Cst) (x0 : Nat) (x1 : Int32) : Prop := (p_Y2_hasFloor S x0 x1) ∧ (if (f_Y2_hasFloor S x0 x1) = 0 then (q_Y2_silence_13 S x0 x1) else (q_Y2_silence_13 (siC S x0 6 ((-1) : Int32)) x0 x1))
def e_Y2_silence : List Cond := [.methodLink RX2 64 yX2_hasFloor, .instanceMethod yX2_hasFloor, .selects RX2 yX2_hasFloor yX2_hasFloor, .initialized RX2, .fieldLink RX2 44 "MotionFloor$House" "speaker" "I"]
def v_Y2_silence : List Cond := .code yX2_silence cX2_silence 2 none :: (e_Y2_silence ++ (wsX20 ++ (v_Y2_hasFloor ++ [])))
theorem te_Y2_silence : GoodIn lw_tbl e_Y2_silence := wGc zc220 (wGc zc219 (wGc zc218 (wGc zc77 (wGc zc68 (wG0)))))
theorem t_Y2_silence : GoodIn lw_tbl v_Y2_silence := wGc zc221 (wGa te_Y2_silence (wGa zcX2 (wGa t_Y2_hasFloor (wG0))))
set_option maxHeartbeats 4000000 in
set_option maxRecDepth 100000 in
theorem c_Y2_silence (l : Launch) (G : va_G) (K : Nat → ClassId) (ad : Nat → Nat) (S0 : Cst) (x0 : Nat) (a1 : Int32) (sz : Nat) : Met l yX2_silence v_Y2_silence ({ frames := 1, cells := 0, slots := 0, locals := 21 }) (va_Pc [.ref (ad x0), .int a1] (cSt G K ad sz S0 (iK S0 x0 1 ∧ p_Y2_silence S0 x0 a1))) (va_Qv (fun u : Cst => (0, u) = f_Y2_silence S0 x0 a1 ∧ eK S0 u) (cBt G K ad (va_A (wsC K ad S0) sz)) (va_A (wsC K ad S0) sz)) 0 0 (va_A (wsC K ad S0) sz) := by
  refine Met.ofW (cc := cX2_silence) (maxL := 2) (ret := none) (by decide) rfl ?_
  intro p e s m args below meth c s₁ B hml hv
  obtain ⟨rfl, ⟨hsz, hP, hK, hD0, hTE⟩, hp⟩ := hv
  obtain ⟨k_x0, hp⟩ := hp
  have hx := B.exec
  have hb := B.bytes
  have hr := B.returns
  have hts := atoms_spec (ws := v_Y2_silence) B.pre
  have t_ := t_Y2_silence
  have mw : ∀ w ∈ e_Y2_silence, w ∈ v_Y2_silence := fun w h => List.mem_cons_of_mem _ (List.mem_append_left _ h)
  have hw := fun w (h : w ∈ e_Y2_silence) => hts w (mw w h)
  have iX2 : ∀ w ∈ wsX20, w ∈ v_Y2_silence := fun w h => List.mem_cons_of_mem _ (List.mem_append_right _ (List.mem_append_left _ h))
  have j_Y2_hasFloor : ∀ w ∈ v_Y2_hasFloor, w ∈ v_Y2_silence := fun w h => List.mem_cons_of_mem _ (List.mem_append_right _ (List.mem_append_right _ (List.mem_append_left _ h)))
  have hown : s.vm.findClass RX2 = some m.cls := findClass_of_methodNamed B.named
  have hlocks := B.notSynchronized
  subst hsz
  have hD := hD0.self (sz := s.heap.size)
  generalize hAe : va_A (wsC K ad S0) s.heap.size = A at hD ⊢
  have hA : ∀ q : Nat, s.heap.size ≤ q → A q := fun q h => by rw [← hAe]; exact Or.inr h
  have hS : va_S A s.heap s.heap [] := va_S.rf
  have hl : lv_has (lg_sl ([.ref (ad x0), .int a1]) ++ List.replicate (2 - (lg_sl ([.ref (ad x0), .int a1])).length) Slot.unset).toArray 2 [(0, .ref (ad x0)), (1, .int a1)] := by
    exact lv_entry ([.ref (ad x0), .int a1]) (n := 2) (Nat.le_of_ble_eq_true rfl)
  rw [lg_entry_eq]
  generalize (lg_sl ([.ref (ad x0), .int a1]) ++ List.replicate (2 - (lg_sl ([.ref (ad x0), .int a1])).length) Slot.unset).toArray = ls_ at hl ⊢
  refine wGen (fun Q hQ => ?_)
  obtain ⟨X, hX⟩ : ∃ X, f_Y2_silence S0 x0 a1 = X := ⟨_, rfl⟩
  have B_Y2_silence_13 : ∀ (S : Cst) (x1 : Int32) (H : Heap) (locs : List Loc) (ls_ : Array Slot), b_Y2_silence_13 S x0 x1 = X → q_Y2_silence_13 S x0 x1 → eK S0 S → va_P G vwCl (wsC K ad S) H → va_D A (wsC K ad S) → va_S A s.heap H locs → lv_has ls_ 2 [(0, .ref (ad x0)), (1, .int x1)] → W p l e ({ frames := 1, cells := 0, slots := 0, locals := 21 } : Room) s m #[Value.ref (ad x0), Value.int a1] below meth c H locs 0 0 Q (F0 m 13 ls_ []) := by
    intro S x1 H locs ls_ hE hp hZ hP hD hS hl
    unfold b_Y2_silence_13 at hE
    unfold q_Y2_silence_13 at hp
    subst hQ
    exact W.vret hx hb hr (fun t ht hW => ⟨⟨S, rfl, ⟨hE.trans hX.symm, hZ⟩, by rw [ht]; exact hP, hD⟩, hS.F ht⟩) hS.2.2 dX2_silence_13
  have B_M : ∀ (S : Cst) (x1 : Int32) (H : Heap) (locs : List Loc) (ls_ : Array Slot), f_Y2_silence S x0 x1 = X → p_Y2_silence S x0 x1 → eK S0 S → va_P G vwCl (wsC K ad S) H → va_D A (wsC K ad S) → va_S A s.heap H locs → lv_has ls_ 2 [(0, .ref (ad x0)), (1, .int x1)] → W p l e ({ frames := 1, cells := 0, slots := 0, locals := 21 } : Room) s m #[Value.ref (ad x0), Value.int a1] below meth c H locs 0 0 Q (F0 m 0 ls_ []) := by
    intro S x1 H locs ls_ hE hp hZ hP hD hS hl
    unfold f_Y2_silence at hE
    unfold p_Y2_silence at hp
    refine lv_aload_n hx hb dX2_silence_0 rfl (lv_at hl 0 rfl) ?_
    refine lv_iload_n hx hb dX2_silence_1 rfl (lv_at hl 1 rfl) ?_
    obtain ⟨hy1, hp⟩ := hp
    refine cGoi (va_runV (As := [.int x1]) (rest := []) ⟨hx, hb, hml, hown, hts⟩ (c_Y2_hasFloor l G K ad S x0 x1 _) (cwV 1 hts (wGV t_ (mw (.methodLink RX2 64 yX2_hasFloor) (List.mem_of_getElem? (i := 0) rfl)) (mw (.instanceMethod yX2_hasFloor) (List.mem_of_getElem? (i := 1) rfl)) (mw (.selects RX2 yX2_hasFloor yX2_hasFloor) (List.mem_of_getElem? (i := 2) rfl)) (mw (.initialized RX2) (List.mem_of_getElem? (i := 3) rfl)) j_Y2_hasFloor) rfl rfl rfl (by decide +kernel) ⟨Nat.le_of_ble_eq_true rfl, Nat.le_of_ble_eq_true rfl⟩) (cPV hK hTE hP hD 1 rfl (at_1 (k_x0.e hZ)) ⟨(k_x0.e hZ), hy1⟩) rfl rfl hl.1 rfl (lv_room (Nat.le_of_ble_eq_true rfl)) dX2_silence_2 ⟨Nat.le_of_ble_eq_true rfl, Nat.le_of_ble_eq_true rfl⟩) hP hD hS hA (fun r3 u2 H locs hv hP hD hS => ?_)
    have h1 := congrArg Prod.fst hv
    have h2 := (congrArg Prod.snd hv).symm
    dsimp only at h1 h2
    subst h1
    subst h2
    refine lv_if_eq (tgt := 13) hx hb dX2_silence_5 (by decide) (fun c4 => ?_) (fun c4 => ?_)
    · rw [if_pos c4] at hE hp
      exact B_Y2_silence_13 S x1 _ _ _ hE hp hZ hP hD hS (lv_sub hl [0, 1] rfl)
    · rw [if_neg c4] at hE hp
      refine lv_aload_n hx hb dX2_silence_8 rfl (lv_at hl 0 rfl) ?_
      refine lv_iconst (v := (-1)) hx hb dX2_silence_9 (by decide) ?_
      refine va_put (D := G) (ci := 1) (v := .int (-1)) (ty := .int) (C := RX2) (T := TX2) (N := 8) hx hb hts iX2 tyX2 tyX2_ok nmX2 hown hK hP hD hS x0 (at_1 (k_x0.e hZ)) rfl 6 (by decide) (hw (.fieldLink RX2 44 "MotionFloor$House" "speaker" "I") (List.mem_of_getElem? (i := 4) rfl)) (fun _ h9 => h9) rfl (by decide +kernel) rfl rfl (Nat.le_of_ble_eq_true rfl) dX2_silence_10 (fun H locs hP hD hS => ?_)
      rw [st_1_6 (k_x0.e hZ)] at hP hD
      have hZ := hZ.tr (eK.si S x0 6 ((-1) : Int32))
      exact B_Y2_silence_13 (siC S x0 6 ((-1) : Int32)) x1 _ _ _ hE hp hZ hP hD hS (lv_sub hl [0, 1] rfl)
  exact B_M S0 a1 _ _ _ hX hp (eK.rf S0) hP hD hS hl
set_option maxRecDepth 100000 in
theorem zc222 : wZ (.selects RX2 yX2_silence yX2_silence) := ⟨wT2 (List.mem_of_getElem? (i := 210) (by decide +kernel)), Or.inl rfl⟩
set_option maxRecDepth 100000 in
theorem zc223 : wZ (.instanceMethod yX2_silence) := ⟨wT2 (List.mem_of_getElem? (i := 209) (by decide +kernel)), Or.inl rfl⟩
set_option maxRecDepth 100000 in
theorem zc224 : wZ (.methodLink RX2 60 yX2_silence) := ⟨wT2 (List.mem_of_getElem? (i := 208) (by decide +kernel)), Or.inl rfl⟩
set_option maxRecDepth 100000 in
theorem zc225 : wZ (.selects RX2 yX2_isThere yX2_isThere) := ⟨wT2 (List.mem_of_getElem? (i := 64) (by decide +kernel)), Or.inl rfl⟩
set_option maxRecDepth 100000 in
theorem zc226 : wZ (.instanceMethod yX2_isThere) := ⟨wT2 (List.mem_of_getElem? (i := 63) (by decide +kernel)), Or.inl rfl⟩
set_option maxRecDepth 100000 in
theorem zc227 : wZ (.methodLink RX2 57 yX2_isThere) := ⟨wT2 (List.mem_of_getElem? (i := 207) (by decide +kernel)), Or.inl rfl⟩
set_option maxRecDepth 100000 in
theorem zc228 : wZ (.code yX2_leave cX2_leave 2 (some .int)) := ⟨wT2 (List.mem_of_getElem? (i := 206) rfl), Or.inl rfl⟩
def b_Y2_leave_30a (S : Cst) (x0 : Nat) (x1 : Int32) : Int32 × Cst := ((giC S x0 2), S)
def q_Y2_leave_30a (S : Cst) (x0 : Nat) (x1 : Int32) : Prop := True
def b_Y2_leave_25 (S : Cst) (x0 : Nat) (x1 : Int32) : Int32 × Cst := (b_Y2_leave_30a ((f_Y2_silence S x0 x1).2) x0 x1)
def q_Y2_leave_25 (S : Cst) (x0 : Nat) (x1 : Int32) : Prop := (p_Y2_silence S x0 x1) ∧ (q_Y2_leave_30a ((f_Y2_silence S x0 x1).2) x0 x1)
def f_Y2_leave (S : Cst) (x0 : Nat) (x1 : Int32) : Int32 × Cst := if (f_Y2_isThere S x0 x1) = 0 then (b_Y2_leave_25 S x0 x1) else (b_Y2_leave_25 (siC (siC S ((grC S x0 1).getD 0) x1.toNatClampNeg (vp_nar .boolean (0 : Int32))) x0 2 ((giC (siC S ((grC S x0 1).getD 0) x1.toNatClampNeg (vp_nar .boolean (0 : Int32))) x0 2) - 1)) x0 x1)
def p_Y2_leave (S : Cst) (x0 : Nat) (x1 : Int32) : Prop := (p_Y2_isThere S x0 x1) ∧ (if (f_Y2_isThere S x0 x1) = 0 then (q_Y2_leave_25 S x0 x1) else (iR S (grC S x0 1) 21) ∧ (vp_in x1 (lnC S ((grC S x0 1).getD 0))) ∧ (q_Y2_leave_25 (siC (siC S ((grC S x0 1).getD 0) x1.toNatClampNeg (vp_nar .boolean (0 : Int32))) x0 2 ((giC (siC S ((grC S x0 1).getD 0) x1.toNatClampNeg (vp_nar .boolean (0 : Int32))) x0 2) - 1)) x0 x1))
def e_Y2_leave : List Cond := [.methodLink RX2 57 yX2_isThere, .instanceMethod yX2_isThere, .selects RX2 yX2_isThere yX2_isThere, .initialized RX2, .methodLink RX2 60 yX2_silence, .instanceMethod yX2_silence, .selects RX2 yX2_silence yX2_silence, .fieldLink RX2 41 "MotionFloor$House" "present" "I", .fieldLink RX2 9 "MotionFloor$House" "there" "[Z"]
def v_Y2_leave : List Cond := .code yX2_leave cX2_leave 2 (some .int) :: (e_Y2_leave ++ (wsX20 ++ (v_Y2_isThere ++ (v_Y2_silence ++ []))))
theorem te_Y2_leave : GoodIn lw_tbl e_Y2_leave := wGc zc227 (wGc zc226 (wGc zc225 (wGc zc77 (wGc zc224 (wGc zc223 (wGc zc222 (wGc zc69 (wGc zc70 (wG0)))))))))
theorem t_Y2_leave : GoodIn lw_tbl v_Y2_leave := wGc zc228 (wGa te_Y2_leave (wGa zcX2 (wGa t_Y2_isThere (wGa t_Y2_silence (wG0)))))
set_option maxHeartbeats 4000000 in
set_option maxRecDepth 100000 in
theorem c_Y2_leave (l : Launch) (G : va_G) (K : Nat → ClassId) (ad : Nat → Nat) (S0 : Cst) (x0 : Nat) (a1 : Int32) (sz : Nat) : Met l yX2_leave v_Y2_leave ({ frames := 2, cells := 0, slots := 0, locals := 42 }) (va_Pc [.ref (ad x0), .int a1] (cSt G K ad sz S0 (iK S0 x0 1 ∧ p_Y2_leave S0 x0 a1))) (va_Qi (fun (r : Int32) (u : Cst) => (r, u) = f_Y2_leave S0 x0 a1 ∧ eK S0 u) (cBt G K ad (va_A (wsC K ad S0) sz)) (va_A (wsC K ad S0) sz)) 0 0 (va_A (wsC K ad S0) sz) := by
  refine Met.ofW (cc := cX2_leave) (maxL := 2) (ret := (some .int)) (by decide) rfl ?_
  intro p e s m args below meth c s₁ B hml hv
  obtain ⟨rfl, ⟨hsz, hP, hK, hD0, hTE⟩, hp⟩ := hv
  obtain ⟨k_x0, hp⟩ := hp
  have hx := B.exec
  have hb := B.bytes
  have hr := B.returns
  have hts := atoms_spec (ws := v_Y2_leave) B.pre
  have t_ := t_Y2_leave
  have mw : ∀ w ∈ e_Y2_leave, w ∈ v_Y2_leave := fun w h => List.mem_cons_of_mem _ (List.mem_append_left _ h)
  have hw := fun w (h : w ∈ e_Y2_leave) => hts w (mw w h)
  have iX2 : ∀ w ∈ wsX20, w ∈ v_Y2_leave := fun w h => List.mem_cons_of_mem _ (List.mem_append_right _ (List.mem_append_left _ h))
  have j_Y2_isThere : ∀ w ∈ v_Y2_isThere, w ∈ v_Y2_leave := fun w h => List.mem_cons_of_mem _ (List.mem_append_right _ (List.mem_append_right _ (List.mem_append_left _ h)))
  have j_Y2_silence : ∀ w ∈ v_Y2_silence, w ∈ v_Y2_leave := fun w h => List.mem_cons_of_mem _ (List.mem_append_right _ (List.mem_append_right _ (List.mem_append_right _ (List.mem_append_left _ h))))
  have hown : s.vm.findClass RX2 = some m.cls := findClass_of_methodNamed B.named
  have hlocks := B.notSynchronized
  subst hsz
  have hD := hD0.self (sz := s.heap.size)
  generalize hAe : va_A (wsC K ad S0) s.heap.size = A at hD ⊢
  have hA : ∀ q : Nat, s.heap.size ≤ q → A q := fun q h => by rw [← hAe]; exact Or.inr h
  have hS : va_S A s.heap s.heap [] := va_S.rf
  have hl : lv_has (lg_sl ([.ref (ad x0), .int a1]) ++ List.replicate (2 - (lg_sl ([.ref (ad x0), .int a1])).length) Slot.unset).toArray 2 [(0, .ref (ad x0)), (1, .int a1)] := by
    exact lv_entry ([.ref (ad x0), .int a1]) (n := 2) (Nat.le_of_ble_eq_true rfl)
  rw [lg_entry_eq]
  generalize (lg_sl ([.ref (ad x0), .int a1]) ++ List.replicate (2 - (lg_sl ([.ref (ad x0), .int a1])).length) Slot.unset).toArray = ls_ at hl ⊢
  refine wGen (fun Q hQ => ?_)
  obtain ⟨X, hX⟩ : ∃ X, f_Y2_leave S0 x0 a1 = X := ⟨_, rfl⟩
  have B_Y2_leave_30a : ∀ (S : Cst) (x1 : Int32) (H : Heap) (locs : List Loc) (ls_ : Array Slot), b_Y2_leave_30a S x0 x1 = X → q_Y2_leave_30a S x0 x1 → eK S0 S → va_P G vwCl (wsC K ad S) H → va_D A (wsC K ad S) → va_S A s.heap H locs → lv_has ls_ 2 [(0, .ref (ad x0)), (1, .int x1)] → W p l e ({ frames := 2, cells := 0, slots := 0, locals := 42 } : Room) s m #[Value.ref (ad x0), Value.int a1] below meth c H locs 0 0 Q (F0 m 30 ls_ []) := by
    intro S x1 H locs ls_ hE hp hZ hP hD hS hl
    unfold b_Y2_leave_30a at hE
    unfold q_Y2_leave_30a at hp
    refine lv_aload_n hx hb dX2_leave_30 rfl (lv_at hl 0 rfl) ?_
    refine va_get (D := G) (ci := 1) (v := .int (giC S x0 2)) (C := RX2) (T := TX2) (N := 8) hx hb hts iX2 hown hK hP x0 (at_1 (k_x0.e hZ)) rfl 2 (by decide) (hw (.fieldLink RX2 41 "MotionFloor$House" "present" "I") (List.mem_of_getElem? (i := 7) rfl)) (fun _ h9 => h9) rfl dX2_leave_31 ?_
    subst hQ
    exact W.iret (v := (giC S x0 2)) hx hb hr (fun t ht hW => ⟨⟨(giC S x0 2), S, rfl, ⟨hE.trans hX.symm, hZ⟩, by rw [ht]; exact hP, hD⟩, hS.F ht⟩) hS.2.2 dX2_leave_34
  have B_Y2_leave_25 : ∀ (S : Cst) (x1 : Int32) (H : Heap) (locs : List Loc) (ls_ : Array Slot), b_Y2_leave_25 S x0 x1 = X → q_Y2_leave_25 S x0 x1 → eK S0 S → va_P G vwCl (wsC K ad S) H → va_D A (wsC K ad S) → va_S A s.heap H locs → lv_has ls_ 2 [(0, .ref (ad x0)), (1, .int x1)] → W p l e ({ frames := 2, cells := 0, slots := 0, locals := 42 } : Room) s m #[Value.ref (ad x0), Value.int a1] below meth c H locs 0 0 Q (F0 m 25 ls_ []) := by
    intro S x1 H locs ls_ hE hp hZ hP hD hS hl
    unfold b_Y2_leave_25 at hE
    unfold q_Y2_leave_25 at hp
    refine lv_aload_n hx hb dX2_leave_25 rfl (lv_at hl 0 rfl) ?_
    refine lv_iload_n hx hb dX2_leave_26 rfl (lv_at hl 1 rfl) ?_
    obtain ⟨hy5, hp⟩ := hp
    refine cGov (va_runV (As := [.int x1]) (rest := []) ⟨hx, hb, hml, hown, hts⟩ (c_Y2_silence l G K ad S x0 x1 _) (cwV 1 hts (wGV t_ (mw (.methodLink RX2 60 yX2_silence) (List.mem_of_getElem? (i := 4) rfl)) (mw (.instanceMethod yX2_silence) (List.mem_of_getElem? (i := 5) rfl)) (mw (.selects RX2 yX2_silence yX2_silence) (List.mem_of_getElem? (i := 6) rfl)) (mw (.initialized RX2) (List.mem_of_getElem? (i := 3) rfl)) j_Y2_silence) rfl rfl rfl (by decide +kernel) ⟨Nat.le_of_ble_eq_true rfl, Nat.le_of_ble_eq_true rfl⟩) (cPV hK hTE hP hD 1 rfl (at_1 (k_x0.e hZ)) ⟨(k_x0.e hZ), hy5⟩) rfl rfl hl.1 rfl (lv_room (Nat.le_of_ble_eq_true rfl)) dX2_leave_27 ⟨Nat.le_of_ble_eq_true rfl, Nat.le_of_ble_eq_true rfl⟩) hP hD hS hA (fun u6 H locs hv hP hD hS => ?_)
    obtain ⟨hv, hz⟩ := hv
    have hZ := hZ.tr hz
    rw [← hv] at hE hp
    dsimp only at hE hp
    exact B_Y2_leave_30a u6 x1 _ _ _ hE hp hZ hP hD hS (lv_sub hl [0, 1] rfl)
  have B_M : ∀ (S : Cst) (x1 : Int32) (H : Heap) (locs : List Loc) (ls_ : Array Slot), f_Y2_leave S x0 x1 = X → p_Y2_leave S x0 x1 → eK S0 S → va_P G vwCl (wsC K ad S) H → va_D A (wsC K ad S) → va_S A s.heap H locs → lv_has ls_ 2 [(0, .ref (ad x0)), (1, .int x1)] → W p l e ({ frames := 2, cells := 0, slots := 0, locals := 42 } : Room) s m #[Value.ref (ad x0), Value.int a1] below meth c H locs 0 0 Q (F0 m 0 ls_ []) := by
    intro S x1 H locs ls_ hE hp hZ hP hD hS hl
    unfold f_Y2_leave at hE
    unfold p_Y2_leave at hp
    refine lv_aload_n hx hb dX2_leave_0 rfl (lv_at hl 0 rfl) ?_
    refine lv_iload_n hx hb dX2_leave_1 rfl (lv_at hl 1 rfl) ?_
    obtain ⟨hy1, hp⟩ := hp
    refine cGoi (va_runV (As := [.int x1]) (rest := []) ⟨hx, hb, hml, hown, hts⟩ (c_Y2_isThere l G K ad S x0 x1 _) (cwV 1 hts (wGV t_ (mw (.methodLink RX2 57 yX2_isThere) (List.mem_of_getElem? (i := 0) rfl)) (mw (.instanceMethod yX2_isThere) (List.mem_of_getElem? (i := 1) rfl)) (mw (.selects RX2 yX2_isThere yX2_isThere) (List.mem_of_getElem? (i := 2) rfl)) (mw (.initialized RX2) (List.mem_of_getElem? (i := 3) rfl)) j_Y2_isThere) rfl rfl rfl (by decide +kernel) ⟨Nat.le_of_ble_eq_true rfl, Nat.le_of_ble_eq_true rfl⟩) (cPV hK hTE hP hD 1 rfl (at_1 (k_x0.e hZ)) ⟨(k_x0.e hZ), hy1⟩) rfl rfl hl.1 rfl (lv_room (Nat.le_of_ble_eq_true rfl)) dX2_leave_2 ⟨Nat.le_of_ble_eq_true rfl, Nat.le_of_ble_eq_true rfl⟩) hP hD hS hA (fun r3 u2 H locs hv hP hD hS => ?_)
    have h1 := congrArg Prod.fst hv
    have h2 := (congrArg Prod.snd hv).symm
    dsimp only at h1 h2
    subst h1
    subst h2
    refine lv_if_eq (tgt := 25) hx hb dX2_leave_5 (by decide) (fun c4 => ?_) (fun c4 => ?_)
    · rw [if_pos c4] at hE hp
      exact B_Y2_leave_25 S x1 _ _ _ hE hp hZ hP hD hS (lv_sub hl [0, 1] rfl)
    · rw [if_neg c4] at hE hp
      refine lv_aload_n hx hb dX2_leave_8 rfl (lv_at hl 0 rfl) ?_
      refine va_get (D := G) (ci := 1) (v := va_re ad (grC S x0 1)) (C := RX2) (T := TX2) (N := 8) hx hb hts iX2 hown hK hP x0 (at_1 (k_x0.e hZ)) rfl 1 (by decide) (hw (.fieldLink RX2 9 "MotionFloor$House" "there" "[Z") (List.mem_of_getElem? (i := 8) rfl)) (fun _ h9 => h9) rfl dX2_leave_9 ?_
      refine lv_iload_n hx hb dX2_leave_12 rfl (lv_at hl 1 rfl) ?_
      refine lv_iconst (v := 0) hx hb dX2_leave_13 (by decide) ?_
      obtain ⟨hy8, hp⟩ := hp
      refine cTop3 (r := (grC S x0 1)) hy8.1 ?_
      obtain ⟨hy9, hp⟩ := hp
      refine va_zast hx hb hK hP hD hS ((grC S x0 1).getD 0) 1 (at_21 hy8.2) rfl hy9 dX2_leave_14 (fun H locs hP hD hS => ?_)
      rw [sa_21 hy8.2] at hP hD
      have hZ := hZ.tr (eK.si S ((grC S x0 1).getD 0) x1.toNatClampNeg (vp_nar .boolean (0 : Int32)))
      refine lv_aload_n hx hb dX2_leave_15 rfl (lv_at hl 0 rfl) ?_
      refine lv_dup hx hb dX2_leave_16 rfl ?_
      refine va_get (D := G) (ci := 1) (v := .int (giC (siC S ((grC S x0 1).getD 0) x1.toNatClampNeg (vp_nar .boolean (0 : Int32))) x0 2)) (C := RX2) (T := TX2) (N := 8) hx hb hts iX2 hown hK hP x0 (at_1 (k_x0.e hZ)) rfl 2 (by decide) (hw (.fieldLink RX2 41 "MotionFloor$House" "present" "I") (List.mem_of_getElem? (i := 7) rfl)) (fun _ h9 => h9) rfl dX2_leave_17 ?_
      refine lv_iconst (v := 1) hx hb dX2_leave_20 (by decide) ?_
      refine lv_isub hx hb dX2_leave_21 ?_
      refine va_put (D := G) (ci := 1) (v := .int ((giC (siC S ((grC S x0 1).getD 0) x1.toNatClampNeg (vp_nar .boolean (0 : Int32))) x0 2) - 1)) (ty := .int) (C := RX2) (T := TX2) (N := 8) hx hb hts iX2 tyX2 tyX2_ok nmX2 hown hK hP hD hS x0 (at_1 (k_x0.e hZ)) rfl 2 (by decide) (hw (.fieldLink RX2 41 "MotionFloor$House" "present" "I") (List.mem_of_getElem? (i := 7) rfl)) (fun _ h9 => h9) rfl (by decide +kernel) rfl rfl (Nat.le_of_ble_eq_true rfl) dX2_leave_22 (fun H locs hP hD hS => ?_)
      rw [st_1_2 (k_x0.e hZ)] at hP hD
      have hZ := hZ.tr (eK.si (siC S ((grC S x0 1).getD 0) x1.toNatClampNeg (vp_nar .boolean (0 : Int32))) x0 2 ((giC (siC S ((grC S x0 1).getD 0) x1.toNatClampNeg (vp_nar .boolean (0 : Int32))) x0 2) - 1))
      exact B_Y2_leave_25 (siC (siC S ((grC S x0 1).getD 0) x1.toNatClampNeg (vp_nar .boolean (0 : Int32))) x0 2 ((giC (siC S ((grC S x0 1).getD 0) x1.toNatClampNeg (vp_nar .boolean (0 : Int32))) x0 2) - 1)) x1 _ _ _ hE hp hZ hP hD hS (lv_sub hl [0, 1] rfl)
  exact B_M S0 a1 _ _ _ hX hp (eK.rf S0) hP hD hS hl
set_option maxRecDepth 100000 in
theorem zc229 : wZ (.code yX2_takeChair cX2_takeChair 2 (some .int)) := ⟨wT2 (List.mem_of_getElem? (i := 216) rfl), Or.inl rfl⟩
def b_Y2_takeChair_10a (S : Cst) (x0 : Nat) (x1 : Int32) : Int32 × Cst := (x1, S)
def q_Y2_takeChair_10a (S : Cst) (x0 : Nat) (x1 : Int32) : Prop := True
def f_Y2_takeChair (S : Cst) (x0 : Nat) (x1 : Int32) : Int32 × Cst := (b_Y2_takeChair_10a ((f_Y2_silence (siC S x0 3 x1) x0 x1).2) x0 x1)
def p_Y2_takeChair (S : Cst) (x0 : Nat) (x1 : Int32) : Prop := (p_Y2_silence (siC S x0 3 x1) x0 x1) ∧ (q_Y2_takeChair_10a ((f_Y2_silence (siC S x0 3 x1) x0 x1).2) x0 x1)
def e_Y2_takeChair : List Cond := [.fieldLink RX2 29 "MotionFloor$House" "chair" "I", .methodLink RX2 60 yX2_silence, .instanceMethod yX2_silence, .selects RX2 yX2_silence yX2_silence, .initialized RX2]
def v_Y2_takeChair : List Cond := .code yX2_takeChair cX2_takeChair 2 (some .int) :: (e_Y2_takeChair ++ (wsX20 ++ (v_Y2_silence ++ [])))
theorem te_Y2_takeChair : GoodIn lw_tbl e_Y2_takeChair := wGc zc81 (wGc zc224 (wGc zc223 (wGc zc222 (wGc zc77 (wG0)))))
theorem t_Y2_takeChair : GoodIn lw_tbl v_Y2_takeChair := wGc zc229 (wGa te_Y2_takeChair (wGa zcX2 (wGa t_Y2_silence (wG0))))
set_option maxHeartbeats 4000000 in
set_option maxRecDepth 100000 in
theorem c_Y2_takeChair (l : Launch) (G : va_G) (K : Nat → ClassId) (ad : Nat → Nat) (S0 : Cst) (x0 : Nat) (a1 : Int32) (sz : Nat) : Met l yX2_takeChair v_Y2_takeChair ({ frames := 2, cells := 0, slots := 0, locals := 42 }) (va_Pc [.ref (ad x0), .int a1] (cSt G K ad sz S0 (iK S0 x0 1 ∧ p_Y2_takeChair S0 x0 a1))) (va_Qi (fun (r : Int32) (u : Cst) => (r, u) = f_Y2_takeChair S0 x0 a1 ∧ eK S0 u) (cBt G K ad (va_A (wsC K ad S0) sz)) (va_A (wsC K ad S0) sz)) 0 0 (va_A (wsC K ad S0) sz) := by
  refine Met.ofW (cc := cX2_takeChair) (maxL := 2) (ret := (some .int)) (by decide) rfl ?_
  intro p e s m args below meth c s₁ B hml hv
  obtain ⟨rfl, ⟨hsz, hP, hK, hD0, hTE⟩, hp⟩ := hv
  obtain ⟨k_x0, hp⟩ := hp
  have hx := B.exec
  have hb := B.bytes
  have hr := B.returns
  have hts := atoms_spec (ws := v_Y2_takeChair) B.pre
  have t_ := t_Y2_takeChair
  have mw : ∀ w ∈ e_Y2_takeChair, w ∈ v_Y2_takeChair := fun w h => List.mem_cons_of_mem _ (List.mem_append_left _ h)
  have hw := fun w (h : w ∈ e_Y2_takeChair) => hts w (mw w h)
  have iX2 : ∀ w ∈ wsX20, w ∈ v_Y2_takeChair := fun w h => List.mem_cons_of_mem _ (List.mem_append_right _ (List.mem_append_left _ h))
  have j_Y2_silence : ∀ w ∈ v_Y2_silence, w ∈ v_Y2_takeChair := fun w h => List.mem_cons_of_mem _ (List.mem_append_right _ (List.mem_append_right _ (List.mem_append_left _ h)))
  have hown : s.vm.findClass RX2 = some m.cls := findClass_of_methodNamed B.named
  have hlocks := B.notSynchronized
  subst hsz
  have hD := hD0.self (sz := s.heap.size)
  generalize hAe : va_A (wsC K ad S0) s.heap.size = A at hD ⊢
  have hA : ∀ q : Nat, s.heap.size ≤ q → A q := fun q h => by rw [← hAe]; exact Or.inr h
  have hS : va_S A s.heap s.heap [] := va_S.rf
  have hl : lv_has (lg_sl ([.ref (ad x0), .int a1]) ++ List.replicate (2 - (lg_sl ([.ref (ad x0), .int a1])).length) Slot.unset).toArray 2 [(0, .ref (ad x0)), (1, .int a1)] := by
    exact lv_entry ([.ref (ad x0), .int a1]) (n := 2) (Nat.le_of_ble_eq_true rfl)
  rw [lg_entry_eq]
  generalize (lg_sl ([.ref (ad x0), .int a1]) ++ List.replicate (2 - (lg_sl ([.ref (ad x0), .int a1])).length) Slot.unset).toArray = ls_ at hl ⊢
  refine wGen (fun Q hQ => ?_)
  obtain ⟨X, hX⟩ : ∃ X, f_Y2_takeChair S0 x0 a1 = X := ⟨_, rfl⟩
  have B_Y2_takeChair_10a : ∀ (S : Cst) (x1 : Int32) (H : Heap) (locs : List Loc) (ls_ : Array Slot), b_Y2_takeChair_10a S x0 x1 = X → q_Y2_takeChair_10a S x0 x1 → eK S0 S → va_P G vwCl (wsC K ad S) H → va_D A (wsC K ad S) → va_S A s.heap H locs → lv_has ls_ 2 [(0, .ref (ad x0)), (1, .int x1)] → W p l e ({ frames := 2, cells := 0, slots := 0, locals := 42 } : Room) s m #[Value.ref (ad x0), Value.int a1] below meth c H locs 0 0 Q (F0 m 10 ls_ []) := by
    intro S x1 H locs ls_ hE hp hZ hP hD hS hl
    unfold b_Y2_takeChair_10a at hE
    unfold q_Y2_takeChair_10a at hp
    refine lv_iload_n hx hb dX2_takeChair_10 rfl (lv_at hl 1 rfl) ?_
    subst hQ
    exact W.iret (v := x1) hx hb hr (fun t ht hW => ⟨⟨x1, S, rfl, ⟨hE.trans hX.symm, hZ⟩, by rw [ht]; exact hP, hD⟩, hS.F ht⟩) hS.2.2 dX2_takeChair_11
  have B_M : ∀ (S : Cst) (x1 : Int32) (H : Heap) (locs : List Loc) (ls_ : Array Slot), f_Y2_takeChair S x0 x1 = X → p_Y2_takeChair S x0 x1 → eK S0 S → va_P G vwCl (wsC K ad S) H → va_D A (wsC K ad S) → va_S A s.heap H locs → lv_has ls_ 2 [(0, .ref (ad x0)), (1, .int x1)] → W p l e ({ frames := 2, cells := 0, slots := 0, locals := 42 } : Room) s m #[Value.ref (ad x0), Value.int a1] below meth c H locs 0 0 Q (F0 m 0 ls_ []) := by
    intro S x1 H locs ls_ hE hp hZ hP hD hS hl
    unfold f_Y2_takeChair at hE
    unfold p_Y2_takeChair at hp
    refine lv_aload_n hx hb dX2_takeChair_0 rfl (lv_at hl 0 rfl) ?_
    refine lv_iload_n hx hb dX2_takeChair_1 rfl (lv_at hl 1 rfl) ?_
    refine va_put (D := G) (ci := 1) (v := .int x1) (ty := .int) (C := RX2) (T := TX2) (N := 8) hx hb hts iX2 tyX2 tyX2_ok nmX2 hown hK hP hD hS x0 (at_1 (k_x0.e hZ)) rfl 3 (by decide) (hw (.fieldLink RX2 29 "MotionFloor$House" "chair" "I") (List.mem_of_getElem? (i := 0) rfl)) (fun _ h9 => h9) rfl (by decide +kernel) rfl rfl (Nat.le_of_ble_eq_true rfl) dX2_takeChair_2 (fun H locs hP hD hS => ?_)
    rw [st_1_3 (k_x0.e hZ)] at hP hD
    have hZ := hZ.tr (eK.si S x0 3 x1)
    refine lv_aload_n hx hb dX2_takeChair_5 rfl (lv_at hl 0 rfl) ?_
    refine lv_iload_n hx hb dX2_takeChair_6 rfl (lv_at hl 1 rfl) ?_
    obtain ⟨hy1, hp⟩ := hp
    refine cGov (va_runV (As := [.int x1]) (rest := []) ⟨hx, hb, hml, hown, hts⟩ (c_Y2_silence l G K ad (siC S x0 3 x1) x0 x1 _) (cwV 1 hts (wGV t_ (mw (.methodLink RX2 60 yX2_silence) (List.mem_of_getElem? (i := 1) rfl)) (mw (.instanceMethod yX2_silence) (List.mem_of_getElem? (i := 2) rfl)) (mw (.selects RX2 yX2_silence yX2_silence) (List.mem_of_getElem? (i := 3) rfl)) (mw (.initialized RX2) (List.mem_of_getElem? (i := 4) rfl)) j_Y2_silence) rfl rfl rfl (by decide +kernel) ⟨Nat.le_of_ble_eq_true rfl, Nat.le_of_ble_eq_true rfl⟩) (cPV hK hTE hP hD 1 rfl (at_1 (k_x0.e hZ)) ⟨(k_x0.e hZ), hy1⟩) rfl rfl hl.1 rfl (lv_room (Nat.le_of_ble_eq_true rfl)) dX2_takeChair_7 ⟨Nat.le_of_ble_eq_true rfl, Nat.le_of_ble_eq_true rfl⟩) hP hD hS hA (fun u2 H locs hv hP hD hS => ?_)
    obtain ⟨hv, hz⟩ := hv
    have hZ := hZ.tr hz
    rw [← hv] at hE hp
    dsimp only at hE hp
    exact B_Y2_takeChair_10a u2 x1 _ _ _ hE hp hZ hP hD hS (lv_sub hl [0, 1] rfl)
  exact B_M S0 a1 _ _ _ hX hp (eK.rf S0) hP hD hS hl
set_option maxRecDepth 100000 in
theorem zc230 : wZ (.code yX2_replaceMajority cX2_replaceMajority 4 (some .int)) := ⟨wT2 (List.mem_of_getElem? (i := 220) rfl), Or.inl rfl⟩
def b_Y2_replaceMajority_14 (S : Cst) (x0 : Nat) (x1 : Int32) (x2 : Int32) : Int32 × Cst := ((0 : Int32), S)
def q_Y2_replaceMajority_14 (S : Cst) (x0 : Nat) (x1 : Int32) (x2 : Int32) : Prop := True
def f_Y2_replaceMajority (S : Cst) (x0 : Nat) (x1 : Int32) (x2 : Int32) : Int32 × Cst := if x1 < 1 then (b_Y2_replaceMajority_14 S x0 x1 x2) else if x1 < (Int32.ofNat (lnC S ((grC S x0 7).getD 0))) then ((giC S ((grC S x0 7).getD 0) x1.toNatClampNeg), (siC S ((grC S x0 7).getD 0) x1.toNatClampNeg x2)) else (b_Y2_replaceMajority_14 S x0 x1 x2)
def p_Y2_replaceMajority (S : Cst) (x0 : Nat) (x1 : Int32) (x2 : Int32) : Prop := (if x1 < 1 then (q_Y2_replaceMajority_14 S x0 x1 x2) else (iR S (grC S x0 7) 20) ∧ (if x1 < (Int32.ofNat (lnC S ((grC S x0 7).getD 0))) then (iR S (grC S x0 7) 20) ∧ (vp_in x1 (lnC S ((grC S x0 7).getD 0))) ∧ (iR S (grC S x0 7) 20) ∧ (vp_in x1 (lnC S ((grC S x0 7).getD 0))) ∧ True else (q_Y2_replaceMajority_14 S x0 x1 x2)))
def e_Y2_replaceMajority : List Cond := [.fieldLink RX2 15 "MotionFloor$House" "majorities" "[I"]
def v_Y2_replaceMajority : List Cond := .code yX2_replaceMajority cX2_replaceMajority 4 (some .int) :: (e_Y2_replaceMajority ++ (wsX20 ++ []))
theorem te_Y2_replaceMajority : GoodIn lw_tbl e_Y2_replaceMajority := wGc zc76 (wG0)
theorem t_Y2_replaceMajority : GoodIn lw_tbl v_Y2_replaceMajority := wGc zc230 (wGa te_Y2_replaceMajority (wGa zcX2 (wG0)))
set_option maxHeartbeats 4000000 in
set_option maxRecDepth 100000 in
theorem c_Y2_replaceMajority (l : Launch) (G : va_G) (K : Nat → ClassId) (ad : Nat → Nat) (S0 : Cst) (x0 : Nat) (a1 : Int32) (a2 : Int32) (sz : Nat) : Met l yX2_replaceMajority v_Y2_replaceMajority ({ frames := 0, cells := 0, slots := 0, locals := 0 }) (va_Pc [.ref (ad x0), .int a1, .int a2] (cSt G K ad sz S0 (iK S0 x0 1 ∧ p_Y2_replaceMajority S0 x0 a1 a2))) (va_Qi (fun (r : Int32) (u : Cst) => (r, u) = f_Y2_replaceMajority S0 x0 a1 a2 ∧ eK S0 u) (cBt G K ad (va_A (wsC K ad S0) sz)) (va_A (wsC K ad S0) sz)) 0 0 (va_A (wsC K ad S0) sz) := by
  refine Met.ofW (cc := cX2_replaceMajority) (maxL := 4) (ret := (some .int)) (by decide) rfl ?_
  intro p e s m args below meth c s₁ B hml hv
  obtain ⟨rfl, ⟨hsz, hP, hK, hD0, hTE⟩, hp⟩ := hv
  obtain ⟨k_x0, hp⟩ := hp
  have hx := B.exec
  have hb := B.bytes
  have hr := B.returns
  have hts := atoms_spec (ws := v_Y2_replaceMajority) B.pre
  have t_ := t_Y2_replaceMajority
  have mw : ∀ w ∈ e_Y2_replaceMajority, w ∈ v_Y2_replaceMajority := fun w h => List.mem_cons_of_mem _ (List.mem_append_left _ h)
  have hw := fun w (h : w ∈ e_Y2_replaceMajority) => hts w (mw w h)
  have iX2 : ∀ w ∈ wsX20, w ∈ v_Y2_replaceMajority := fun w h => List.mem_cons_of_mem _ (List.mem_append_right _ (List.mem_append_left _ h))
  have hown : s.vm.findClass RX2 = some m.cls := findClass_of_methodNamed B.named
  have hlocks := B.notSynchronized
  subst hsz
  have hD := hD0.self (sz := s.heap.size)
  generalize hAe : va_A (wsC K ad S0) s.heap.size = A at hD ⊢
  have hA : ∀ q : Nat, s.heap.size ≤ q → A q := fun q h => by rw [← hAe]; exact Or.inr h
  have hS : va_S A s.heap s.heap [] := va_S.rf
  have hl : lv_has (lg_sl ([.ref (ad x0), .int a1, .int a2]) ++ List.replicate (4 - (lg_sl ([.ref (ad x0), .int a1, .int a2])).length) Slot.unset).toArray 4 [(0, .ref (ad x0)), (1, .int a1), (2, .int a2)] := by
    exact lv_entry ([.ref (ad x0), .int a1, .int a2]) (n := 4) (Nat.le_of_ble_eq_true rfl)
  rw [lg_entry_eq]
  generalize (lg_sl ([.ref (ad x0), .int a1, .int a2]) ++ List.replicate (4 - (lg_sl ([.ref (ad x0), .int a1, .int a2])).length) Slot.unset).toArray = ls_ at hl ⊢
  refine wGen (fun Q hQ => ?_)
  obtain ⟨X, hX⟩ : ∃ X, f_Y2_replaceMajority S0 x0 a1 a2 = X := ⟨_, rfl⟩
  have B_Y2_replaceMajority_14 : ∀ (S : Cst) (x1 : Int32) (x2 : Int32) (H : Heap) (locs : List Loc) (ls_ : Array Slot), b_Y2_replaceMajority_14 S x0 x1 x2 = X → q_Y2_replaceMajority_14 S x0 x1 x2 → eK S0 S → va_P G vwCl (wsC K ad S) H → va_D A (wsC K ad S) → va_S A s.heap H locs → lv_has ls_ 4 [(0, .ref (ad x0)), (1, .int x1), (2, .int x2)] → W p l e ({ frames := 0, cells := 0, slots := 0, locals := 0 } : Room) s m #[Value.ref (ad x0), Value.int a1, Value.int a2] below meth c H locs 0 0 Q (F0 m 14 ls_ []) := by
    intro S x1 x2 H locs ls_ hE hp hZ hP hD hS hl
    unfold b_Y2_replaceMajority_14 at hE
    unfold q_Y2_replaceMajority_14 at hp
    refine lv_iconst (v := 0) hx hb dX2_replaceMajority_14 (by decide) ?_
    subst hQ
    exact W.iret (v := (0 : Int32)) hx hb hr (fun t ht hW => ⟨⟨(0 : Int32), S, rfl, ⟨hE.trans hX.symm, hZ⟩, by rw [ht]; exact hP, hD⟩, hS.F ht⟩) hS.2.2 dX2_replaceMajority_15
  have B_M : ∀ (S : Cst) (x1 : Int32) (x2 : Int32) (H : Heap) (locs : List Loc) (ls_ : Array Slot), f_Y2_replaceMajority S x0 x1 x2 = X → p_Y2_replaceMajority S x0 x1 x2 → eK S0 S → va_P G vwCl (wsC K ad S) H → va_D A (wsC K ad S) → va_S A s.heap H locs → lv_has ls_ 4 [(0, .ref (ad x0)), (1, .int x1), (2, .int x2)] → W p l e ({ frames := 0, cells := 0, slots := 0, locals := 0 } : Room) s m #[Value.ref (ad x0), Value.int a1, Value.int a2] below meth c H locs 0 0 Q (F0 m 0 ls_ []) := by
    intro S x1 x2 H locs ls_ hE hp hZ hP hD hS hl
    unfold f_Y2_replaceMajority at hE
    unfold p_Y2_replaceMajority at hp
    refine lv_iload_n hx hb dX2_replaceMajority_0 rfl (lv_at hl 1 rfl) ?_
    refine lv_iconst (v := 1) hx hb dX2_replaceMajority_1 (by decide) ?_
    refine lv_icmp_lt (tgt := 14) hx hb dX2_replaceMajority_2 (by decide) (fun c1 => ?_) (fun c1 => ?_)
    · rw [if_pos c1] at hE hp
      exact B_Y2_replaceMajority_14 S x1 x2 _ _ _ hE hp hZ hP hD hS (lv_sub hl [0, 1, 2] rfl)
    · rw [if_neg c1] at hE hp
      refine lv_iload_n hx hb dX2_replaceMajority_5 rfl (lv_at hl 1 rfl) ?_
      refine lv_aload_n hx hb dX2_replaceMajority_6 rfl (lv_at hl 0 rfl) ?_
      refine va_get (D := G) (ci := 1) (v := va_re ad (grC S x0 7)) (C := RX2) (T := TX2) (N := 8) hx hb hts iX2 hown hK hP x0 (at_1 (k_x0.e hZ)) rfl 7 (by decide) (hw (.fieldLink RX2 15 "MotionFloor$House" "majorities" "[I") (List.mem_of_getElem? (i := 0) rfl)) (fun _ h9 => h9) rfl dX2_replaceMajority_7 ?_
      obtain ⟨hy2, hp⟩ := hp
      refine cTop (r := (grC S x0 7)) hy2.1 ?_
      refine va_alen (v := (Int32.ofNat (lnC S ((grC S x0 7).getD 0)))) hx hb hK hP ((grC S x0 7).getD 0) 0 (at_20 hy2.2) rfl rfl dX2_replaceMajority_10 ?_
      refine lv_icmp_lt (tgt := 16) hx hb dX2_replaceMajority_11 (by decide) (fun c3 => ?_) (fun c3 => ?_)
      · rw [if_pos c3] at hE hp
        refine lv_aload_n hx hb dX2_replaceMajority_16 rfl (lv_at hl 0 rfl) ?_
        refine va_get (D := G) (ci := 1) (v := va_re ad (grC S x0 7)) (C := RX2) (T := TX2) (N := 8) hx hb hts iX2 hown hK hP x0 (at_1 (k_x0.e hZ)) rfl 7 (by decide) (hw (.fieldLink RX2 15 "MotionFloor$House" "majorities" "[I") (List.mem_of_getElem? (i := 0) rfl)) (fun _ h9 => h9) rfl dX2_replaceMajority_17 ?_
        refine lv_iload_n hx hb dX2_replaceMajority_20 rfl (lv_at hl 1 rfl) ?_
        obtain ⟨hy4, hp⟩ := hp
        refine cTop2 (r := (grC S x0 7)) hy4.1 ?_
        obtain ⟨hy5, hp⟩ := hp
        refine va_iald hx hb hK hP ((grC S x0 7).getD 0) 0 (at_20 hy4.2) rfl hy5 dX2_replaceMajority_21 ?_
        refine lv_istore_n (i := 3) (lv' := [(3, .int (giC S ((grC S x0 7).getD 0) x1.toNatClampNeg)), (0, .ref (ad x0)), (1, .int x1), (2, .int x2)]) hx hb dX2_replaceMajority_22 rfl hl (by decide) rfl (fun ls_ hl => ?_)
        refine lv_aload_n hx hb dX2_replaceMajority_23 rfl (lv_at hl 1 rfl) ?_
        refine va_get (D := G) (ci := 1) (v := va_re ad (grC S x0 7)) (C := RX2) (T := TX2) (N := 8) hx hb hts iX2 hown hK hP x0 (at_1 (k_x0.e hZ)) rfl 7 (by decide) (hw (.fieldLink RX2 15 "MotionFloor$House" "majorities" "[I") (List.mem_of_getElem? (i := 0) rfl)) (fun _ h9 => h9) rfl dX2_replaceMajority_24 ?_
        refine lv_iload_n hx hb dX2_replaceMajority_27 rfl (lv_at hl 2 rfl) ?_
        refine lv_iload_n hx hb dX2_replaceMajority_28 rfl (lv_at hl 3 rfl) ?_
        obtain ⟨hy6, hp⟩ := hp
        refine cTop3 (r := (grC S x0 7)) hy6.1 ?_
        obtain ⟨hy7, hp⟩ := hp
        refine va_iast hx hb hK hP hD hS ((grC S x0 7).getD 0) 0 (at_20 hy6.2) rfl hy7 dX2_replaceMajority_29 (fun H locs hP hD hS => ?_)
        rw [sa_20 hy6.2] at hP hD
        have hZ := hZ.tr (eK.si S ((grC S x0 7).getD 0) x1.toNatClampNeg x2)
        refine lv_iload_n hx hb dX2_replaceMajority_30 rfl (lv_at hl 0 rfl) ?_
        subst hQ
        exact W.iret (v := (giC S ((grC S x0 7).getD 0) x1.toNatClampNeg)) hx hb hr (fun t ht hW => ⟨⟨(giC S ((grC S x0 7).getD 0) x1.toNatClampNeg), (siC S ((grC S x0 7).getD 0) x1.toNatClampNeg x2), rfl, ⟨hE.trans hX.symm, hZ⟩, by rw [ht]; exact hP, hD⟩, hS.F ht⟩) hS.2.2 dX2_replaceMajority_31
      · rw [if_neg c3] at hE hp
        exact B_Y2_replaceMajority_14 S x1 x2 _ _ _ hE hp hZ hP hD hS (lv_sub hl [0, 1, 2] rfl)
  exact B_M S0 a1 a2 _ _ _ hX hp (eK.rf S0) hP hD hS hl
theorem gdX2_tally_0 : ckS (List.drop 0 cX2_tally.data.toList) 0 [(0, .iconst 0, 1), (1, .istore_n 3, 1), (2, .iconst 0, 1), (3, .istore 4, 2), (5, .iload 4, 2), (7, .aload_n 0, 1), (8, .getfield 19, 3), (11, .if_icmp .ge 31, 3), (14, .aload_n 0, 1), (15, .iload 4, 2), (17, .invokevirtual 57, 3), (20, .ifCond .eq 16, 3), (23, .aload_n 1, 1), (24, .iload 4, 2), (26, .invokevirtual 67, 3), (36, .iinc 4 1, 3), (39, .goto (-34), 3), (42, .iload_n 3, 1), (43, .ireturn, 1)] = true := by decide +kernel
theorem dX2_tally_0 : decode cX2_tally 0 = .ok (.iconst 0, 1) := ckS_g gdX2_tally_0 0 rfl
theorem dX2_tally_1 : decode cX2_tally 1 = .ok (.istore_n 3, 1) := ckS_g gdX2_tally_0 1 rfl
theorem dX2_tally_2 : decode cX2_tally 2 = .ok (.iconst 0, 1) := ckS_g gdX2_tally_0 2 rfl
theorem dX2_tally_3 : decode cX2_tally 3 = .ok (.istore 4, 2) := ckS_g gdX2_tally_0 3 rfl
theorem dX2_tally_5 : decode cX2_tally 5 = .ok (.iload 4, 2) := ckS_g gdX2_tally_0 4 rfl
theorem dX2_tally_7 : decode cX2_tally 7 = .ok (.aload_n 0, 1) := ckS_g gdX2_tally_0 5 rfl
theorem dX2_tally_8 : decode cX2_tally 8 = .ok (.getfield 19, 3) := ckS_g gdX2_tally_0 6 rfl
theorem dX2_tally_11 : decode cX2_tally 11 = .ok (.if_icmp .ge 31, 3) := ckS_g gdX2_tally_0 7 rfl
theorem dX2_tally_14 : decode cX2_tally 14 = .ok (.aload_n 0, 1) := ckS_g gdX2_tally_0 8 rfl
theorem dX2_tally_15 : decode cX2_tally 15 = .ok (.iload 4, 2) := ckS_g gdX2_tally_0 9 rfl
theorem dX2_tally_17 : decode cX2_tally 17 = .ok (.invokevirtual 57, 3) := ckS_g gdX2_tally_0 10 rfl
theorem dX2_tally_20 : decode cX2_tally 20 = .ok (.ifCond .eq 16, 3) := ckS_g gdX2_tally_0 11 rfl
theorem dX2_tally_23 : decode cX2_tally 23 = .ok (.aload_n 1, 1) := ckS_g gdX2_tally_0 12 rfl
theorem dX2_tally_24 : decode cX2_tally 24 = .ok (.iload 4, 2) := ckS_g gdX2_tally_0 13 rfl
theorem dX2_tally_26 : decode cX2_tally 26 = .ok (.invokevirtual 67, 3) := ckS_g gdX2_tally_0 14 rfl
theorem dX2_tally_36 : decode cX2_tally 36 = .ok (.iinc 4 1, 3) := ckS_g gdX2_tally_0 15 rfl
theorem dX2_tally_39 : decode cX2_tally 39 = .ok (.goto (-34), 3) := ckS_g gdX2_tally_0 16 rfl
theorem dX2_tally_42 : decode cX2_tally 42 = .ok (.iload_n 3, 1) := ckS_g gdX2_tally_0 17 rfl
theorem dX2_tally_43 : decode cX2_tally 43 = .ok (.ireturn, 1) := ckS_g gdX2_tally_0 18 rfl
theorem gdX4_voteOf_0 : ckS (List.drop 0 cX4_voteOf.data.toList) 0 [(0, .iload_n 1, 1), (1, .ifCond .lt 12, 3), (4, .iload_n 1, 1), (5, .aload_n 0, 1), (6, .getfield 18, 3), (9, .arraylength, 1), (10, .if_icmp .lt 7, 3), (13, .iconst (-1), 1), (14, .goto 11, 3), (17, .aload_n 0, 1), (18, .getfield 18, 3), (21, .iload_n 1, 1), (22, .baload, 1), (23, .iconst 1, 1), (24, .isub, 1), (25, .ireturn, 1)] = true := by decide +kernel
theorem dX4_voteOf_0 : decode cX4_voteOf 0 = .ok (.iload_n 1, 1) := ckS_g gdX4_voteOf_0 0 rfl
theorem dX4_voteOf_1 : decode cX4_voteOf 1 = .ok (.ifCond .lt 12, 3) := ckS_g gdX4_voteOf_0 1 rfl
theorem dX4_voteOf_4 : decode cX4_voteOf 4 = .ok (.iload_n 1, 1) := ckS_g gdX4_voteOf_0 2 rfl
theorem dX4_voteOf_5 : decode cX4_voteOf 5 = .ok (.aload_n 0, 1) := ckS_g gdX4_voteOf_0 3 rfl
theorem dX4_voteOf_6 : decode cX4_voteOf 6 = .ok (.getfield 18, 3) := ckS_g gdX4_voteOf_0 4 rfl
theorem dX4_voteOf_9 : decode cX4_voteOf 9 = .ok (.arraylength, 1) := ckS_g gdX4_voteOf_0 5 rfl
theorem dX4_voteOf_10 : decode cX4_voteOf 10 = .ok (.if_icmp .lt 7, 3) := ckS_g gdX4_voteOf_0 6 rfl
theorem dX4_voteOf_13 : decode cX4_voteOf 13 = .ok (.iconst (-1), 1) := ckS_g gdX4_voteOf_0 7 rfl
theorem dX4_voteOf_14 : decode cX4_voteOf 14 = .ok (.goto 11, 3) := ckS_g gdX4_voteOf_0 8 rfl
theorem dX4_voteOf_17 : decode cX4_voteOf 17 = .ok (.aload_n 0, 1) := ckS_g gdX4_voteOf_0 9 rfl
theorem dX4_voteOf_18 : decode cX4_voteOf 18 = .ok (.getfield 18, 3) := ckS_g gdX4_voteOf_0 10 rfl
theorem dX4_voteOf_21 : decode cX4_voteOf 21 = .ok (.iload_n 1, 1) := ckS_g gdX4_voteOf_0 11 rfl
theorem dX4_voteOf_22 : decode cX4_voteOf 22 = .ok (.baload, 1) := ckS_g gdX4_voteOf_0 12 rfl
theorem dX4_voteOf_23 : decode cX4_voteOf 23 = .ok (.iconst 1, 1) := ckS_g gdX4_voteOf_0 13 rfl
theorem dX4_voteOf_24 : decode cX4_voteOf 24 = .ok (.isub, 1) := ckS_g gdX4_voteOf_0 14 rfl
theorem dX4_voteOf_25 : decode cX4_voteOf 25 = .ok (.ireturn, 1) := ckS_g gdX4_voteOf_0 15 rfl
set_option maxRecDepth 100000 in
theorem zc231 : wZ (.fieldLink RX4 18 "MotionFloor$Motion" "votes" "[B") := ⟨wT3 (List.mem_of_getElem? (i := 59) (by decide +kernel)), Or.inl rfl⟩
set_option maxRecDepth 100000 in
theorem zc232 : wZ (.code yX4_voteOf cX4_voteOf 2 (some .int)) := ⟨wT3 (List.mem_of_getElem? (i := 174) rfl), Or.inl rfl⟩
def b_Y4_voteOf_25 (S : Cst) (x0 : Nat) (x1 : Int32) (y0 : Int32) : Int32 := y0
def q_Y4_voteOf_25 (S : Cst) (x0 : Nat) (x1 : Int32) (y0 : Int32) : Prop := True
def b_Y4_voteOf_13 (S : Cst) (x0 : Nat) (x1 : Int32) : Int32 := (b_Y4_voteOf_25 S x0 x1 (-1))
def q_Y4_voteOf_13 (S : Cst) (x0 : Nat) (x1 : Int32) : Prop := (q_Y4_voteOf_25 S x0 x1 (-1))
def f_Y4_voteOf (S : Cst) (x0 : Nat) (x1 : Int32) : Int32 := if x1 < 0 then (b_Y4_voteOf_13 S x0 x1) else if x1 < (Int32.ofNat (lnC S ((grC S x0 13).getD 0))) then (b_Y4_voteOf_25 S x0 x1 ((giC S ((grC S x0 13).getD 0) x1.toNatClampNeg) - 1)) else (b_Y4_voteOf_13 S x0 x1)
def p_Y4_voteOf (S : Cst) (x0 : Nat) (x1 : Int32) : Prop := (if x1 < 0 then (q_Y4_voteOf_13 S x0 x1) else (iR S (grC S x0 13) 22) ∧ (if x1 < (Int32.ofNat (lnC S ((grC S x0 13).getD 0))) then (iR S (grC S x0 13) 22) ∧ (vp_in x1 (lnC S ((grC S x0 13).getD 0))) ∧ (q_Y4_voteOf_25 S x0 x1 ((giC S ((grC S x0 13).getD 0) x1.toNatClampNeg) - 1)) else (q_Y4_voteOf_13 S x0 x1)))
def e_Y4_voteOf : List Cond := [.fieldLink RX4 18 "MotionFloor$Motion" "votes" "[B"]
def v_Y4_voteOf : List Cond := .code yX4_voteOf cX4_voteOf 2 (some .int) :: (e_Y4_voteOf ++ (wsX40 ++ []))
theorem te_Y4_voteOf : GoodIn lw_tbl e_Y4_voteOf := wGc zc231 (wG0)
theorem t_Y4_voteOf : GoodIn lw_tbl v_Y4_voteOf := wGc zc232 (wGa te_Y4_voteOf (wGa zcX4 (wG0)))
set_option maxHeartbeats 4000000 in
set_option maxRecDepth 100000 in
theorem c_Y4_voteOf (l : Launch) (G : va_G) (K : Nat → ClassId) (ad : Nat → Nat) (S : Cst) (x0 : Nat) (a1 : Int32) (sz : Nat) : Met l yX4_voteOf v_Y4_voteOf ({ frames := 0, cells := 0, slots := 0, locals := 0 }) (va_Pc [.ref (ad x0), .int a1] (cSt G K ad sz S (iK S x0 3 ∧ p_Y4_voteOf S x0 a1))) (va_Qi (fun (r : Int32) (u : Cst) => (r, u) = (f_Y4_voteOf S x0 a1, S)) (cBt G K ad (va_A (wsC K ad S) sz)) (va_A (wsC K ad S) sz)) 0 0 (va_A (wsC K ad S) sz) := by
  refine Met.ofW (cc := cX4_voteOf) (maxL := 2) (ret := (some .int)) (by decide) rfl ?_
  intro p e s m args below meth c s₁ B hml hv
  obtain ⟨rfl, ⟨hsz, hP, hK, hD0, hTE⟩, hp⟩ := hv
  obtain ⟨k_x0, hp⟩ := hp
  have hx := B.exec
  have hb := B.bytes
  have hr := B.returns
  have hts := atoms_spec (ws := v_Y4_voteOf) B.pre
  have t_ := t_Y4_voteOf
  have mw : ∀ w ∈ e_Y4_voteOf, w ∈ v_Y4_voteOf := fun w h => List.mem_cons_of_mem _ (List.mem_append_left _ h)
  have hw := fun w (h : w ∈ e_Y4_voteOf) => hts w (mw w h)
  have iX4 : ∀ w ∈ wsX40, w ∈ v_Y4_voteOf := fun w h => List.mem_cons_of_mem _ (List.mem_append_right _ (List.mem_append_left _ h))
  have hown : s.vm.findClass RX4 = some m.cls := findClass_of_methodNamed B.named
  have hlocks := B.notSynchronized
  subst hsz
  have hD := hD0.self (sz := s.heap.size)
  generalize hAe : va_A (wsC K ad S) s.heap.size = A at hD ⊢
  have hA : ∀ q : Nat, s.heap.size ≤ q → A q := fun q h => by rw [← hAe]; exact Or.inr h
  have hS : va_S A s.heap s.heap [] := va_S.rf
  have hl : lv_has (lg_sl ([.ref (ad x0), .int a1]) ++ List.replicate (2 - (lg_sl ([.ref (ad x0), .int a1])).length) Slot.unset).toArray 2 [(0, .ref (ad x0)), (1, .int a1)] := by
    exact lv_entry ([.ref (ad x0), .int a1]) (n := 2) (Nat.le_of_ble_eq_true rfl)
  rw [lg_entry_eq]
  generalize (lg_sl ([.ref (ad x0), .int a1]) ++ List.replicate (2 - (lg_sl ([.ref (ad x0), .int a1])).length) Slot.unset).toArray = ls_ at hl ⊢
  refine wGen (fun Q hQ => ?_)
  obtain ⟨X, hX⟩ : ∃ X, f_Y4_voteOf S x0 a1 = X := ⟨_, rfl⟩
  have B_Y4_voteOf_25 : ∀ (x1 : Int32) (y0 : Int32) (H : Heap) (locs : List Loc) (ls_ : Array Slot), b_Y4_voteOf_25 S x0 x1 y0 = X → q_Y4_voteOf_25 S x0 x1 y0 → va_P G vwCl (wsC K ad S) H → va_D A (wsC K ad S) → va_S A s.heap H locs → lv_has ls_ 2 [(0, .ref (ad x0)), (1, .int x1)] → W p l e ({ frames := 0, cells := 0, slots := 0, locals := 0 } : Room) s m #[Value.ref (ad x0), Value.int a1] below meth c H locs 0 0 Q (F0 m 25 ls_ [.int y0]) := by
    intro x1 y0 H locs ls_ hE hp hP hD hS hl
    unfold b_Y4_voteOf_25 at hE
    unfold q_Y4_voteOf_25 at hp
    subst hQ
    exact W.iret (v := y0) hx hb hr (fun t ht hW => ⟨⟨y0, S, rfl, (pair_i (hE.trans hX.symm)), by rw [ht]; exact hP, hD⟩, hS.F ht⟩) hS.2.2 dX4_voteOf_25
  have B_Y4_voteOf_13 : ∀ (x1 : Int32) (H : Heap) (locs : List Loc) (ls_ : Array Slot), b_Y4_voteOf_13 S x0 x1 = X → q_Y4_voteOf_13 S x0 x1 → va_P G vwCl (wsC K ad S) H → va_D A (wsC K ad S) → va_S A s.heap H locs → lv_has ls_ 2 [(0, .ref (ad x0)), (1, .int x1)] → W p l e ({ frames := 0, cells := 0, slots := 0, locals := 0 } : Room) s m #[Value.ref (ad x0), Value.int a1] below meth c H locs 0 0 Q (F0 m 13 ls_ []) := by
    intro x1 H locs ls_ hE hp hP hD hS hl
    unfold b_Y4_voteOf_13 at hE
    unfold q_Y4_voteOf_13 at hp
    refine lv_iconst (v := (-1)) hx hb dX4_voteOf_13 (by decide) ?_
    refine lv_goto (tgt := 25) hx hb dX4_voteOf_14 (by decide) ?_
    exact B_Y4_voteOf_25 x1 (-1) _ _ _ hE hp hP hD hS (lv_sub hl [0, 1] rfl)
  have B_M : ∀ (x1 : Int32) (H : Heap) (locs : List Loc) (ls_ : Array Slot), f_Y4_voteOf S x0 x1 = X → p_Y4_voteOf S x0 x1 → va_P G vwCl (wsC K ad S) H → va_D A (wsC K ad S) → va_S A s.heap H locs → lv_has ls_ 2 [(0, .ref (ad x0)), (1, .int x1)] → W p l e ({ frames := 0, cells := 0, slots := 0, locals := 0 } : Room) s m #[Value.ref (ad x0), Value.int a1] below meth c H locs 0 0 Q (F0 m 0 ls_ []) := by
    intro x1 H locs ls_ hE hp hP hD hS hl
    unfold f_Y4_voteOf at hE
    unfold p_Y4_voteOf at hp
    refine lv_iload_n hx hb dX4_voteOf_0 rfl (lv_at hl 1 rfl) ?_
    refine lv_if_lt (tgt := 13) hx hb dX4_voteOf_1 (by decide) (fun c1 => ?_) (fun c1 => ?_)
    · rw [if_pos c1] at hE hp
      exact B_Y4_voteOf_13 x1 _ _ _ hE hp hP hD hS (lv_sub hl [0, 1] rfl)
    · rw [if_neg c1] at hE hp
      refine lv_iload_n hx hb dX4_voteOf_4 rfl (lv_at hl 1 rfl) ?_
      refine lv_aload_n hx hb dX4_voteOf_5 rfl (lv_at hl 0 rfl) ?_
      refine va_get (D := G) (ci := 3) (v := va_re ad (grC S x0 13)) (C := RX4) (T := TX4) (N := 16) hx hb hts iX4 hown hK hP x0 (at_3 k_x0) rfl 13 (by decide) (hw (.fieldLink RX4 18 "MotionFloor$Motion" "votes" "[B") (List.mem_of_getElem? (i := 0) rfl)) (fun _ h9 => h9) rfl dX4_voteOf_6 ?_
      obtain ⟨hy2, hp⟩ := hp
      refine cTop (r := (grC S x0 13)) hy2.1 ?_
      refine va_alen (v := (Int32.ofNat (lnC S ((grC S x0 13).getD 0)))) hx hb hK hP ((grC S x0 13).getD 0) 2 (at_22 hy2.2) rfl rfl dX4_voteOf_9 ?_
      refine lv_icmp_lt (tgt := 17) hx hb dX4_voteOf_10 (by decide) (fun c3 => ?_) (fun c3 => ?_)
      · rw [if_pos c3] at hE hp
        refine lv_aload_n hx hb dX4_voteOf_17 rfl (lv_at hl 0 rfl) ?_
        refine va_get (D := G) (ci := 3) (v := va_re ad (grC S x0 13)) (C := RX4) (T := TX4) (N := 16) hx hb hts iX4 hown hK hP x0 (at_3 k_x0) rfl 13 (by decide) (hw (.fieldLink RX4 18 "MotionFloor$Motion" "votes" "[B") (List.mem_of_getElem? (i := 0) rfl)) (fun _ h9 => h9) rfl dX4_voteOf_18 ?_
        refine lv_iload_n hx hb dX4_voteOf_21 rfl (lv_at hl 1 rfl) ?_
        obtain ⟨hy4, hp⟩ := hp
        refine cTop2 (r := (grC S x0 13)) hy4.1 ?_
        obtain ⟨hy5, hp⟩ := hp
        refine va_bald hx hb hK hP ((grC S x0 13).getD 0) 2 (at_22 hy4.2) rfl hy5 dX4_voteOf_22 ?_
        refine lv_iconst (v := 1) hx hb dX4_voteOf_23 (by decide) ?_
        refine lv_isub hx hb dX4_voteOf_24 ?_
        exact B_Y4_voteOf_25 x1 ((giC S ((grC S x0 13).getD 0) x1.toNatClampNeg) - 1) _ _ _ hE hp hP hD hS (lv_sub hl [0, 1] rfl)
      · rw [if_neg c3] at hE hp
        exact B_Y4_voteOf_13 x1 _ _ _ hE hp hP hD hS (lv_sub hl [0, 1] rfl)
  exact B_M a1 _ _ _ hX hp hP hD hS hl
theorem gdX2_tally_29 : ckS (List.drop 29 cX2_tally.data.toList) 29 [(29, .iload_n 2, 1), (30, .if_icmp .ne 6, 3), (33, .iinc 3 1, 3)] = true := by decide +kernel
theorem dX2_tally_29 : decode cX2_tally 29 = .ok (.iload_n 2, 1) := ckS_g gdX2_tally_29 0 rfl
theorem dX2_tally_30 : decode cX2_tally 30 = .ok (.if_icmp .ne 6, 3) := ckS_g gdX2_tally_29 1 rfl
theorem dX2_tally_33 : decode cX2_tally 33 = .ok (.iinc 3 1, 3) := ckS_g gdX2_tally_29 2 rfl
set_option maxRecDepth 100000 in
theorem zc233 : wZ (.selects RX4 yX4_voteOf yX4_voteOf) := ⟨wT3 (List.mem_of_getElem? (i := 173) (by decide +kernel)), Or.inl rfl⟩
set_option maxRecDepth 100000 in
theorem zc234 : wZ (.instanceMethod yX4_voteOf) := ⟨wT3 (List.mem_of_getElem? (i := 172) (by decide +kernel)), Or.inl rfl⟩
set_option maxRecDepth 100000 in
theorem zc235 : wZ (.methodLink RX2 67 yX4_voteOf) := ⟨wT3 (List.mem_of_getElem? (i := 171) (by decide +kernel)), Or.inl rfl⟩
set_option maxRecDepth 100000 in
theorem zc236 : wZ (.code yX2_tally cX2_tally 5 (some .int)) := ⟨wT3 (List.mem_of_getElem? (i := 170) rfl), Or.inl rfl⟩
def b_Y2_tally_36 (S : Cst) (x0 : Nat) (x1 : Option Nat) (x2 : Int32) (x3 : Int32) (x4 : Int32) : (Int32) ⊕ ((Option Nat) × Int32 × Int32 × Int32) := Sum.inr (x1, x2, x3, (x4 + 1))
def q_Y2_tally_36 (S : Cst) (x0 : Nat) (x1 : Option Nat) (x2 : Int32) (x3 : Int32) (x4 : Int32) : Prop := True
def st_Y2_tally_5 (S : Cst) (x0 : Nat) (x1 : Option Nat) (x2 : Int32) (x3 : Int32) (x4 : Int32) : (Int32) ⊕ ((Option Nat) × Int32 × Int32 × Int32) := if (giC S x0 0) ≤ x4 then Sum.inl (x3) else if (f_Y2_isThere S x0 x4) = 0 then (b_Y2_tally_36 S x0 x1 x2 x3 x4) else if (f_Y4_voteOf S (x1.getD 0) x4) = x2 then (b_Y2_tally_36 S x0 x1 x2 (x3 + 1) x4) else (b_Y2_tally_36 S x0 x1 x2 x3 x4)
def ps_Y2_tally_5 (S : Cst) (x0 : Nat) (x1 : Option Nat) (x2 : Int32) (x3 : Int32) (x4 : Int32) : Prop := (if (giC S x0 0) ≤ x4 then True else (p_Y2_isThere S x0 x4) ∧ (if (f_Y2_isThere S x0 x4) = 0 then (q_Y2_tally_36 S x0 x1 x2 x3 x4) else (iR S x1 3) ∧ (p_Y4_voteOf S (x1.getD 0) x4) ∧ (if (f_Y4_voteOf S (x1.getD 0) x4) = x2 then (q_Y2_tally_36 S x0 x1 x2 (x3 + 1) x4) else (q_Y2_tally_36 S x0 x1 x2 x3 x4))))
def lp_Y2_tally_5 (S : Cst) (x0 : Nat) : Nat → (Option Nat) → Int32 → Int32 → Int32 → Int32
  | 0, _, _, _, _ => 0
  | n + 1, x1, x2, x3, x4 => match st_Y2_tally_5 S x0 x1 x2 x3 x4 with
    | Sum.inl r => r
    | Sum.inr q => lp_Y2_tally_5 S x0 n q.1 q.2.1 q.2.2.1 q.2.2.2
def lq_Y2_tally_5 (S : Cst) (x0 : Nat) : Nat → (Option Nat) → Int32 → Int32 → Int32 → Prop
  | 0, _, _, _, _ => False
  | n + 1, x1, x2, x3, x4 => ps_Y2_tally_5 S x0 x1 x2 x3 x4 ∧ (match st_Y2_tally_5 S x0 x1 x2 x3 x4 with
    | Sum.inl _ => True
    | Sum.inr q => lq_Y2_tally_5 S x0 n q.1 q.2.1 q.2.2.1 q.2.2.2)
def f_Y2_tally (S : Cst) (x0 : Nat) (x1 : Option Nat) (x2 : Int32) : Int32 := (lp_Y2_tally_5 S x0 100000 x1 x2 0 0)
def p_Y2_tally (S : Cst) (x0 : Nat) (x1 : Option Nat) (x2 : Int32) : Prop := (lq_Y2_tally_5 S x0 100000 x1 x2 0 0)
def e_Y2_tally : List Cond := [.fieldLink RX2 19 "MotionFloor$House" "seats" "I", .methodLink RX2 57 yX2_isThere, .instanceMethod yX2_isThere, .selects RX2 yX2_isThere yX2_isThere, .initialized RX2, .methodLink RX2 67 yX4_voteOf, .instanceMethod yX4_voteOf, .selects RX4 yX4_voteOf yX4_voteOf, .initialized RX4]
def v_Y2_tally : List Cond := .code yX2_tally cX2_tally 5 (some .int) :: (e_Y2_tally ++ (wsX20 ++ (v_Y2_isThere ++ (v_Y4_voteOf ++ []))))
theorem te_Y2_tally : GoodIn lw_tbl e_Y2_tally := wGc zc84 (wGc zc227 (wGc zc226 (wGc zc225 (wGc zc77 (wGc zc235 (wGc zc234 (wGc zc233 (wGc zc170 (wG0)))))))))
theorem t_Y2_tally : GoodIn lw_tbl v_Y2_tally := wGc zc236 (wGa te_Y2_tally (wGa zcX2 (wGa t_Y2_isThere (wGa t_Y4_voteOf (wG0)))))
set_option maxHeartbeats 4000000 in
set_option maxRecDepth 100000 in
theorem c_Y2_tally (l : Launch) (G : va_G) (K : Nat → ClassId) (ad : Nat → Nat) (S : Cst) (x0 : Nat) (a1 : Option Nat) (a2 : Int32) (sz : Nat) : Met l yX2_tally v_Y2_tally ({ frames := 1, cells := 0, slots := 0, locals := 21 }) (va_Pc [.ref (ad x0), va_re ad a1, .int a2] (cSt G K ad sz S (iK S x0 1 ∧ p_Y2_tally S x0 a1 a2))) (va_Qi (fun (r : Int32) (u : Cst) => (r, u) = (f_Y2_tally S x0 a1 a2, S)) (cBt G K ad (va_A (wsC K ad S) sz)) (va_A (wsC K ad S) sz)) 0 0 (va_A (wsC K ad S) sz) := by
  refine Met.ofW (cc := cX2_tally) (maxL := 5) (ret := (some .int)) (by decide) rfl ?_
  intro p e s m args below meth c s₁ B hml hv
  obtain ⟨rfl, ⟨hsz, hP, hK, hD0, hTE⟩, hp⟩ := hv
  obtain ⟨k_x0, hp⟩ := hp
  have hx := B.exec
  have hb := B.bytes
  have hr := B.returns
  have hts := atoms_spec (ws := v_Y2_tally) B.pre
  have t_ := t_Y2_tally
  have mw : ∀ w ∈ e_Y2_tally, w ∈ v_Y2_tally := fun w h => List.mem_cons_of_mem _ (List.mem_append_left _ h)
  have hw := fun w (h : w ∈ e_Y2_tally) => hts w (mw w h)
  have iX2 : ∀ w ∈ wsX20, w ∈ v_Y2_tally := fun w h => List.mem_cons_of_mem _ (List.mem_append_right _ (List.mem_append_left _ h))
  have j_Y2_isThere : ∀ w ∈ v_Y2_isThere, w ∈ v_Y2_tally := fun w h => List.mem_cons_of_mem _ (List.mem_append_right _ (List.mem_append_right _ (List.mem_append_left _ h)))
  have j_Y4_voteOf : ∀ w ∈ v_Y4_voteOf, w ∈ v_Y2_tally := fun w h => List.mem_cons_of_mem _ (List.mem_append_right _ (List.mem_append_right _ (List.mem_append_right _ (List.mem_append_left _ h))))
  have hown : s.vm.findClass RX2 = some m.cls := findClass_of_methodNamed B.named
  have hlocks := B.notSynchronized
  subst hsz
  have hD := hD0.self (sz := s.heap.size)
  generalize hAe : va_A (wsC K ad S) s.heap.size = A at hD ⊢
  have hA : ∀ q : Nat, s.heap.size ≤ q → A q := fun q h => by rw [← hAe]; exact Or.inr h
  have hS : va_S A s.heap s.heap [] := va_S.rf
  have hl : lv_has (lg_sl ([.ref (ad x0), va_re ad a1, .int a2]) ++ List.replicate (5 - (lg_sl ([.ref (ad x0), va_re ad a1, .int a2])).length) Slot.unset).toArray 5 [(0, .ref (ad x0)), (1, va_re ad a1), (2, .int a2)] := by
    cases a1 <;> exact lv_entry _ (n := 5) (Nat.le_of_ble_eq_true rfl)
  rw [lg_entry_eq]
  generalize (lg_sl ([.ref (ad x0), va_re ad a1, .int a2]) ++ List.replicate (5 - (lg_sl ([.ref (ad x0), va_re ad a1, .int a2])).length) Slot.unset).toArray = ls_ at hl ⊢
  refine wGen (fun Q hQ => ?_)
  obtain ⟨X, hX⟩ : ∃ X, f_Y2_tally S x0 a1 a2 = X := ⟨_, rfl⟩
  have L_5 : ∀ (n : Nat) (x1 : Option Nat) (x2 : Int32) (x3 : Int32) (x4 : Int32) (H : Heap) (locs : List Loc) (ls_ : Array Slot), lp_Y2_tally_5 S x0 n x1 x2 x3 x4 = X → lq_Y2_tally_5 S x0 n x1 x2 x3 x4 → va_P G vwCl (wsC K ad S) H → va_D A (wsC K ad S) → va_S A s.heap H locs → lv_has ls_ 5 [(0, .ref (ad x0)), (1, va_re ad x1), (2, .int x2), (3, .int x3), (4, .int x4)] → W p l e ({ frames := 1, cells := 0, slots := 0, locals := 21 } : Room) s m #[Value.ref (ad x0), va_re ad a1, Value.int a2] below meth c H locs 0 0 Q (F0 m 5 ls_ []) := by
    intro n1
    induction n1 with
    | zero => intro x1 x2 x3 x4 H locs ls_ hE hp; exact False.elim hp
    | succ n1 ih1 =>
      intro x1 x2 x3 x4 H locs ls_ hO1 hp hP hD hS hl
      rw [lp_Y2_tally_5] at hO1
      rw [lq_Y2_tally_5] at hp
      obtain ⟨hp, hq1⟩ := hp
      generalize hE : st_Y2_tally_5 S x0 x1 x2 x3 x4 = Y1 at hO1 hq1
      unfold st_Y2_tally_5 at hE
      unfold ps_Y2_tally_5 at hp
      have B_Y2_tally_36 : ∀ (x1 : Option Nat) (x2 : Int32) (x3 : Int32) (x4 : Int32) (H : Heap) (locs : List Loc) (ls_ : Array Slot), b_Y2_tally_36 S x0 x1 x2 x3 x4 = Y1 → q_Y2_tally_36 S x0 x1 x2 x3 x4 → va_P G vwCl (wsC K ad S) H → va_D A (wsC K ad S) → va_S A s.heap H locs → lv_has ls_ 5 [(0, .ref (ad x0)), (1, va_re ad x1), (2, .int x2), (3, .int x3), (4, .int x4)] → W p l e ({ frames := 1, cells := 0, slots := 0, locals := 21 } : Room) s m #[Value.ref (ad x0), va_re ad a1, Value.int a2] below meth c H locs 0 0 Q (F0 m 36 ls_ []) := by
        intro x1 x2 x3 x4 H locs ls_ hE hp hP hD hS hl
        unfold b_Y2_tally_36 at hE
        unfold q_Y2_tally_36 at hp
        refine lv_iinc (i := 4) (v := (x4 + 1)) (lv' := [(4, .int (x4 + 1)), (0, .ref (ad x0)), (1, va_re ad x1), (2, .int x2), (3, .int x3)]) hx hb dX2_tally_36 hl (k := 4) rfl rfl (by decide) rfl (fun ls_ hl => ?_)
        refine lv_goto (tgt := 5) hx hb dX2_tally_39 (by decide) ?_
        subst hE
        dsimp only at hO1 hq1
        exact ih1 x1 x2 x3 (x4 + 1) _ _ _ hO1 hq1 hP hD hS (lv_sub hl [1, 2, 3, 4, 0] rfl)
      refine lv_iload hx hb dX2_tally_5 (lv_at hl 4 rfl) ?_
      refine lv_aload_n hx hb dX2_tally_7 rfl (lv_at hl 0 rfl) ?_
      refine va_get (D := G) (ci := 1) (v := .int (giC S x0 0)) (C := RX2) (T := TX2) (N := 8) hx hb hts iX2 hown hK hP x0 (at_1 k_x0) rfl 0 (by decide) (hw (.fieldLink RX2 19 "MotionFloor$House" "seats" "I") (List.mem_of_getElem? (i := 0) rfl)) (fun _ h9 => h9) rfl dX2_tally_8 ?_
      refine lv_icmp_ge (tgt := 42) hx hb dX2_tally_11 (by decide) (fun c1 => ?_) (fun c1 => ?_)
      · rw [if_pos c1] at hE hp
        subst hE
        have hE := hO1
        dsimp only at hE
        refine lv_iload_n hx hb dX2_tally_42 rfl (lv_at hl 3 rfl) ?_
        subst hQ
        exact W.iret (v := x3) hx hb hr (fun t ht hW => ⟨⟨x3, S, rfl, (pair_i (hE.trans hX.symm)), by rw [ht]; exact hP, hD⟩, hS.F ht⟩) hS.2.2 dX2_tally_43
      · rw [if_neg c1] at hE hp
        refine lv_aload_n hx hb dX2_tally_14 rfl (lv_at hl 0 rfl) ?_
        refine lv_iload hx hb dX2_tally_15 (lv_at hl 4 rfl) ?_
        obtain ⟨hy2, hp⟩ := hp
        refine cGoi (va_runV (As := [.int x4]) (rest := []) ⟨hx, hb, hml, hown, hts⟩ (c_Y2_isThere l G K ad S x0 x4 _) (cwV 1 hts (wGV t_ (mw (.methodLink RX2 57 yX2_isThere) (List.mem_of_getElem? (i := 1) rfl)) (mw (.instanceMethod yX2_isThere) (List.mem_of_getElem? (i := 2) rfl)) (mw (.selects RX2 yX2_isThere yX2_isThere) (List.mem_of_getElem? (i := 3) rfl)) (mw (.initialized RX2) (List.mem_of_getElem? (i := 4) rfl)) j_Y2_isThere) rfl rfl rfl (by decide +kernel) ⟨Nat.le_of_ble_eq_true rfl, Nat.le_of_ble_eq_true rfl⟩) (cPV hK hTE hP hD 1 rfl (at_1 k_x0) ⟨k_x0, hy2⟩) rfl rfl hl.1 rfl (lv_room (Nat.le_of_ble_eq_true rfl)) dX2_tally_17 ⟨Nat.le_of_ble_eq_true rfl, Nat.le_of_ble_eq_true rfl⟩) hP hD hS hA (fun r4 u3 H locs hv hP hD hS => ?_)
        have h1 := congrArg Prod.fst hv
        have h2 := (congrArg Prod.snd hv).symm
        dsimp only at h1 h2
        subst h1
        subst h2
        refine lv_if_eq (tgt := 36) hx hb dX2_tally_20 (by decide) (fun c5 => ?_) (fun c5 => ?_)
        · rw [if_pos c5] at hE hp
          exact B_Y2_tally_36 x1 x2 x3 x4 _ _ _ hE hp hP hD hS (lv_sub hl [0, 1, 2, 3, 4] rfl)
        · rw [if_neg c5] at hE hp
          refine cAload_n (ad := ad) (r := x1) hx hb dX2_tally_23 rfl (lv_at hl 1 rfl) ?_
          refine lv_iload hx hb dX2_tally_24 (lv_at hl 4 rfl) ?_
          obtain ⟨hy6, hp⟩ := hp
          refine cTop2 (r := x1) hy6.1 ?_
          obtain ⟨hy7, hp⟩ := hp
          refine cGoi (va_runV (As := [.int x4]) (rest := []) ⟨hx, hb, hml, hown, hts⟩ (c_Y4_voteOf l G K ad S (x1.getD 0) x4 _) (cwV 1 hts (wGV t_ (mw (.methodLink RX2 67 yX4_voteOf) (List.mem_of_getElem? (i := 5) rfl)) (mw (.instanceMethod yX4_voteOf) (List.mem_of_getElem? (i := 6) rfl)) (mw (.selects RX4 yX4_voteOf yX4_voteOf) (List.mem_of_getElem? (i := 7) rfl)) (mw (.initialized RX4) (List.mem_of_getElem? (i := 8) rfl)) j_Y4_voteOf) rfl rfl rfl (by decide +kernel) ⟨Nat.le_of_ble_eq_true rfl, Nat.le_of_ble_eq_true rfl⟩) (cPV hK hTE hP hD 3 rfl (at_3 hy6.2) ⟨hy6.2, hy7⟩) rfl rfl hl.1 rfl (lv_room (Nat.le_of_ble_eq_true rfl)) dX2_tally_26 ⟨Nat.le_of_ble_eq_true rfl, Nat.le_of_ble_eq_true rfl⟩) hP hD hS hA (fun r9 u8 H locs hv hP hD hS => ?_)
          have h1 := congrArg Prod.fst hv
          have h2 := (congrArg Prod.snd hv).symm
          dsimp only at h1 h2
          subst h1
          subst h2
          refine lv_iload_n hx hb dX2_tally_29 rfl (lv_at hl 2 rfl) ?_
          refine lv_icmp_ne (tgt := 36) hx hb dX2_tally_30 (by decide) (fun c10 => ?_) (fun c10 => ?_)
          · rw [if_neg c10] at hE hp
            exact B_Y2_tally_36 x1 x2 x3 x4 _ _ _ hE hp hP hD hS (lv_sub hl [0, 1, 2, 3, 4] rfl)
          · rw [if_pos c10] at hE hp
            refine lv_iinc (i := 3) (v := (x3 + 1)) (lv' := [(3, .int (x3 + 1)), (0, .ref (ad x0)), (1, va_re ad x1), (2, .int x2), (4, .int x4)]) hx hb dX2_tally_33 hl (k := 3) rfl rfl (by decide) rfl (fun ls_ hl => ?_)
            exact B_Y2_tally_36 x1 x2 (x3 + 1) x4 _ _ _ hE hp hP hD hS (lv_sub hl [1, 2, 3, 0, 4] rfl)
  have B_M : ∀ (x1 : Option Nat) (x2 : Int32) (H : Heap) (locs : List Loc) (ls_ : Array Slot), f_Y2_tally S x0 x1 x2 = X → p_Y2_tally S x0 x1 x2 → va_P G vwCl (wsC K ad S) H → va_D A (wsC K ad S) → va_S A s.heap H locs → lv_has ls_ 5 [(0, .ref (ad x0)), (1, va_re ad x1), (2, .int x2)] → W p l e ({ frames := 1, cells := 0, slots := 0, locals := 21 } : Room) s m #[Value.ref (ad x0), va_re ad a1, Value.int a2] below meth c H locs 0 0 Q (F0 m 0 ls_ []) := by
    intro x1 x2 H locs ls_ hE hp hP hD hS hl
    unfold f_Y2_tally at hE
    unfold p_Y2_tally at hp
    refine lv_iconst (v := 0) hx hb dX2_tally_0 (by decide) ?_
    refine lv_istore_n (i := 3) (lv' := [(3, .int 0), (0, .ref (ad x0)), (1, va_re ad x1), (2, .int x2)]) hx hb dX2_tally_1 rfl hl (by decide) rfl (fun ls_ hl => ?_)
    refine lv_iconst (v := 0) hx hb dX2_tally_2 (by decide) ?_
    refine lv_istore (i := 4) (lv' := [(4, .int 0), (3, .int 0), (0, .ref (ad x0)), (1, va_re ad x1), (2, .int x2)]) hx hb dX2_tally_3 hl (by decide) rfl (fun ls_ hl => ?_)
    exact L_5 100000 x1 x2 0 0 _ _ _ hE hp hP hD hS (lv_sub hl [2, 3, 4, 1, 0] rfl)
  exact B_M a1 a2 _ _ _ hX hp hP hD hS hl
set_option maxRecDepth 100000 in
theorem zc237 : wZ (.code yX2_isMajority cX2_isMajority 5 (some .boolean)) := ⟨wT3 (List.mem_of_getElem? (i := 181) rfl), Or.inl rfl⟩
def b_Y2_isMajority_85 (S : Cst) (x0 : Nat) (x1 : Int32) (x2 : Int32) (x3 : Int32) (x4 : Int32) (y0 : Int32) : Int32 := y0
def q_Y2_isMajority_85 (S : Cst) (x0 : Nat) (x1 : Int32) (x2 : Int32) (x3 : Int32) (x4 : Int32) (y0 : Int32) : Prop := (narrow .boolean (.int y0) = .int y0) ∧ True
def b_Y2_isMajority_69 (S : Cst) (x0 : Nat) (x1 : Int32) (x2 : Int32) (x3 : Int32) (x4 : Int32) (y0 : Int32) : Int32 := y0
def q_Y2_isMajority_69 (S : Cst) (x0 : Nat) (x1 : Int32) (x2 : Int32) (x3 : Int32) (x4 : Int32) (y0 : Int32) : Prop := (narrow .boolean (.int y0) = .int y0) ∧ True
def b_Y2_isMajority_68 (S : Cst) (x0 : Nat) (x1 : Int32) (x2 : Int32) (x3 : Int32) (x4 : Int32) : Int32 := (b_Y2_isMajority_69 S x0 x1 x2 x3 x4 0)
def q_Y2_isMajority_68 (S : Cst) (x0 : Nat) (x1 : Int32) (x2 : Int32) (x3 : Int32) (x4 : Int32) : Prop := (q_Y2_isMajority_69 S x0 x1 x2 x3 x4 0)
def b_Y2_isMajority_42 (S : Cst) (x0 : Nat) (x1 : Int32) (x2 : Int32) (x3 : Int32) (x4 : Int32) (y0 : Int32) : Int32 := y0
def q_Y2_isMajority_42 (S : Cst) (x0 : Nat) (x1 : Int32) (x2 : Int32) (x3 : Int32) (x4 : Int32) (y0 : Int32) : Prop := (narrow .boolean (.int y0) = .int y0) ∧ True
def b_Y2_isMajority_24 (S : Cst) (x0 : Nat) (x1 : Int32) (x2 : Int32) (x3 : Int32) (y0 : Int32) : Int32 := if y0 = 1 then if x2 ≤ x3 then (b_Y2_isMajority_42 S x0 x1 x2 x3 y0 0) else (b_Y2_isMajority_42 S x0 x1 x2 x3 y0 1) else if y0 = 2 then if x2 ≤ 0 then (b_Y2_isMajority_68 S x0 x1 x2 x3 y0) else if (3 * x2) < (2 * (x2 + x3)) then (b_Y2_isMajority_68 S x0 x1 x2 x3 y0) else (b_Y2_isMajority_69 S x0 x1 x2 x3 y0 1) else if (2 * x2) ≤ (giC S x0 0) then (b_Y2_isMajority_85 S x0 x1 x2 x3 y0 0) else (b_Y2_isMajority_85 S x0 x1 x2 x3 y0 1)
def q_Y2_isMajority_24 (S : Cst) (x0 : Nat) (x1 : Int32) (x2 : Int32) (x3 : Int32) (y0 : Int32) : Prop := (if y0 = 1 then (if x2 ≤ x3 then (q_Y2_isMajority_42 S x0 x1 x2 x3 y0 0) else (q_Y2_isMajority_42 S x0 x1 x2 x3 y0 1)) else (if y0 = 2 then (if x2 ≤ 0 then (q_Y2_isMajority_68 S x0 x1 x2 x3 y0) else (if (3 * x2) < (2 * (x2 + x3)) then (q_Y2_isMajority_68 S x0 x1 x2 x3 y0) else (q_Y2_isMajority_69 S x0 x1 x2 x3 y0 1))) else (if (2 * x2) ≤ (giC S x0 0) then (q_Y2_isMajority_85 S x0 x1 x2 x3 y0 0) else (q_Y2_isMajority_85 S x0 x1 x2 x3 y0 1))))
def b_Y2_isMajority_14 (S : Cst) (x0 : Nat) (x1 : Int32) (x2 : Int32) (x3 : Int32) : Int32 := (b_Y2_isMajority_24 S x0 x1 x2 x3 1)
def q_Y2_isMajority_14 (S : Cst) (x0 : Nat) (x1 : Int32) (x2 : Int32) (x3 : Int32) : Prop := (q_Y2_isMajority_24 S x0 x1 x2 x3 1)
def f_Y2_isMajority (S : Cst) (x0 : Nat) (x1 : Int32) (x2 : Int32) (x3 : Int32) : Int32 := if x1 < 1 then (b_Y2_isMajority_14 S x0 x1 x2 x3) else if x1 < (Int32.ofNat (lnC S ((grC S x0 7).getD 0))) then (b_Y2_isMajority_24 S x0 x1 x2 x3 (giC S ((grC S x0 7).getD 0) x1.toNatClampNeg)) else (b_Y2_isMajority_14 S x0 x1 x2 x3)
def p_Y2_isMajority (S : Cst) (x0 : Nat) (x1 : Int32) (x2 : Int32) (x3 : Int32) : Prop := (if x1 < 1 then (q_Y2_isMajority_14 S x0 x1 x2 x3) else (iR S (grC S x0 7) 20) ∧ (if x1 < (Int32.ofNat (lnC S ((grC S x0 7).getD 0))) then (iR S (grC S x0 7) 20) ∧ (vp_in x1 (lnC S ((grC S x0 7).getD 0))) ∧ (q_Y2_isMajority_24 S x0 x1 x2 x3 (giC S ((grC S x0 7).getD 0) x1.toNatClampNeg)) else (q_Y2_isMajority_14 S x0 x1 x2 x3)))
def e_Y2_isMajority : List Cond := [.fieldLink RX2 19 "MotionFloor$House" "seats" "I", .fieldLink RX2 15 "MotionFloor$House" "majorities" "[I"]
def v_Y2_isMajority : List Cond := .code yX2_isMajority cX2_isMajority 5 (some .boolean) :: (e_Y2_isMajority ++ (wsX20 ++ []))
theorem te_Y2_isMajority : GoodIn lw_tbl e_Y2_isMajority := wGc zc84 (wGc zc76 (wG0))
theorem t_Y2_isMajority : GoodIn lw_tbl v_Y2_isMajority := wGc zc237 (wGa te_Y2_isMajority (wGa zcX2 (wG0)))
set_option maxHeartbeats 4000000 in
set_option maxRecDepth 100000 in
theorem c_Y2_isMajority (l : Launch) (G : va_G) (K : Nat → ClassId) (ad : Nat → Nat) (S : Cst) (x0 : Nat) (a1 : Int32) (a2 : Int32) (a3 : Int32) (sz : Nat) : Met l yX2_isMajority v_Y2_isMajority ({ frames := 0, cells := 0, slots := 0, locals := 0 }) (va_Pc [.ref (ad x0), .int a1, .int a2, .int a3] (cSt G K ad sz S (iK S x0 1 ∧ p_Y2_isMajority S x0 a1 a2 a3))) (va_Qi (fun (r : Int32) (u : Cst) => (r, u) = (f_Y2_isMajority S x0 a1 a2 a3, S)) (cBt G K ad (va_A (wsC K ad S) sz)) (va_A (wsC K ad S) sz)) 0 0 (va_A (wsC K ad S) sz) := by
  refine Met.ofW (cc := cX2_isMajority) (maxL := 5) (ret := (some .boolean)) (by decide) rfl ?_
  intro p e s m args below meth c s₁ B hml hv
  obtain ⟨rfl, ⟨hsz, hP, hK, hD0, hTE⟩, hp⟩ := hv
  obtain ⟨k_x0, hp⟩ := hp
  have hx := B.exec
  have hb := B.bytes
  have hr := B.returns
  have hts := atoms_spec (ws := v_Y2_isMajority) B.pre
  have t_ := t_Y2_isMajority
  have mw : ∀ w ∈ e_Y2_isMajority, w ∈ v_Y2_isMajority := fun w h => List.mem_cons_of_mem _ (List.mem_append_left _ h)
  have hw := fun w (h : w ∈ e_Y2_isMajority) => hts w (mw w h)
  have iX2 : ∀ w ∈ wsX20, w ∈ v_Y2_isMajority := fun w h => List.mem_cons_of_mem _ (List.mem_append_right _ (List.mem_append_left _ h))
  have hown : s.vm.findClass RX2 = some m.cls := findClass_of_methodNamed B.named
  have hlocks := B.notSynchronized
  subst hsz
  have hD := hD0.self (sz := s.heap.size)
  generalize hAe : va_A (wsC K ad S) s.heap.size = A at hD ⊢
  have hA : ∀ q : Nat, s.heap.size ≤ q → A q := fun q h => by rw [← hAe]; exact Or.inr h
  have hS : va_S A s.heap s.heap [] := va_S.rf
  have hl : lv_has (lg_sl ([.ref (ad x0), .int a1, .int a2, .int a3]) ++ List.replicate (5 - (lg_sl ([.ref (ad x0), .int a1, .int a2, .int a3])).length) Slot.unset).toArray 5 [(0, .ref (ad x0)), (1, .int a1), (2, .int a2), (3, .int a3)] := by
    exact lv_entry ([.ref (ad x0), .int a1, .int a2, .int a3]) (n := 5) (Nat.le_of_ble_eq_true rfl)
  rw [lg_entry_eq]
  generalize (lg_sl ([.ref (ad x0), .int a1, .int a2, .int a3]) ++ List.replicate (5 - (lg_sl ([.ref (ad x0), .int a1, .int a2, .int a3])).length) Slot.unset).toArray = ls_ at hl ⊢
  refine wGen (fun Q hQ => ?_)
  obtain ⟨X, hX⟩ : ∃ X, f_Y2_isMajority S x0 a1 a2 a3 = X := ⟨_, rfl⟩
  have B_Y2_isMajority_85 : ∀ (x1 : Int32) (x2 : Int32) (x3 : Int32) (x4 : Int32) (y0 : Int32) (H : Heap) (locs : List Loc) (ls_ : Array Slot), b_Y2_isMajority_85 S x0 x1 x2 x3 x4 y0 = X → q_Y2_isMajority_85 S x0 x1 x2 x3 x4 y0 → va_P G vwCl (wsC K ad S) H → va_D A (wsC K ad S) → va_S A s.heap H locs → lv_has ls_ 5 [(0, .ref (ad x0)), (1, .int x1), (2, .int x2), (3, .int x3), (4, .int x4)] → W p l e ({ frames := 0, cells := 0, slots := 0, locals := 0 } : Room) s m #[Value.ref (ad x0), Value.int a1, Value.int a2, Value.int a3] below meth c H locs 0 0 Q (F0 m 85 ls_ [.int y0]) := by
    intro x1 x2 x3 x4 y0 H locs ls_ hE hp hP hD hS hl
    unfold b_Y2_isMajority_85 at hE
    unfold q_Y2_isMajority_85 at hp
    obtain ⟨hy5, hp⟩ := hp
    subst hQ
    exact W.zret (v := y0) (ty := .boolean) hx hb hr hy5 (fun t ht hW => ⟨⟨y0, S, rfl, (pair_i (hE.trans hX.symm)), by rw [ht]; exact hP, hD⟩, hS.F ht⟩) hS.2.2 dX2_isMajority_85
  have B_Y2_isMajority_69 : ∀ (x1 : Int32) (x2 : Int32) (x3 : Int32) (x4 : Int32) (y0 : Int32) (H : Heap) (locs : List Loc) (ls_ : Array Slot), b_Y2_isMajority_69 S x0 x1 x2 x3 x4 y0 = X → q_Y2_isMajority_69 S x0 x1 x2 x3 x4 y0 → va_P G vwCl (wsC K ad S) H → va_D A (wsC K ad S) → va_S A s.heap H locs → lv_has ls_ 5 [(0, .ref (ad x0)), (1, .int x1), (2, .int x2), (3, .int x3), (4, .int x4)] → W p l e ({ frames := 0, cells := 0, slots := 0, locals := 0 } : Room) s m #[Value.ref (ad x0), Value.int a1, Value.int a2, Value.int a3] below meth c H locs 0 0 Q (F0 m 69 ls_ [.int y0]) := by
    intro x1 x2 x3 x4 y0 H locs ls_ hE hp hP hD hS hl
    unfold b_Y2_isMajority_69 at hE
    unfold q_Y2_isMajority_69 at hp
    obtain ⟨hy7, hp⟩ := hp
    subst hQ
    exact W.zret (v := y0) (ty := .boolean) hx hb hr hy7 (fun t ht hW => ⟨⟨y0, S, rfl, (pair_i (hE.trans hX.symm)), by rw [ht]; exact hP, hD⟩, hS.F ht⟩) hS.2.2 dX2_isMajority_69
  have B_Y2_isMajority_68 : ∀ (x1 : Int32) (x2 : Int32) (x3 : Int32) (x4 : Int32) (H : Heap) (locs : List Loc) (ls_ : Array Slot), b_Y2_isMajority_68 S x0 x1 x2 x3 x4 = X → q_Y2_isMajority_68 S x0 x1 x2 x3 x4 → va_P G vwCl (wsC K ad S) H → va_D A (wsC K ad S) → va_S A s.heap H locs → lv_has ls_ 5 [(0, .ref (ad x0)), (1, .int x1), (2, .int x2), (3, .int x3), (4, .int x4)] → W p l e ({ frames := 0, cells := 0, slots := 0, locals := 0 } : Room) s m #[Value.ref (ad x0), Value.int a1, Value.int a2, Value.int a3] below meth c H locs 0 0 Q (F0 m 68 ls_ []) := by
    intro x1 x2 x3 x4 H locs ls_ hE hp hP hD hS hl
    unfold b_Y2_isMajority_68 at hE
    unfold q_Y2_isMajority_68 at hp
    refine lv_iconst (v := 0) hx hb dX2_isMajority_68 (by decide) ?_
    exact B_Y2_isMajority_69 x1 x2 x3 x4 0 _ _ _ hE hp hP hD hS (lv_sub hl [0, 1, 2, 3, 4] rfl)
  have B_Y2_isMajority_42 : ∀ (x1 : Int32) (x2 : Int32) (x3 : Int32) (x4 : Int32) (y0 : Int32) (H : Heap) (locs : List Loc) (ls_ : Array Slot), b_Y2_isMajority_42 S x0 x1 x2 x3 x4 y0 = X → q_Y2_isMajority_42 S x0 x1 x2 x3 x4 y0 → va_P G vwCl (wsC K ad S) H → va_D A (wsC K ad S) → va_S A s.heap H locs → lv_has ls_ 5 [(0, .ref (ad x0)), (1, .int x1), (2, .int x2), (3, .int x3), (4, .int x4)] → W p l e ({ frames := 0, cells := 0, slots := 0, locals := 0 } : Room) s m #[Value.ref (ad x0), Value.int a1, Value.int a2, Value.int a3] below meth c H locs 0 0 Q (F0 m 42 ls_ [.int y0]) := by
    intro x1 x2 x3 x4 y0 H locs ls_ hE hp hP hD hS hl
    unfold b_Y2_isMajority_42 at hE
    unfold q_Y2_isMajority_42 at hp
    obtain ⟨hy10, hp⟩ := hp
    subst hQ
    exact W.zret (v := y0) (ty := .boolean) hx hb hr hy10 (fun t ht hW => ⟨⟨y0, S, rfl, (pair_i (hE.trans hX.symm)), by rw [ht]; exact hP, hD⟩, hS.F ht⟩) hS.2.2 dX2_isMajority_42
  have B_Y2_isMajority_24 : ∀ (x1 : Int32) (x2 : Int32) (x3 : Int32) (y0 : Int32) (H : Heap) (locs : List Loc) (ls_ : Array Slot), b_Y2_isMajority_24 S x0 x1 x2 x3 y0 = X → q_Y2_isMajority_24 S x0 x1 x2 x3 y0 → va_P G vwCl (wsC K ad S) H → va_D A (wsC K ad S) → va_S A s.heap H locs → lv_has ls_ 5 [(0, .ref (ad x0)), (1, .int x1), (2, .int x2), (3, .int x3)] → W p l e ({ frames := 0, cells := 0, slots := 0, locals := 0 } : Room) s m #[Value.ref (ad x0), Value.int a1, Value.int a2, Value.int a3] below meth c H locs 0 0 Q (F0 m 24 ls_ [.int y0]) := by
    intro x1 x2 x3 y0 H locs ls_ hE hp hP hD hS hl
    unfold b_Y2_isMajority_24 at hE
    unfold q_Y2_isMajority_24 at hp
    refine lv_istore (i := 4) (lv' := [(4, .int y0), (0, .ref (ad x0)), (1, .int x1), (2, .int x2), (3, .int x3)]) hx hb dX2_isMajority_24 hl (by decide) rfl (fun ls_ hl => ?_)
    refine lv_iload hx hb dX2_isMajority_26 (lv_at hl 0 rfl) ?_
    refine lv_iconst (v := 1) hx hb dX2_isMajority_28 (by decide) ?_
    refine lv_icmp_ne (tgt := 43) hx hb dX2_isMajority_29 (by decide) (fun c2 => ?_) (fun c2 => ?_)
    · rw [if_neg c2] at hE hp
      refine lv_iload hx hb dX2_isMajority_43 (lv_at hl 0 rfl) ?_
      refine lv_iconst (v := 2) hx hb dX2_isMajority_45 (by decide) ?_
      refine lv_icmp_ne (tgt := 70) hx hb dX2_isMajority_46 (by decide) (fun c3 => ?_) (fun c3 => ?_)
      · rw [if_neg c3] at hE hp
        refine lv_iconst (v := 2) hx hb dX2_isMajority_70 (by decide) ?_
        refine lv_iload_n hx hb dX2_isMajority_71 rfl (lv_at hl 3 rfl) ?_
        refine lv_imul hx hb dX2_isMajority_72 ?_
        refine lv_aload_n hx hb dX2_isMajority_73 rfl (lv_at hl 1 rfl) ?_
        refine va_get (D := G) (ci := 1) (v := .int (giC S x0 0)) (C := RX2) (T := TX2) (N := 8) hx hb hts iX2 hown hK hP x0 (at_1 k_x0) rfl 0 (by decide) (hw (.fieldLink RX2 19 "MotionFloor$House" "seats" "I") (List.mem_of_getElem? (i := 0) rfl)) (fun _ h9 => h9) rfl dX2_isMajority_74 ?_
        refine lv_icmp_le (tgt := 84) hx hb dX2_isMajority_77 (by decide) (fun c4 => ?_) (fun c4 => ?_)
        · rw [if_pos c4] at hE hp
          refine lv_iconst (v := 0) hx hb dX2_isMajority_84 (by decide) ?_
          exact B_Y2_isMajority_85 x1 x2 x3 y0 0 _ _ _ hE hp hP hD hS (lv_sub hl [1, 2, 3, 4, 0] rfl)
        · rw [if_neg c4] at hE hp
          refine lv_iconst (v := 1) hx hb dX2_isMajority_80 (by decide) ?_
          refine lv_goto (tgt := 85) hx hb dX2_isMajority_81 (by decide) ?_
          exact B_Y2_isMajority_85 x1 x2 x3 y0 1 _ _ _ hE hp hP hD hS (lv_sub hl [1, 2, 3, 4, 0] rfl)
      · rw [if_pos c3] at hE hp
        refine lv_iload_n hx hb dX2_isMajority_49 rfl (lv_at hl 3 rfl) ?_
        refine lv_if_le (tgt := 68) hx hb dX2_isMajority_50 (by decide) (fun c6 => ?_) (fun c6 => ?_)
        · rw [if_pos c6] at hE hp
          exact B_Y2_isMajority_68 x1 x2 x3 y0 _ _ _ hE hp hP hD hS (lv_sub hl [1, 2, 3, 4, 0] rfl)
        · rw [if_neg c6] at hE hp
          refine lv_iconst (v := 3) hx hb dX2_isMajority_53 (by decide) ?_
          refine lv_iload_n hx hb dX2_isMajority_54 rfl (lv_at hl 3 rfl) ?_
          refine lv_imul hx hb dX2_isMajority_55 ?_
          refine lv_iconst (v := 2) hx hb dX2_isMajority_56 (by decide) ?_
          refine lv_iload_n hx hb dX2_isMajority_57 rfl (lv_at hl 3 rfl) ?_
          refine lv_iload_n hx hb dX2_isMajority_58 rfl (lv_at hl 4 rfl) ?_
          refine lv_iadd hx hb dX2_isMajority_59 ?_
          refine lv_imul hx hb dX2_isMajority_60 ?_
          refine lv_icmp_lt (tgt := 68) hx hb dX2_isMajority_61 (by decide) (fun c8 => ?_) (fun c8 => ?_)
          · rw [if_pos c8] at hE hp
            exact B_Y2_isMajority_68 x1 x2 x3 y0 _ _ _ hE hp hP hD hS (lv_sub hl [1, 2, 3, 4, 0] rfl)
          · rw [if_neg c8] at hE hp
            refine lv_iconst (v := 1) hx hb dX2_isMajority_64 (by decide) ?_
            refine lv_goto (tgt := 69) hx hb dX2_isMajority_65 (by decide) ?_
            exact B_Y2_isMajority_69 x1 x2 x3 y0 1 _ _ _ hE hp hP hD hS (lv_sub hl [1, 2, 3, 4, 0] rfl)
    · rw [if_pos c2] at hE hp
      refine lv_iload_n hx hb dX2_isMajority_32 rfl (lv_at hl 3 rfl) ?_
      refine lv_iload_n hx hb dX2_isMajority_33 rfl (lv_at hl 4 rfl) ?_
      refine lv_icmp_le (tgt := 41) hx hb dX2_isMajority_34 (by decide) (fun c9 => ?_) (fun c9 => ?_)
      · rw [if_pos c9] at hE hp
        refine lv_iconst (v := 0) hx hb dX2_isMajority_41 (by decide) ?_
        exact B_Y2_isMajority_42 x1 x2 x3 y0 0 _ _ _ hE hp hP hD hS (lv_sub hl [1, 2, 3, 4, 0] rfl)
      · rw [if_neg c9] at hE hp
        refine lv_iconst (v := 1) hx hb dX2_isMajority_37 (by decide) ?_
        refine lv_goto (tgt := 42) hx hb dX2_isMajority_38 (by decide) ?_
        exact B_Y2_isMajority_42 x1 x2 x3 y0 1 _ _ _ hE hp hP hD hS (lv_sub hl [1, 2, 3, 4, 0] rfl)
  have B_Y2_isMajority_14 : ∀ (x1 : Int32) (x2 : Int32) (x3 : Int32) (H : Heap) (locs : List Loc) (ls_ : Array Slot), b_Y2_isMajority_14 S x0 x1 x2 x3 = X → q_Y2_isMajority_14 S x0 x1 x2 x3 → va_P G vwCl (wsC K ad S) H → va_D A (wsC K ad S) → va_S A s.heap H locs → lv_has ls_ 5 [(0, .ref (ad x0)), (1, .int x1), (2, .int x2), (3, .int x3)] → W p l e ({ frames := 0, cells := 0, slots := 0, locals := 0 } : Room) s m #[Value.ref (ad x0), Value.int a1, Value.int a2, Value.int a3] below meth c H locs 0 0 Q (F0 m 14 ls_ []) := by
    intro x1 x2 x3 H locs ls_ hE hp hP hD hS hl
    unfold b_Y2_isMajority_14 at hE
    unfold q_Y2_isMajority_14 at hp
    refine lv_iconst (v := 1) hx hb dX2_isMajority_14 (by decide) ?_
    refine lv_goto (tgt := 24) hx hb dX2_isMajority_15 (by decide) ?_
    exact B_Y2_isMajority_24 x1 x2 x3 1 _ _ _ hE hp hP hD hS (lv_sub hl [0, 1, 2, 3] rfl)
  have B_M : ∀ (x1 : Int32) (x2 : Int32) (x3 : Int32) (H : Heap) (locs : List Loc) (ls_ : Array Slot), f_Y2_isMajority S x0 x1 x2 x3 = X → p_Y2_isMajority S x0 x1 x2 x3 → va_P G vwCl (wsC K ad S) H → va_D A (wsC K ad S) → va_S A s.heap H locs → lv_has ls_ 5 [(0, .ref (ad x0)), (1, .int x1), (2, .int x2), (3, .int x3)] → W p l e ({ frames := 0, cells := 0, slots := 0, locals := 0 } : Room) s m #[Value.ref (ad x0), Value.int a1, Value.int a2, Value.int a3] below meth c H locs 0 0 Q (F0 m 0 ls_ []) := by
    intro x1 x2 x3 H locs ls_ hE hp hP hD hS hl
    unfold f_Y2_isMajority at hE
    unfold p_Y2_isMajority at hp
    refine lv_iload_n hx hb dX2_isMajority_0 rfl (lv_at hl 1 rfl) ?_
    refine lv_iconst (v := 1) hx hb dX2_isMajority_1 (by decide) ?_
    refine lv_icmp_lt (tgt := 14) hx hb dX2_isMajority_2 (by decide) (fun c1 => ?_) (fun c1 => ?_)
    · rw [if_pos c1] at hE hp
      exact B_Y2_isMajority_14 x1 x2 x3 _ _ _ hE hp hP hD hS (lv_sub hl [0, 1, 2, 3] rfl)
    · rw [if_neg c1] at hE hp
      refine lv_iload_n hx hb dX2_isMajority_5 rfl (lv_at hl 1 rfl) ?_
      refine lv_aload_n hx hb dX2_isMajority_6 rfl (lv_at hl 0 rfl) ?_
      refine va_get (D := G) (ci := 1) (v := va_re ad (grC S x0 7)) (C := RX2) (T := TX2) (N := 8) hx hb hts iX2 hown hK hP x0 (at_1 k_x0) rfl 7 (by decide) (hw (.fieldLink RX2 15 "MotionFloor$House" "majorities" "[I") (List.mem_of_getElem? (i := 1) rfl)) (fun _ h9 => h9) rfl dX2_isMajority_7 ?_
      obtain ⟨hy11, hp⟩ := hp
      refine cTop (r := (grC S x0 7)) hy11.1 ?_
      refine va_alen (v := (Int32.ofNat (lnC S ((grC S x0 7).getD 0)))) hx hb hK hP ((grC S x0 7).getD 0) 0 (at_20 hy11.2) rfl rfl dX2_isMajority_10 ?_
      refine lv_icmp_lt (tgt := 18) hx hb dX2_isMajority_11 (by decide) (fun c12 => ?_) (fun c12 => ?_)
      · rw [if_pos c12] at hE hp
        refine lv_aload_n hx hb dX2_isMajority_18 rfl (lv_at hl 0 rfl) ?_
        refine va_get (D := G) (ci := 1) (v := va_re ad (grC S x0 7)) (C := RX2) (T := TX2) (N := 8) hx hb hts iX2 hown hK hP x0 (at_1 k_x0) rfl 7 (by decide) (hw (.fieldLink RX2 15 "MotionFloor$House" "majorities" "[I") (List.mem_of_getElem? (i := 1) rfl)) (fun _ h9 => h9) rfl dX2_isMajority_19 ?_
        refine lv_iload_n hx hb dX2_isMajority_22 rfl (lv_at hl 1 rfl) ?_
        obtain ⟨hy13, hp⟩ := hp
        refine cTop2 (r := (grC S x0 7)) hy13.1 ?_
        obtain ⟨hy14, hp⟩ := hp
        refine va_iald hx hb hK hP ((grC S x0 7).getD 0) 0 (at_20 hy13.2) rfl hy14 dX2_isMajority_23 ?_
        exact B_Y2_isMajority_24 x1 x2 x3 (giC S ((grC S x0 7).getD 0) x1.toNatClampNeg) _ _ _ hE hp hP hD hS (lv_sub hl [0, 1, 2, 3] rfl)
      · rw [if_neg c12] at hE hp
        exact B_Y2_isMajority_14 x1 x2 x3 _ _ _ hE hp hP hD hS (lv_sub hl [0, 1, 2, 3] rfl)
  exact B_M a1 a2 a3 _ _ _ hX hp hP hD hS hl
theorem gdX3_isFull_0 : ckS (List.drop 0 cX3_isFull.data.toList) 0 [(0, .aload_n 0, 1), (1, .getfield 28, 3), (4, .aload_n 0, 1), (5, .getfield 21, 3), (8, .if_icmp .lt 7, 3), (11, .iconst 1, 1), (12, .goto 4, 3), (15, .iconst 0, 1), (16, .ireturn, 1)] = true := by decide +kernel
theorem dX3_isFull_0 : decode cX3_isFull 0 = .ok (.aload_n 0, 1) := ckS_g gdX3_isFull_0 0 rfl
theorem dX3_isFull_1 : decode cX3_isFull 1 = .ok (.getfield 28, 3) := ckS_g gdX3_isFull_0 1 rfl
theorem dX3_isFull_4 : decode cX3_isFull 4 = .ok (.aload_n 0, 1) := ckS_g gdX3_isFull_0 2 rfl
theorem dX3_isFull_5 : decode cX3_isFull 5 = .ok (.getfield 21, 3) := ckS_g gdX3_isFull_0 3 rfl
theorem dX3_isFull_8 : decode cX3_isFull 8 = .ok (.if_icmp .lt 7, 3) := ckS_g gdX3_isFull_0 4 rfl
theorem dX3_isFull_11 : decode cX3_isFull 11 = .ok (.iconst 1, 1) := ckS_g gdX3_isFull_0 5 rfl
theorem dX3_isFull_12 : decode cX3_isFull 12 = .ok (.goto 4, 3) := ckS_g gdX3_isFull_0 6 rfl
theorem dX3_isFull_15 : decode cX3_isFull 15 = .ok (.iconst 0, 1) := ckS_g gdX3_isFull_0 7 rfl
theorem dX3_isFull_16 : decode cX3_isFull 16 = .ok (.ireturn, 1) := ckS_g gdX3_isFull_0 8 rfl
set_option maxRecDepth 100000 in
theorem zc238 : wZ (.fieldLink RX3 21 "MotionFloor$Ledger" "most" "I") := ⟨wT1 (List.mem_of_getElem? (i := 131) (by decide +kernel)), Or.inl rfl⟩
set_option maxRecDepth 100000 in
theorem zc239 : wZ (.fieldLink RX3 28 "MotionFloor$Ledger" "size" "I") := ⟨wT1 (List.mem_of_getElem? (i := 133) (by decide +kernel)), Or.inl rfl⟩
set_option maxRecDepth 100000 in
theorem zc240 : wZ (.code yX3_isFull cX3_isFull 1 (some .boolean)) := ⟨wT2 (List.mem_of_getElem? (i := 193) rfl), Or.inl rfl⟩
def b_Y3_isFull_16 (S : Cst) (x0 : Nat) (y0 : Int32) : Int32 := y0
def q_Y3_isFull_16 (S : Cst) (x0 : Nat) (y0 : Int32) : Prop := (narrow .boolean (.int y0) = .int y0) ∧ True
def f_Y3_isFull (S : Cst) (x0 : Nat) : Int32 := if (giC S x0 3) < (giC S x0 1) then (b_Y3_isFull_16 S x0 0) else (b_Y3_isFull_16 S x0 1)
def p_Y3_isFull (S : Cst) (x0 : Nat) : Prop := (if (giC S x0 3) < (giC S x0 1) then (q_Y3_isFull_16 S x0 0) else (q_Y3_isFull_16 S x0 1))
def e_Y3_isFull : List Cond := [.fieldLink RX3 28 "MotionFloor$Ledger" "size" "I", .fieldLink RX3 21 "MotionFloor$Ledger" "most" "I"]
def v_Y3_isFull : List Cond := .code yX3_isFull cX3_isFull 1 (some .boolean) :: (e_Y3_isFull ++ (wsX30 ++ []))
theorem te_Y3_isFull : GoodIn lw_tbl e_Y3_isFull := wGc zc239 (wGc zc238 (wG0))
theorem t_Y3_isFull : GoodIn lw_tbl v_Y3_isFull := wGc zc240 (wGa te_Y3_isFull (wGa zcX3 (wG0)))
set_option maxHeartbeats 4000000 in
set_option maxRecDepth 100000 in
theorem c_Y3_isFull (l : Launch) (G : va_G) (K : Nat → ClassId) (ad : Nat → Nat) (S : Cst) (x0 : Nat)  (sz : Nat) : Met l yX3_isFull v_Y3_isFull ({ frames := 0, cells := 0, slots := 0, locals := 0 }) (va_Pc [.ref (ad x0)] (cSt G K ad sz S (iK S x0 2 ∧ p_Y3_isFull S x0))) (va_Qi (fun (r : Int32) (u : Cst) => (r, u) = (f_Y3_isFull S x0, S)) (cBt G K ad (va_A (wsC K ad S) sz)) (va_A (wsC K ad S) sz)) 0 0 (va_A (wsC K ad S) sz) := by
  refine Met.ofW (cc := cX3_isFull) (maxL := 1) (ret := (some .boolean)) (by decide) rfl ?_
  intro p e s m args below meth c s₁ B hml hv
  obtain ⟨rfl, ⟨hsz, hP, hK, hD0, hTE⟩, hp⟩ := hv
  obtain ⟨k_x0, hp⟩ := hp
  have hx := B.exec
  have hb := B.bytes
  have hr := B.returns
  have hts := atoms_spec (ws := v_Y3_isFull) B.pre
  have t_ := t_Y3_isFull
  have mw : ∀ w ∈ e_Y3_isFull, w ∈ v_Y3_isFull := fun w h => List.mem_cons_of_mem _ (List.mem_append_left _ h)
  have hw := fun w (h : w ∈ e_Y3_isFull) => hts w (mw w h)
  have iX3 : ∀ w ∈ wsX30, w ∈ v_Y3_isFull := fun w h => List.mem_cons_of_mem _ (List.mem_append_right _ (List.mem_append_left _ h))
  have hown : s.vm.findClass RX3 = some m.cls := findClass_of_methodNamed B.named
  have hlocks := B.notSynchronized
  subst hsz
  have hD := hD0.self (sz := s.heap.size)
  generalize hAe : va_A (wsC K ad S) s.heap.size = A at hD ⊢
  have hA : ∀ q : Nat, s.heap.size ≤ q → A q := fun q h => by rw [← hAe]; exact Or.inr h
  have hS : va_S A s.heap s.heap [] := va_S.rf
  have hl : lv_has (lg_sl ([.ref (ad x0)]) ++ List.replicate (1 - (lg_sl ([.ref (ad x0)])).length) Slot.unset).toArray 1 [(0, .ref (ad x0))] := by
    exact lv_entry ([.ref (ad x0)]) (n := 1) (Nat.le_of_ble_eq_true rfl)
  rw [lg_entry_eq]
  generalize (lg_sl ([.ref (ad x0)]) ++ List.replicate (1 - (lg_sl ([.ref (ad x0)])).length) Slot.unset).toArray = ls_ at hl ⊢
  refine wGen (fun Q hQ => ?_)
  obtain ⟨X, hX⟩ : ∃ X, f_Y3_isFull S x0 = X := ⟨_, rfl⟩
  have B_Y3_isFull_16 : ∀ (y0 : Int32) (H : Heap) (locs : List Loc) (ls_ : Array Slot), b_Y3_isFull_16 S x0 y0 = X → q_Y3_isFull_16 S x0 y0 → va_P G vwCl (wsC K ad S) H → va_D A (wsC K ad S) → va_S A s.heap H locs → lv_has ls_ 1 [(0, .ref (ad x0))] → W p l e ({ frames := 0, cells := 0, slots := 0, locals := 0 } : Room) s m #[Value.ref (ad x0)] below meth c H locs 0 0 Q (F0 m 16 ls_ [.int y0]) := by
    intro y0 H locs ls_ hE hp hP hD hS hl
    unfold b_Y3_isFull_16 at hE
    unfold q_Y3_isFull_16 at hp
    obtain ⟨hy2, hp⟩ := hp
    subst hQ
    exact W.zret (v := y0) (ty := .boolean) hx hb hr hy2 (fun t ht hW => ⟨⟨y0, S, rfl, (pair_i (hE.trans hX.symm)), by rw [ht]; exact hP, hD⟩, hS.F ht⟩) hS.2.2 dX3_isFull_16
  have B_M : ∀ (H : Heap) (locs : List Loc) (ls_ : Array Slot), f_Y3_isFull S x0 = X → p_Y3_isFull S x0 → va_P G vwCl (wsC K ad S) H → va_D A (wsC K ad S) → va_S A s.heap H locs → lv_has ls_ 1 [(0, .ref (ad x0))] → W p l e ({ frames := 0, cells := 0, slots := 0, locals := 0 } : Room) s m #[Value.ref (ad x0)] below meth c H locs 0 0 Q (F0 m 0 ls_ []) := by
    intro  H locs ls_ hE hp hP hD hS hl
    unfold f_Y3_isFull at hE
    unfold p_Y3_isFull at hp
    refine lv_aload_n hx hb dX3_isFull_0 rfl (lv_at hl 0 rfl) ?_
    refine va_get (D := G) (ci := 2) (v := .int (giC S x0 3)) (C := RX3) (T := TX3) (N := 4) hx hb hts iX3 hown hK hP x0 (at_2 k_x0) rfl 3 (by decide) (hw (.fieldLink RX3 28 "MotionFloor$Ledger" "size" "I") (List.mem_of_getElem? (i := 0) rfl)) (fun _ h9 => h9) rfl dX3_isFull_1 ?_
    refine lv_aload_n hx hb dX3_isFull_4 rfl (lv_at hl 0 rfl) ?_
    refine va_get (D := G) (ci := 2) (v := .int (giC S x0 1)) (C := RX3) (T := TX3) (N := 4) hx hb hts iX3 hown hK hP x0 (at_2 k_x0) rfl 1 (by decide) (hw (.fieldLink RX3 21 "MotionFloor$Ledger" "most" "I") (List.mem_of_getElem? (i := 1) rfl)) (fun _ h9 => h9) rfl dX3_isFull_5 ?_
    refine lv_icmp_lt (tgt := 15) hx hb dX3_isFull_8 (by decide) (fun c1 => ?_) (fun c1 => ?_)
    · rw [if_pos c1] at hE hp
      refine lv_iconst (v := 0) hx hb dX3_isFull_15 (by decide) ?_
      exact B_Y3_isFull_16 0 _ _ _ hE hp hP hD hS (lv_sub hl [0] rfl)
    · rw [if_neg c1] at hE hp
      refine lv_iconst (v := 1) hx hb dX3_isFull_11 (by decide) ?_
      refine lv_goto (tgt := 16) hx hb dX3_isFull_12 (by decide) ?_
      exact B_Y3_isFull_16 1 _ _ _ hE hp hP hD hS (lv_sub hl [0] rfl)
  exact B_M  _ _ _ hX hp hP hD hS hl
theorem gdX3_at_0 : ckS (List.drop 0 cX3_at.data.toList) 0 [(0, .iload_n 1, 1), (1, .ifCond .lt 23, 3), (4, .iload_n 1, 1), (5, .aload_n 0, 1), (6, .getfield 28, 3), (9, .if_icmp .ge 15, 3), (12, .iload_n 2, 1), (13, .ifCond .lt 11, 3), (16, .iload_n 2, 1), (17, .aload_n 0, 1), (18, .getfield 15, 3), (21, .if_icmp .lt 5, 3), (24, .iconst (-1), 1), (25, .ireturn, 1), (26, .iload_n 1, 1), (27, .aload_n 0, 1), (28, .getfield 15, 3), (31, .imul, 1), (32, .iload_n 2, 1), (33, .iadd, 1), (34, .istore_n 3, 1), (35, .iload_n 3, 1), (36, .ifCond .lt 12, 3), (39, .iload_n 3, 1), (40, .aload_n 0, 1), (41, .getfield 24, 3), (44, .arraylength, 1), (45, .if_icmp .lt 7, 3), (48, .iconst (-1), 1), (49, .goto 9, 3), (52, .aload_n 0, 1), (53, .getfield 24, 3), (56, .iload_n 3, 1), (57, .iaload, 1), (58, .ireturn, 1)] = true := by decide +kernel
theorem dX3_at_0 : decode cX3_at 0 = .ok (.iload_n 1, 1) := ckS_g gdX3_at_0 0 rfl
theorem dX3_at_1 : decode cX3_at 1 = .ok (.ifCond .lt 23, 3) := ckS_g gdX3_at_0 1 rfl
theorem dX3_at_4 : decode cX3_at 4 = .ok (.iload_n 1, 1) := ckS_g gdX3_at_0 2 rfl
theorem dX3_at_5 : decode cX3_at 5 = .ok (.aload_n 0, 1) := ckS_g gdX3_at_0 3 rfl
theorem dX3_at_6 : decode cX3_at 6 = .ok (.getfield 28, 3) := ckS_g gdX3_at_0 4 rfl
theorem dX3_at_9 : decode cX3_at 9 = .ok (.if_icmp .ge 15, 3) := ckS_g gdX3_at_0 5 rfl
theorem dX3_at_12 : decode cX3_at 12 = .ok (.iload_n 2, 1) := ckS_g gdX3_at_0 6 rfl
theorem dX3_at_13 : decode cX3_at 13 = .ok (.ifCond .lt 11, 3) := ckS_g gdX3_at_0 7 rfl
theorem dX3_at_16 : decode cX3_at 16 = .ok (.iload_n 2, 1) := ckS_g gdX3_at_0 8 rfl
theorem dX3_at_17 : decode cX3_at 17 = .ok (.aload_n 0, 1) := ckS_g gdX3_at_0 9 rfl
theorem dX3_at_18 : decode cX3_at 18 = .ok (.getfield 15, 3) := ckS_g gdX3_at_0 10 rfl
theorem dX3_at_21 : decode cX3_at 21 = .ok (.if_icmp .lt 5, 3) := ckS_g gdX3_at_0 11 rfl
theorem dX3_at_24 : decode cX3_at 24 = .ok (.iconst (-1), 1) := ckS_g gdX3_at_0 12 rfl
theorem dX3_at_25 : decode cX3_at 25 = .ok (.ireturn, 1) := ckS_g gdX3_at_0 13 rfl
theorem dX3_at_26 : decode cX3_at 26 = .ok (.iload_n 1, 1) := ckS_g gdX3_at_0 14 rfl
theorem dX3_at_27 : decode cX3_at 27 = .ok (.aload_n 0, 1) := ckS_g gdX3_at_0 15 rfl
theorem dX3_at_28 : decode cX3_at 28 = .ok (.getfield 15, 3) := ckS_g gdX3_at_0 16 rfl
theorem dX3_at_31 : decode cX3_at 31 = .ok (.imul, 1) := ckS_g gdX3_at_0 17 rfl
theorem dX3_at_32 : decode cX3_at 32 = .ok (.iload_n 2, 1) := ckS_g gdX3_at_0 18 rfl
theorem dX3_at_33 : decode cX3_at 33 = .ok (.iadd, 1) := ckS_g gdX3_at_0 19 rfl
theorem dX3_at_34 : decode cX3_at 34 = .ok (.istore_n 3, 1) := ckS_g gdX3_at_0 20 rfl
theorem dX3_at_35 : decode cX3_at 35 = .ok (.iload_n 3, 1) := ckS_g gdX3_at_0 21 rfl
theorem dX3_at_36 : decode cX3_at 36 = .ok (.ifCond .lt 12, 3) := ckS_g gdX3_at_0 22 rfl
theorem dX3_at_39 : decode cX3_at 39 = .ok (.iload_n 3, 1) := ckS_g gdX3_at_0 23 rfl
theorem dX3_at_40 : decode cX3_at 40 = .ok (.aload_n 0, 1) := ckS_g gdX3_at_0 24 rfl
theorem dX3_at_41 : decode cX3_at 41 = .ok (.getfield 24, 3) := ckS_g gdX3_at_0 25 rfl
theorem dX3_at_44 : decode cX3_at 44 = .ok (.arraylength, 1) := ckS_g gdX3_at_0 26 rfl
theorem dX3_at_45 : decode cX3_at 45 = .ok (.if_icmp .lt 7, 3) := ckS_g gdX3_at_0 27 rfl
theorem dX3_at_48 : decode cX3_at 48 = .ok (.iconst (-1), 1) := ckS_g gdX3_at_0 28 rfl
theorem dX3_at_49 : decode cX3_at 49 = .ok (.goto 9, 3) := ckS_g gdX3_at_0 29 rfl
theorem dX3_at_52 : decode cX3_at 52 = .ok (.aload_n 0, 1) := ckS_g gdX3_at_0 30 rfl
theorem dX3_at_53 : decode cX3_at 53 = .ok (.getfield 24, 3) := ckS_g gdX3_at_0 31 rfl
theorem dX3_at_56 : decode cX3_at 56 = .ok (.iload_n 3, 1) := ckS_g gdX3_at_0 32 rfl
theorem dX3_at_57 : decode cX3_at 57 = .ok (.iaload, 1) := ckS_g gdX3_at_0 33 rfl
theorem dX3_at_58 : decode cX3_at 58 = .ok (.ireturn, 1) := ckS_g gdX3_at_0 34 rfl
set_option maxRecDepth 100000 in
theorem zc241 : wZ (.fieldLink RX3 24 "MotionFloor$Ledger" "cells" "[I") := ⟨wT1 (List.mem_of_getElem? (i := 132) (by decide +kernel)), Or.inl rfl⟩
set_option maxRecDepth 100000 in
theorem zc242 : wZ (.fieldLink RX3 15 "MotionFloor$Ledger" "columns" "I") := ⟨wT1 (List.mem_of_getElem? (i := 130) (by decide +kernel)), Or.inl rfl⟩
set_option maxRecDepth 100000 in
theorem zc243 : wZ (.code yX3_at cX3_at 4 (some .int)) := ⟨wT4 (List.mem_of_getElem? (i := 177) rfl), Or.inl rfl⟩
def b_Y3_at_24 (S : Cst) (x0 : Nat) (x1 : Int32) (x2 : Int32) : Int32 := ((-1) : Int32)
def q_Y3_at_24 (S : Cst) (x0 : Nat) (x1 : Int32) (x2 : Int32) : Prop := True
def b_Y3_at_58 (S : Cst) (x0 : Nat) (x1 : Int32) (x2 : Int32) (x3 : Int32) (y0 : Int32) : Int32 := y0
def q_Y3_at_58 (S : Cst) (x0 : Nat) (x1 : Int32) (x2 : Int32) (x3 : Int32) (y0 : Int32) : Prop := True
def b_Y3_at_48 (S : Cst) (x0 : Nat) (x1 : Int32) (x2 : Int32) (x3 : Int32) : Int32 := (b_Y3_at_58 S x0 x1 x2 x3 (-1))
def q_Y3_at_48 (S : Cst) (x0 : Nat) (x1 : Int32) (x2 : Int32) (x3 : Int32) : Prop := (q_Y3_at_58 S x0 x1 x2 x3 (-1))
def f_Y3_at (S : Cst) (x0 : Nat) (x1 : Int32) (x2 : Int32) : Int32 := if x1 < 0 then (b_Y3_at_24 S x0 x1 x2) else if (giC S x0 3) ≤ x1 then (b_Y3_at_24 S x0 x1 x2) else if x2 < 0 then (b_Y3_at_24 S x0 x1 x2) else if x2 < (giC S x0 0) then if ((x1 * (giC S x0 0)) + x2) < 0 then (b_Y3_at_48 S x0 x1 x2 ((x1 * (giC S x0 0)) + x2)) else if ((x1 * (giC S x0 0)) + x2) < (Int32.ofNat (lnC S ((grC S x0 2).getD 0))) then (b_Y3_at_58 S x0 x1 x2 ((x1 * (giC S x0 0)) + x2) (giC S ((grC S x0 2).getD 0) ((x1 * (giC S x0 0)) + x2).toNatClampNeg)) else (b_Y3_at_48 S x0 x1 x2 ((x1 * (giC S x0 0)) + x2)) else (b_Y3_at_24 S x0 x1 x2)
def p_Y3_at (S : Cst) (x0 : Nat) (x1 : Int32) (x2 : Int32) : Prop := (if x1 < 0 then (q_Y3_at_24 S x0 x1 x2) else (if (giC S x0 3) ≤ x1 then (q_Y3_at_24 S x0 x1 x2) else (if x2 < 0 then (q_Y3_at_24 S x0 x1 x2) else (if x2 < (giC S x0 0) then (if ((x1 * (giC S x0 0)) + x2) < 0 then (q_Y3_at_48 S x0 x1 x2 ((x1 * (giC S x0 0)) + x2)) else (iR S (grC S x0 2) 20) ∧ (if ((x1 * (giC S x0 0)) + x2) < (Int32.ofNat (lnC S ((grC S x0 2).getD 0))) then (iR S (grC S x0 2) 20) ∧ (vp_in ((x1 * (giC S x0 0)) + x2) (lnC S ((grC S x0 2).getD 0))) ∧ (q_Y3_at_58 S x0 x1 x2 ((x1 * (giC S x0 0)) + x2) (giC S ((grC S x0 2).getD 0) ((x1 * (giC S x0 0)) + x2).toNatClampNeg)) else (q_Y3_at_48 S x0 x1 x2 ((x1 * (giC S x0 0)) + x2)))) else (q_Y3_at_24 S x0 x1 x2)))))
def e_Y3_at : List Cond := [.fieldLink RX3 28 "MotionFloor$Ledger" "size" "I", .fieldLink RX3 15 "MotionFloor$Ledger" "columns" "I", .fieldLink RX3 24 "MotionFloor$Ledger" "cells" "[I"]
def v_Y3_at : List Cond := .code yX3_at cX3_at 4 (some .int) :: (e_Y3_at ++ (wsX30 ++ []))
theorem te_Y3_at : GoodIn lw_tbl e_Y3_at := wGc zc239 (wGc zc242 (wGc zc241 (wG0)))
theorem t_Y3_at : GoodIn lw_tbl v_Y3_at := wGc zc243 (wGa te_Y3_at (wGa zcX3 (wG0)))
set_option maxHeartbeats 4000000 in
set_option maxRecDepth 100000 in
theorem c_Y3_at (l : Launch) (G : va_G) (K : Nat → ClassId) (ad : Nat → Nat) (S : Cst) (x0 : Nat) (a1 : Int32) (a2 : Int32) (sz : Nat) : Met l yX3_at v_Y3_at ({ frames := 0, cells := 0, slots := 0, locals := 0 }) (va_Pc [.ref (ad x0), .int a1, .int a2] (cSt G K ad sz S (iK S x0 2 ∧ p_Y3_at S x0 a1 a2))) (va_Qi (fun (r : Int32) (u : Cst) => (r, u) = (f_Y3_at S x0 a1 a2, S)) (cBt G K ad (va_A (wsC K ad S) sz)) (va_A (wsC K ad S) sz)) 0 0 (va_A (wsC K ad S) sz) := by
  refine Met.ofW (cc := cX3_at) (maxL := 4) (ret := (some .int)) (by decide) rfl ?_
  intro p e s m args below meth c s₁ B hml hv
  obtain ⟨rfl, ⟨hsz, hP, hK, hD0, hTE⟩, hp⟩ := hv
  obtain ⟨k_x0, hp⟩ := hp
  have hx := B.exec
  have hb := B.bytes
  have hr := B.returns
  have hts := atoms_spec (ws := v_Y3_at) B.pre
  have t_ := t_Y3_at
  have mw : ∀ w ∈ e_Y3_at, w ∈ v_Y3_at := fun w h => List.mem_cons_of_mem _ (List.mem_append_left _ h)
  have hw := fun w (h : w ∈ e_Y3_at) => hts w (mw w h)
  have iX3 : ∀ w ∈ wsX30, w ∈ v_Y3_at := fun w h => List.mem_cons_of_mem _ (List.mem_append_right _ (List.mem_append_left _ h))
  have hown : s.vm.findClass RX3 = some m.cls := findClass_of_methodNamed B.named
  have hlocks := B.notSynchronized
  subst hsz
  have hD := hD0.self (sz := s.heap.size)
  generalize hAe : va_A (wsC K ad S) s.heap.size = A at hD ⊢
  have hA : ∀ q : Nat, s.heap.size ≤ q → A q := fun q h => by rw [← hAe]; exact Or.inr h
  have hS : va_S A s.heap s.heap [] := va_S.rf
  have hl : lv_has (lg_sl ([.ref (ad x0), .int a1, .int a2]) ++ List.replicate (4 - (lg_sl ([.ref (ad x0), .int a1, .int a2])).length) Slot.unset).toArray 4 [(0, .ref (ad x0)), (1, .int a1), (2, .int a2)] := by
    exact lv_entry ([.ref (ad x0), .int a1, .int a2]) (n := 4) (Nat.le_of_ble_eq_true rfl)
  rw [lg_entry_eq]
  generalize (lg_sl ([.ref (ad x0), .int a1, .int a2]) ++ List.replicate (4 - (lg_sl ([.ref (ad x0), .int a1, .int a2])).length) Slot.unset).toArray = ls_ at hl ⊢
  refine wGen (fun Q hQ => ?_)
  obtain ⟨X, hX⟩ : ∃ X, f_Y3_at S x0 a1 a2 = X := ⟨_, rfl⟩
  have B_Y3_at_24 : ∀ (x1 : Int32) (x2 : Int32) (H : Heap) (locs : List Loc) (ls_ : Array Slot), b_Y3_at_24 S x0 x1 x2 = X → q_Y3_at_24 S x0 x1 x2 → va_P G vwCl (wsC K ad S) H → va_D A (wsC K ad S) → va_S A s.heap H locs → lv_has ls_ 4 [(0, .ref (ad x0)), (1, .int x1), (2, .int x2)] → W p l e ({ frames := 0, cells := 0, slots := 0, locals := 0 } : Room) s m #[Value.ref (ad x0), Value.int a1, Value.int a2] below meth c H locs 0 0 Q (F0 m 24 ls_ []) := by
    intro x1 x2 H locs ls_ hE hp hP hD hS hl
    unfold b_Y3_at_24 at hE
    unfold q_Y3_at_24 at hp
    refine lv_iconst (v := (-1)) hx hb dX3_at_24 (by decide) ?_
    subst hQ
    exact W.iret (v := ((-1) : Int32)) hx hb hr (fun t ht hW => ⟨⟨((-1) : Int32), S, rfl, (pair_i (hE.trans hX.symm)), by rw [ht]; exact hP, hD⟩, hS.F ht⟩) hS.2.2 dX3_at_25
  have B_Y3_at_58 : ∀ (x1 : Int32) (x2 : Int32) (x3 : Int32) (y0 : Int32) (H : Heap) (locs : List Loc) (ls_ : Array Slot), b_Y3_at_58 S x0 x1 x2 x3 y0 = X → q_Y3_at_58 S x0 x1 x2 x3 y0 → va_P G vwCl (wsC K ad S) H → va_D A (wsC K ad S) → va_S A s.heap H locs → lv_has ls_ 4 [(0, .ref (ad x0)), (1, .int x1), (2, .int x2), (3, .int x3)] → W p l e ({ frames := 0, cells := 0, slots := 0, locals := 0 } : Room) s m #[Value.ref (ad x0), Value.int a1, Value.int a2] below meth c H locs 0 0 Q (F0 m 58 ls_ [.int y0]) := by
    intro x1 x2 x3 y0 H locs ls_ hE hp hP hD hS hl
    unfold b_Y3_at_58 at hE
    unfold q_Y3_at_58 at hp
    subst hQ
    exact W.iret (v := y0) hx hb hr (fun t ht hW => ⟨⟨y0, S, rfl, (pair_i (hE.trans hX.symm)), by rw [ht]; exact hP, hD⟩, hS.F ht⟩) hS.2.2 dX3_at_58
  have B_Y3_at_48 : ∀ (x1 : Int32) (x2 : Int32) (x3 : Int32) (H : Heap) (locs : List Loc) (ls_ : Array Slot), b_Y3_at_48 S x0 x1 x2 x3 = X → q_Y3_at_48 S x0 x1 x2 x3 → va_P G vwCl (wsC K ad S) H → va_D A (wsC K ad S) → va_S A s.heap H locs → lv_has ls_ 4 [(0, .ref (ad x0)), (1, .int x1), (2, .int x2), (3, .int x3)] → W p l e ({ frames := 0, cells := 0, slots := 0, locals := 0 } : Room) s m #[Value.ref (ad x0), Value.int a1, Value.int a2] below meth c H locs 0 0 Q (F0 m 48 ls_ []) := by
    intro x1 x2 x3 H locs ls_ hE hp hP hD hS hl
    unfold b_Y3_at_48 at hE
    unfold q_Y3_at_48 at hp
    refine lv_iconst (v := (-1)) hx hb dX3_at_48 (by decide) ?_
    refine lv_goto (tgt := 58) hx hb dX3_at_49 (by decide) ?_
    exact B_Y3_at_58 x1 x2 x3 (-1) _ _ _ hE hp hP hD hS (lv_sub hl [0, 1, 2, 3] rfl)
  have B_M : ∀ (x1 : Int32) (x2 : Int32) (H : Heap) (locs : List Loc) (ls_ : Array Slot), f_Y3_at S x0 x1 x2 = X → p_Y3_at S x0 x1 x2 → va_P G vwCl (wsC K ad S) H → va_D A (wsC K ad S) → va_S A s.heap H locs → lv_has ls_ 4 [(0, .ref (ad x0)), (1, .int x1), (2, .int x2)] → W p l e ({ frames := 0, cells := 0, slots := 0, locals := 0 } : Room) s m #[Value.ref (ad x0), Value.int a1, Value.int a2] below meth c H locs 0 0 Q (F0 m 0 ls_ []) := by
    intro x1 x2 H locs ls_ hE hp hP hD hS hl
    unfold f_Y3_at at hE
    unfold p_Y3_at at hp
    refine lv_iload_n hx hb dX3_at_0 rfl (lv_at hl 1 rfl) ?_
    refine lv_if_lt (tgt := 24) hx hb dX3_at_1 (by decide) (fun c1 => ?_) (fun c1 => ?_)
    · rw [if_pos c1] at hE hp
      exact B_Y3_at_24 x1 x2 _ _ _ hE hp hP hD hS (lv_sub hl [0, 1, 2] rfl)
    · rw [if_neg c1] at hE hp
      refine lv_iload_n hx hb dX3_at_4 rfl (lv_at hl 1 rfl) ?_
      refine lv_aload_n hx hb dX3_at_5 rfl (lv_at hl 0 rfl) ?_
      refine va_get (D := G) (ci := 2) (v := .int (giC S x0 3)) (C := RX3) (T := TX3) (N := 4) hx hb hts iX3 hown hK hP x0 (at_2 k_x0) rfl 3 (by decide) (hw (.fieldLink RX3 28 "MotionFloor$Ledger" "size" "I") (List.mem_of_getElem? (i := 0) rfl)) (fun _ h9 => h9) rfl dX3_at_6 ?_
      refine lv_icmp_ge (tgt := 24) hx hb dX3_at_9 (by decide) (fun c2 => ?_) (fun c2 => ?_)
      · rw [if_pos c2] at hE hp
        exact B_Y3_at_24 x1 x2 _ _ _ hE hp hP hD hS (lv_sub hl [0, 1, 2] rfl)
      · rw [if_neg c2] at hE hp
        refine lv_iload_n hx hb dX3_at_12 rfl (lv_at hl 2 rfl) ?_
        refine lv_if_lt (tgt := 24) hx hb dX3_at_13 (by decide) (fun c3 => ?_) (fun c3 => ?_)
        · rw [if_pos c3] at hE hp
          exact B_Y3_at_24 x1 x2 _ _ _ hE hp hP hD hS (lv_sub hl [0, 1, 2] rfl)
        · rw [if_neg c3] at hE hp
          refine lv_iload_n hx hb dX3_at_16 rfl (lv_at hl 2 rfl) ?_
          refine lv_aload_n hx hb dX3_at_17 rfl (lv_at hl 0 rfl) ?_
          refine va_get (D := G) (ci := 2) (v := .int (giC S x0 0)) (C := RX3) (T := TX3) (N := 4) hx hb hts iX3 hown hK hP x0 (at_2 k_x0) rfl 0 (by decide) (hw (.fieldLink RX3 15 "MotionFloor$Ledger" "columns" "I") (List.mem_of_getElem? (i := 1) rfl)) (fun _ h9 => h9) rfl dX3_at_18 ?_
          refine lv_icmp_lt (tgt := 26) hx hb dX3_at_21 (by decide) (fun c4 => ?_) (fun c4 => ?_)
          · rw [if_pos c4] at hE hp
            refine lv_iload_n hx hb dX3_at_26 rfl (lv_at hl 1 rfl) ?_
            refine lv_aload_n hx hb dX3_at_27 rfl (lv_at hl 0 rfl) ?_
            refine va_get (D := G) (ci := 2) (v := .int (giC S x0 0)) (C := RX3) (T := TX3) (N := 4) hx hb hts iX3 hown hK hP x0 (at_2 k_x0) rfl 0 (by decide) (hw (.fieldLink RX3 15 "MotionFloor$Ledger" "columns" "I") (List.mem_of_getElem? (i := 1) rfl)) (fun _ h9 => h9) rfl dX3_at_28 ?_
            refine lv_imul hx hb dX3_at_31 ?_
            refine lv_iload_n hx hb dX3_at_32 rfl (lv_at hl 2 rfl) ?_
            refine lv_iadd hx hb dX3_at_33 ?_
            refine lv_istore_n (i := 3) (lv' := [(3, .int ((x1 * (giC S x0 0)) + x2)), (0, .ref (ad x0)), (1, .int x1), (2, .int x2)]) hx hb dX3_at_34 rfl hl (by decide) rfl (fun ls_ hl => ?_)
            refine lv_iload_n hx hb dX3_at_35 rfl (lv_at hl 0 rfl) ?_
            refine lv_if_lt (tgt := 48) hx hb dX3_at_36 (by decide) (fun c5 => ?_) (fun c5 => ?_)
            · rw [if_pos c5] at hE hp
              exact B_Y3_at_48 x1 x2 ((x1 * (giC S x0 0)) + x2) _ _ _ hE hp hP hD hS (lv_sub hl [1, 2, 3, 0] rfl)
            · rw [if_neg c5] at hE hp
              refine lv_iload_n hx hb dX3_at_39 rfl (lv_at hl 0 rfl) ?_
              refine lv_aload_n hx hb dX3_at_40 rfl (lv_at hl 1 rfl) ?_
              refine va_get (D := G) (ci := 2) (v := va_re ad (grC S x0 2)) (C := RX3) (T := TX3) (N := 4) hx hb hts iX3 hown hK hP x0 (at_2 k_x0) rfl 2 (by decide) (hw (.fieldLink RX3 24 "MotionFloor$Ledger" "cells" "[I") (List.mem_of_getElem? (i := 2) rfl)) (fun _ h9 => h9) rfl dX3_at_41 ?_
              obtain ⟨hy6, hp⟩ := hp
              refine cTop (r := (grC S x0 2)) hy6.1 ?_
              refine va_alen (v := (Int32.ofNat (lnC S ((grC S x0 2).getD 0)))) hx hb hK hP ((grC S x0 2).getD 0) 0 (at_20 hy6.2) rfl rfl dX3_at_44 ?_
              refine lv_icmp_lt (tgt := 52) hx hb dX3_at_45 (by decide) (fun c7 => ?_) (fun c7 => ?_)
              · rw [if_pos c7] at hE hp
                refine lv_aload_n hx hb dX3_at_52 rfl (lv_at hl 1 rfl) ?_
                refine va_get (D := G) (ci := 2) (v := va_re ad (grC S x0 2)) (C := RX3) (T := TX3) (N := 4) hx hb hts iX3 hown hK hP x0 (at_2 k_x0) rfl 2 (by decide) (hw (.fieldLink RX3 24 "MotionFloor$Ledger" "cells" "[I") (List.mem_of_getElem? (i := 2) rfl)) (fun _ h9 => h9) rfl dX3_at_53 ?_
                refine lv_iload_n hx hb dX3_at_56 rfl (lv_at hl 0 rfl) ?_
                obtain ⟨hy8, hp⟩ := hp
                refine cTop2 (r := (grC S x0 2)) hy8.1 ?_
                obtain ⟨hy9, hp⟩ := hp
                refine va_iald hx hb hK hP ((grC S x0 2).getD 0) 0 (at_20 hy8.2) rfl hy9 dX3_at_57 ?_
                exact B_Y3_at_58 x1 x2 ((x1 * (giC S x0 0)) + x2) (giC S ((grC S x0 2).getD 0) ((x1 * (giC S x0 0)) + x2).toNatClampNeg) _ _ _ hE hp hP hD hS (lv_sub hl [1, 2, 3, 0] rfl)
              · rw [if_neg c7] at hE hp
                exact B_Y3_at_48 x1 x2 ((x1 * (giC S x0 0)) + x2) _ _ _ hE hp hP hD hS (lv_sub hl [1, 2, 3, 0] rfl)
          · rw [if_neg c4] at hE hp
            exact B_Y3_at_24 x1 x2 _ _ _ hE hp hP hD hS (lv_sub hl [0, 1, 2] rfl)
  exact B_M a1 a2 _ _ _ hX hp hP hD hS hl
theorem gdX3_write_0 : ckS (List.drop 0 cX3_write.data.toList) 0 [(0, .aload_n 0, 1), (1, .getfield 28, 3), (4, .iconst 1, 1), (5, .isub, 1), (6, .aload_n 0, 1), (7, .getfield 15, 3), (10, .imul, 1), (11, .iload_n 1, 1), (12, .iadd, 1), (13, .istore_n 3, 1), (14, .iload_n 1, 1), (15, .ifCond .lt 31, 3), (18, .iload_n 1, 1), (19, .aload_n 0, 1), (20, .getfield 15, 3), (23, .if_icmp .ge 23, 3), (26, .iload_n 3, 1), (27, .ifCond .lt 19, 3), (30, .iload_n 3, 1), (31, .aload_n 0, 1), (32, .getfield 24, 3), (35, .arraylength, 1), (36, .if_icmp .ge 10, 3), (39, .aload_n 0, 1), (40, .getfield 24, 3), (43, .iload_n 3, 1), (44, .iload_n 2, 1), (45, .iastore, 1), (46, .return_, 1)] = true := by decide +kernel
theorem dX3_write_0 : decode cX3_write 0 = .ok (.aload_n 0, 1) := ckS_g gdX3_write_0 0 rfl
theorem dX3_write_1 : decode cX3_write 1 = .ok (.getfield 28, 3) := ckS_g gdX3_write_0 1 rfl
theorem dX3_write_4 : decode cX3_write 4 = .ok (.iconst 1, 1) := ckS_g gdX3_write_0 2 rfl
theorem dX3_write_5 : decode cX3_write 5 = .ok (.isub, 1) := ckS_g gdX3_write_0 3 rfl
theorem dX3_write_6 : decode cX3_write 6 = .ok (.aload_n 0, 1) := ckS_g gdX3_write_0 4 rfl
theorem dX3_write_7 : decode cX3_write 7 = .ok (.getfield 15, 3) := ckS_g gdX3_write_0 5 rfl
theorem dX3_write_10 : decode cX3_write 10 = .ok (.imul, 1) := ckS_g gdX3_write_0 6 rfl
theorem dX3_write_11 : decode cX3_write 11 = .ok (.iload_n 1, 1) := ckS_g gdX3_write_0 7 rfl
theorem dX3_write_12 : decode cX3_write 12 = .ok (.iadd, 1) := ckS_g gdX3_write_0 8 rfl
theorem dX3_write_13 : decode cX3_write 13 = .ok (.istore_n 3, 1) := ckS_g gdX3_write_0 9 rfl
theorem dX3_write_14 : decode cX3_write 14 = .ok (.iload_n 1, 1) := ckS_g gdX3_write_0 10 rfl
theorem dX3_write_15 : decode cX3_write 15 = .ok (.ifCond .lt 31, 3) := ckS_g gdX3_write_0 11 rfl
theorem dX3_write_18 : decode cX3_write 18 = .ok (.iload_n 1, 1) := ckS_g gdX3_write_0 12 rfl
theorem dX3_write_19 : decode cX3_write 19 = .ok (.aload_n 0, 1) := ckS_g gdX3_write_0 13 rfl
theorem dX3_write_20 : decode cX3_write 20 = .ok (.getfield 15, 3) := ckS_g gdX3_write_0 14 rfl
theorem dX3_write_23 : decode cX3_write 23 = .ok (.if_icmp .ge 23, 3) := ckS_g gdX3_write_0 15 rfl
theorem dX3_write_26 : decode cX3_write 26 = .ok (.iload_n 3, 1) := ckS_g gdX3_write_0 16 rfl
theorem dX3_write_27 : decode cX3_write 27 = .ok (.ifCond .lt 19, 3) := ckS_g gdX3_write_0 17 rfl
theorem dX3_write_30 : decode cX3_write 30 = .ok (.iload_n 3, 1) := ckS_g gdX3_write_0 18 rfl
theorem dX3_write_31 : decode cX3_write 31 = .ok (.aload_n 0, 1) := ckS_g gdX3_write_0 19 rfl
theorem dX3_write_32 : decode cX3_write 32 = .ok (.getfield 24, 3) := ckS_g gdX3_write_0 20 rfl
theorem dX3_write_35 : decode cX3_write 35 = .ok (.arraylength, 1) := ckS_g gdX3_write_0 21 rfl
theorem dX3_write_36 : decode cX3_write 36 = .ok (.if_icmp .ge 10, 3) := ckS_g gdX3_write_0 22 rfl
theorem dX3_write_39 : decode cX3_write 39 = .ok (.aload_n 0, 1) := ckS_g gdX3_write_0 23 rfl
theorem dX3_write_40 : decode cX3_write 40 = .ok (.getfield 24, 3) := ckS_g gdX3_write_0 24 rfl
theorem dX3_write_43 : decode cX3_write 43 = .ok (.iload_n 3, 1) := ckS_g gdX3_write_0 25 rfl
theorem dX3_write_44 : decode cX3_write 44 = .ok (.iload_n 2, 1) := ckS_g gdX3_write_0 26 rfl
theorem dX3_write_45 : decode cX3_write 45 = .ok (.iastore, 1) := ckS_g gdX3_write_0 27 rfl
theorem dX3_write_46 : decode cX3_write 46 = .ok (.return_, 1) := ckS_g gdX3_write_0 28 rfl
set_option maxRecDepth 100000 in
theorem zc244 : wZ (.code yX3_write cX3_write 4 none) := ⟨wT3 (List.mem_of_getElem? (i := 214) rfl), Or.inl rfl⟩
def b_Y3_write_46 (S : Cst) (x0 : Nat) (x1 : Int32) (x2 : Int32) (x3 : Int32) : Int32 × Cst := (0, S)
def q_Y3_write_46 (S : Cst) (x0 : Nat) (x1 : Int32) (x2 : Int32) (x3 : Int32) : Prop := True
def f_Y3_write (S : Cst) (x0 : Nat) (x1 : Int32) (x2 : Int32) : Int32 × Cst := if x1 < 0 then (b_Y3_write_46 S x0 x1 x2 ((((giC S x0 3) - 1) * (giC S x0 0)) + x1)) else if (giC S x0 0) ≤ x1 then (b_Y3_write_46 S x0 x1 x2 ((((giC S x0 3) - 1) * (giC S x0 0)) + x1)) else if ((((giC S x0 3) - 1) * (giC S x0 0)) + x1) < 0 then (b_Y3_write_46 S x0 x1 x2 ((((giC S x0 3) - 1) * (giC S x0 0)) + x1)) else if (Int32.ofNat (lnC S ((grC S x0 2).getD 0))) ≤ ((((giC S x0 3) - 1) * (giC S x0 0)) + x1) then (b_Y3_write_46 S x0 x1 x2 ((((giC S x0 3) - 1) * (giC S x0 0)) + x1)) else (b_Y3_write_46 (siC S ((grC S x0 2).getD 0) ((((giC S x0 3) - 1) * (giC S x0 0)) + x1).toNatClampNeg x2) x0 x1 x2 ((((giC S x0 3) - 1) * (giC S x0 0)) + x1))
def p_Y3_write (S : Cst) (x0 : Nat) (x1 : Int32) (x2 : Int32) : Prop := (if x1 < 0 then (q_Y3_write_46 S x0 x1 x2 ((((giC S x0 3) - 1) * (giC S x0 0)) + x1)) else (if (giC S x0 0) ≤ x1 then (q_Y3_write_46 S x0 x1 x2 ((((giC S x0 3) - 1) * (giC S x0 0)) + x1)) else (if ((((giC S x0 3) - 1) * (giC S x0 0)) + x1) < 0 then (q_Y3_write_46 S x0 x1 x2 ((((giC S x0 3) - 1) * (giC S x0 0)) + x1)) else (iR S (grC S x0 2) 20) ∧ (if (Int32.ofNat (lnC S ((grC S x0 2).getD 0))) ≤ ((((giC S x0 3) - 1) * (giC S x0 0)) + x1) then (q_Y3_write_46 S x0 x1 x2 ((((giC S x0 3) - 1) * (giC S x0 0)) + x1)) else (iR S (grC S x0 2) 20) ∧ (vp_in ((((giC S x0 3) - 1) * (giC S x0 0)) + x1) (lnC S ((grC S x0 2).getD 0))) ∧ (q_Y3_write_46 (siC S ((grC S x0 2).getD 0) ((((giC S x0 3) - 1) * (giC S x0 0)) + x1).toNatClampNeg x2) x0 x1 x2 ((((giC S x0 3) - 1) * (giC S x0 0)) + x1))))))
def e_Y3_write : List Cond := [.fieldLink RX3 28 "MotionFloor$Ledger" "size" "I", .fieldLink RX3 15 "MotionFloor$Ledger" "columns" "I", .fieldLink RX3 24 "MotionFloor$Ledger" "cells" "[I"]
def v_Y3_write : List Cond := .code yX3_write cX3_write 4 none :: (e_Y3_write ++ (wsX30 ++ []))
theorem te_Y3_write : GoodIn lw_tbl e_Y3_write := wGc zc239 (wGc zc242 (wGc zc241 (wG0)))
theorem t_Y3_write : GoodIn lw_tbl v_Y3_write := wGc zc244 (wGa te_Y3_write (wGa zcX3 (wG0)))
set_option maxHeartbeats 4000000 in
set_option maxRecDepth 100000 in
theorem c_Y3_write (l : Launch) (G : va_G) (K : Nat → ClassId) (ad : Nat → Nat) (S0 : Cst) (x0 : Nat) (a1 : Int32) (a2 : Int32) (sz : Nat) : Met l yX3_write v_Y3_write ({ frames := 0, cells := 0, slots := 0, locals := 0 }) (va_Pc [.ref (ad x0), .int a1, .int a2] (cSt G K ad sz S0 (iK S0 x0 2 ∧ p_Y3_write S0 x0 a1 a2))) (va_Qv (fun u : Cst => (0, u) = f_Y3_write S0 x0 a1 a2 ∧ eK S0 u) (cBt G K ad (va_A (wsC K ad S0) sz)) (va_A (wsC K ad S0) sz)) 0 0 (va_A (wsC K ad S0) sz) := by
  refine Met.ofW (cc := cX3_write) (maxL := 4) (ret := none) (by decide) rfl ?_
  intro p e s m args below meth c s₁ B hml hv
  obtain ⟨rfl, ⟨hsz, hP, hK, hD0, hTE⟩, hp⟩ := hv
  obtain ⟨k_x0, hp⟩ := hp
  have hx := B.exec
  have hb := B.bytes
  have hr := B.returns
  have hts := atoms_spec (ws := v_Y3_write) B.pre
  have t_ := t_Y3_write
  have mw : ∀ w ∈ e_Y3_write, w ∈ v_Y3_write := fun w h => List.mem_cons_of_mem _ (List.mem_append_left _ h)
  have hw := fun w (h : w ∈ e_Y3_write) => hts w (mw w h)
  have iX3 : ∀ w ∈ wsX30, w ∈ v_Y3_write := fun w h => List.mem_cons_of_mem _ (List.mem_append_right _ (List.mem_append_left _ h))
  have hown : s.vm.findClass RX3 = some m.cls := findClass_of_methodNamed B.named
  have hlocks := B.notSynchronized
  subst hsz
  have hD := hD0.self (sz := s.heap.size)
  generalize hAe : va_A (wsC K ad S0) s.heap.size = A at hD ⊢
  have hA : ∀ q : Nat, s.heap.size ≤ q → A q := fun q h => by rw [← hAe]; exact Or.inr h
  have hS : va_S A s.heap s.heap [] := va_S.rf
  have hl : lv_has (lg_sl ([.ref (ad x0), .int a1, .int a2]) ++ List.replicate (4 - (lg_sl ([.ref (ad x0), .int a1, .int a2])).length) Slot.unset).toArray 4 [(0, .ref (ad x0)), (1, .int a1), (2, .int a2)] := by
    exact lv_entry ([.ref (ad x0), .int a1, .int a2]) (n := 4) (Nat.le_of_ble_eq_true rfl)
  rw [lg_entry_eq]
  generalize (lg_sl ([.ref (ad x0), .int a1, .int a2]) ++ List.replicate (4 - (lg_sl ([.ref (ad x0), .int a1, .int a2])).length) Slot.unset).toArray = ls_ at hl ⊢
  refine wGen (fun Q hQ => ?_)
  obtain ⟨X, hX⟩ : ∃ X, f_Y3_write S0 x0 a1 a2 = X := ⟨_, rfl⟩
  have B_Y3_write_46 : ∀ (S : Cst) (x1 : Int32) (x2 : Int32) (x3 : Int32) (H : Heap) (locs : List Loc) (ls_ : Array Slot), b_Y3_write_46 S x0 x1 x2 x3 = X → q_Y3_write_46 S x0 x1 x2 x3 → eK S0 S → va_P G vwCl (wsC K ad S) H → va_D A (wsC K ad S) → va_S A s.heap H locs → lv_has ls_ 4 [(0, .ref (ad x0)), (1, .int x1), (2, .int x2), (3, .int x3)] → W p l e ({ frames := 0, cells := 0, slots := 0, locals := 0 } : Room) s m #[Value.ref (ad x0), Value.int a1, Value.int a2] below meth c H locs 0 0 Q (F0 m 46 ls_ []) := by
    intro S x1 x2 x3 H locs ls_ hE hp hZ hP hD hS hl
    unfold b_Y3_write_46 at hE
    unfold q_Y3_write_46 at hp
    subst hQ
    exact W.vret hx hb hr (fun t ht hW => ⟨⟨S, rfl, ⟨hE.trans hX.symm, hZ⟩, by rw [ht]; exact hP, hD⟩, hS.F ht⟩) hS.2.2 dX3_write_46
  have B_M : ∀ (S : Cst) (x1 : Int32) (x2 : Int32) (H : Heap) (locs : List Loc) (ls_ : Array Slot), f_Y3_write S x0 x1 x2 = X → p_Y3_write S x0 x1 x2 → eK S0 S → va_P G vwCl (wsC K ad S) H → va_D A (wsC K ad S) → va_S A s.heap H locs → lv_has ls_ 4 [(0, .ref (ad x0)), (1, .int x1), (2, .int x2)] → W p l e ({ frames := 0, cells := 0, slots := 0, locals := 0 } : Room) s m #[Value.ref (ad x0), Value.int a1, Value.int a2] below meth c H locs 0 0 Q (F0 m 0 ls_ []) := by
    intro S x1 x2 H locs ls_ hE hp hZ hP hD hS hl
    unfold f_Y3_write at hE
    unfold p_Y3_write at hp
    refine lv_aload_n hx hb dX3_write_0 rfl (lv_at hl 0 rfl) ?_
    refine va_get (D := G) (ci := 2) (v := .int (giC S x0 3)) (C := RX3) (T := TX3) (N := 4) hx hb hts iX3 hown hK hP x0 (at_2 (k_x0.e hZ)) rfl 3 (by decide) (hw (.fieldLink RX3 28 "MotionFloor$Ledger" "size" "I") (List.mem_of_getElem? (i := 0) rfl)) (fun _ h9 => h9) rfl dX3_write_1 ?_
    refine lv_iconst (v := 1) hx hb dX3_write_4 (by decide) ?_
    refine lv_isub hx hb dX3_write_5 ?_
    refine lv_aload_n hx hb dX3_write_6 rfl (lv_at hl 0 rfl) ?_
    refine va_get (D := G) (ci := 2) (v := .int (giC S x0 0)) (C := RX3) (T := TX3) (N := 4) hx hb hts iX3 hown hK hP x0 (at_2 (k_x0.e hZ)) rfl 0 (by decide) (hw (.fieldLink RX3 15 "MotionFloor$Ledger" "columns" "I") (List.mem_of_getElem? (i := 1) rfl)) (fun _ h9 => h9) rfl dX3_write_7 ?_
    refine lv_imul hx hb dX3_write_10 ?_
    refine lv_iload_n hx hb dX3_write_11 rfl (lv_at hl 1 rfl) ?_
    refine lv_iadd hx hb dX3_write_12 ?_
    refine lv_istore_n (i := 3) (lv' := [(3, .int ((((giC S x0 3) - 1) * (giC S x0 0)) + x1)), (0, .ref (ad x0)), (1, .int x1), (2, .int x2)]) hx hb dX3_write_13 rfl hl (by decide) rfl (fun ls_ hl => ?_)
    refine lv_iload_n hx hb dX3_write_14 rfl (lv_at hl 2 rfl) ?_
    refine lv_if_lt (tgt := 46) hx hb dX3_write_15 (by decide) (fun c1 => ?_) (fun c1 => ?_)
    · rw [if_pos c1] at hE hp
      exact B_Y3_write_46 S x1 x2 ((((giC S x0 3) - 1) * (giC S x0 0)) + x1) _ _ _ hE hp hZ hP hD hS (lv_sub hl [1, 2, 3, 0] rfl)
    · rw [if_neg c1] at hE hp
      refine lv_iload_n hx hb dX3_write_18 rfl (lv_at hl 2 rfl) ?_
      refine lv_aload_n hx hb dX3_write_19 rfl (lv_at hl 1 rfl) ?_
      refine va_get (D := G) (ci := 2) (v := .int (giC S x0 0)) (C := RX3) (T := TX3) (N := 4) hx hb hts iX3 hown hK hP x0 (at_2 (k_x0.e hZ)) rfl 0 (by decide) (hw (.fieldLink RX3 15 "MotionFloor$Ledger" "columns" "I") (List.mem_of_getElem? (i := 1) rfl)) (fun _ h9 => h9) rfl dX3_write_20 ?_
      refine lv_icmp_ge (tgt := 46) hx hb dX3_write_23 (by decide) (fun c2 => ?_) (fun c2 => ?_)
      · rw [if_pos c2] at hE hp
        exact B_Y3_write_46 S x1 x2 ((((giC S x0 3) - 1) * (giC S x0 0)) + x1) _ _ _ hE hp hZ hP hD hS (lv_sub hl [1, 2, 3, 0] rfl)
      · rw [if_neg c2] at hE hp
        refine lv_iload_n hx hb dX3_write_26 rfl (lv_at hl 0 rfl) ?_
        refine lv_if_lt (tgt := 46) hx hb dX3_write_27 (by decide) (fun c3 => ?_) (fun c3 => ?_)
        · rw [if_pos c3] at hE hp
          exact B_Y3_write_46 S x1 x2 ((((giC S x0 3) - 1) * (giC S x0 0)) + x1) _ _ _ hE hp hZ hP hD hS (lv_sub hl [1, 2, 3, 0] rfl)
        · rw [if_neg c3] at hE hp
          refine lv_iload_n hx hb dX3_write_30 rfl (lv_at hl 0 rfl) ?_
          refine lv_aload_n hx hb dX3_write_31 rfl (lv_at hl 1 rfl) ?_
          refine va_get (D := G) (ci := 2) (v := va_re ad (grC S x0 2)) (C := RX3) (T := TX3) (N := 4) hx hb hts iX3 hown hK hP x0 (at_2 (k_x0.e hZ)) rfl 2 (by decide) (hw (.fieldLink RX3 24 "MotionFloor$Ledger" "cells" "[I") (List.mem_of_getElem? (i := 2) rfl)) (fun _ h9 => h9) rfl dX3_write_32 ?_
          obtain ⟨hy4, hp⟩ := hp
          refine cTop (r := (grC S x0 2)) hy4.1 ?_
          refine va_alen (v := (Int32.ofNat (lnC S ((grC S x0 2).getD 0)))) hx hb hK hP ((grC S x0 2).getD 0) 0 (at_20 hy4.2) rfl rfl dX3_write_35 ?_
          refine lv_icmp_ge (tgt := 46) hx hb dX3_write_36 (by decide) (fun c5 => ?_) (fun c5 => ?_)
          · rw [if_pos c5] at hE hp
            exact B_Y3_write_46 S x1 x2 ((((giC S x0 3) - 1) * (giC S x0 0)) + x1) _ _ _ hE hp hZ hP hD hS (lv_sub hl [1, 2, 3, 0] rfl)
          · rw [if_neg c5] at hE hp
            refine lv_aload_n hx hb dX3_write_39 rfl (lv_at hl 1 rfl) ?_
            refine va_get (D := G) (ci := 2) (v := va_re ad (grC S x0 2)) (C := RX3) (T := TX3) (N := 4) hx hb hts iX3 hown hK hP x0 (at_2 (k_x0.e hZ)) rfl 2 (by decide) (hw (.fieldLink RX3 24 "MotionFloor$Ledger" "cells" "[I") (List.mem_of_getElem? (i := 2) rfl)) (fun _ h9 => h9) rfl dX3_write_40 ?_
            refine lv_iload_n hx hb dX3_write_43 rfl (lv_at hl 0 rfl) ?_
            refine lv_iload_n hx hb dX3_write_44 rfl (lv_at hl 3 rfl) ?_
            obtain ⟨hy6, hp⟩ := hp
            refine cTop3 (r := (grC S x0 2)) hy6.1 ?_
            obtain ⟨hy7, hp⟩ := hp
            refine va_iast hx hb hK hP hD hS ((grC S x0 2).getD 0) 0 (at_20 hy6.2) rfl hy7 dX3_write_45 (fun H locs hP hD hS => ?_)
            rw [sa_20 hy6.2] at hP hD
            have hZ := hZ.tr (eK.si S ((grC S x0 2).getD 0) ((((giC S x0 3) - 1) * (giC S x0 0)) + x1).toNatClampNeg x2)
            exact B_Y3_write_46 (siC S ((grC S x0 2).getD 0) ((((giC S x0 3) - 1) * (giC S x0 0)) + x1).toNatClampNeg x2) x1 x2 ((((giC S x0 3) - 1) * (giC S x0 0)) + x1) _ _ _ hE hp hZ hP hD hS (lv_sub hl [1, 2, 3, 0] rfl)
  exact B_M S0 a1 a2 _ _ _ hX hp (eK.rf S0) hP hD hS hl
theorem gdJ7_fill_031fb_0 : ckS (List.drop 0 cJ7_fill_031fb.data.toList) 0 [(0, .iconst 0, 1), (1, .istore_n 2, 1), (2, .aload_n 0, 1), (3, .arraylength, 1), (4, .istore_n 3, 1), (5, .iload_n 2, 1), (6, .iload_n 3, 1), (7, .if_icmp .ge 13, 3), (10, .aload_n 0, 1), (11, .iload_n 2, 1), (12, .iload_n 1, 1), (13, .bastore, 1), (14, .iinc 2 1, 3), (17, .goto (-12), 3), (20, .return_, 1)] = true := by decide +kernel
theorem dJ7_fill_031fb_0 : decode cJ7_fill_031fb 0 = .ok (.iconst 0, 1) := ckS_g gdJ7_fill_031fb_0 0 rfl
theorem dJ7_fill_031fb_1 : decode cJ7_fill_031fb 1 = .ok (.istore_n 2, 1) := ckS_g gdJ7_fill_031fb_0 1 rfl
theorem dJ7_fill_031fb_2 : decode cJ7_fill_031fb 2 = .ok (.aload_n 0, 1) := ckS_g gdJ7_fill_031fb_0 2 rfl
theorem dJ7_fill_031fb_3 : decode cJ7_fill_031fb 3 = .ok (.arraylength, 1) := ckS_g gdJ7_fill_031fb_0 3 rfl
theorem dJ7_fill_031fb_4 : decode cJ7_fill_031fb 4 = .ok (.istore_n 3, 1) := ckS_g gdJ7_fill_031fb_0 4 rfl
theorem dJ7_fill_031fb_5 : decode cJ7_fill_031fb 5 = .ok (.iload_n 2, 1) := ckS_g gdJ7_fill_031fb_0 5 rfl
theorem dJ7_fill_031fb_6 : decode cJ7_fill_031fb 6 = .ok (.iload_n 3, 1) := ckS_g gdJ7_fill_031fb_0 6 rfl
theorem dJ7_fill_031fb_7 : decode cJ7_fill_031fb 7 = .ok (.if_icmp .ge 13, 3) := ckS_g gdJ7_fill_031fb_0 7 rfl
theorem dJ7_fill_031fb_10 : decode cJ7_fill_031fb 10 = .ok (.aload_n 0, 1) := ckS_g gdJ7_fill_031fb_0 8 rfl
theorem dJ7_fill_031fb_11 : decode cJ7_fill_031fb 11 = .ok (.iload_n 2, 1) := ckS_g gdJ7_fill_031fb_0 9 rfl
theorem dJ7_fill_031fb_12 : decode cJ7_fill_031fb 12 = .ok (.iload_n 1, 1) := ckS_g gdJ7_fill_031fb_0 10 rfl
theorem dJ7_fill_031fb_13 : decode cJ7_fill_031fb 13 = .ok (.bastore, 1) := ckS_g gdJ7_fill_031fb_0 11 rfl
theorem dJ7_fill_031fb_14 : decode cJ7_fill_031fb 14 = .ok (.iinc 2 1, 3) := ckS_g gdJ7_fill_031fb_0 12 rfl
theorem dJ7_fill_031fb_17 : decode cJ7_fill_031fb 17 = .ok (.goto (-12), 3) := ckS_g gdJ7_fill_031fb_0 13 rfl
theorem dJ7_fill_031fb_20 : decode cJ7_fill_031fb 20 = .ok (.return_, 1) := ckS_g gdJ7_fill_031fb_0 14 rfl
theorem gdX4_keepTextAs_0 : ckS (List.drop 0 cX4_keepTextAs.data.toList) 0 [(0, .aload_n 0, 1), (1, .iconst 0, 1), (2, .putfield 30, 3), (5, .aload_n 0, 1), (6, .iconst 0, 1), (7, .putfield 33, 3), (10, .aload_n 0, 1), (11, .iload_n 1, 1), (12, .putfield 36, 3), (15, .aload_n 0, 1), (16, .iconst (-1), 1), (17, .putfield 39, 3), (20, .aload_n 0, 1), (21, .iconst (-1), 1), (22, .putfield 42, 3), (25, .aload_n 0, 1), (26, .iconst 0, 1), (27, .putfield 45, 3), (30, .aload_n 0, 1), (31, .iconst 0, 1), (32, .putfield 48, 3), (35, .aload_n 0, 1), (36, .iconst 0, 1), (37, .putfield 51, 3), (40, .aload_n 0, 1), (41, .iconst 0, 1), (42, .putfield 55, 3), (45, .aload_n 0, 1), (46, .iconst 0, 1), (47, .putfield 58, 3), (50, .aload_n 0, 1), (51, .iconst 0, 1), (52, .putfield 61, 3), (55, .aload_n 0, 1), (56, .iconst 0, 1), (57, .putfield 64, 3), (60, .aload_n 0, 1), (61, .getfield 67, 3), (64, .ifCond .le 16, 3), (67, .aload_n 0, 1)] = true := by decide +kernel
theorem dX4_keepTextAs_0 : decode cX4_keepTextAs 0 = .ok (.aload_n 0, 1) := ckS_g gdX4_keepTextAs_0 0 rfl
theorem dX4_keepTextAs_1 : decode cX4_keepTextAs 1 = .ok (.iconst 0, 1) := ckS_g gdX4_keepTextAs_0 1 rfl
theorem dX4_keepTextAs_2 : decode cX4_keepTextAs 2 = .ok (.putfield 30, 3) := ckS_g gdX4_keepTextAs_0 2 rfl
theorem dX4_keepTextAs_5 : decode cX4_keepTextAs 5 = .ok (.aload_n 0, 1) := ckS_g gdX4_keepTextAs_0 3 rfl
theorem dX4_keepTextAs_6 : decode cX4_keepTextAs 6 = .ok (.iconst 0, 1) := ckS_g gdX4_keepTextAs_0 4 rfl
theorem dX4_keepTextAs_7 : decode cX4_keepTextAs 7 = .ok (.putfield 33, 3) := ckS_g gdX4_keepTextAs_0 5 rfl
theorem dX4_keepTextAs_10 : decode cX4_keepTextAs 10 = .ok (.aload_n 0, 1) := ckS_g gdX4_keepTextAs_0 6 rfl
theorem dX4_keepTextAs_11 : decode cX4_keepTextAs 11 = .ok (.iload_n 1, 1) := ckS_g gdX4_keepTextAs_0 7 rfl
theorem dX4_keepTextAs_12 : decode cX4_keepTextAs 12 = .ok (.putfield 36, 3) := ckS_g gdX4_keepTextAs_0 8 rfl
theorem dX4_keepTextAs_15 : decode cX4_keepTextAs 15 = .ok (.aload_n 0, 1) := ckS_g gdX4_keepTextAs_0 9 rfl
theorem dX4_keepTextAs_16 : decode cX4_keepTextAs 16 = .ok (.iconst (-1), 1) := ckS_g gdX4_keepTextAs_0 10 rfl
theorem dX4_keepTextAs_17 : decode cX4_keepTextAs 17 = .ok (.putfield 39, 3) := ckS_g gdX4_keepTextAs_0 11 rfl
theorem dX4_keepTextAs_20 : decode cX4_keepTextAs 20 = .ok (.aload_n 0, 1) := ckS_g gdX4_keepTextAs_0 12 rfl
theorem dX4_keepTextAs_21 : decode cX4_keepTextAs 21 = .ok (.iconst (-1), 1) := ckS_g gdX4_keepTextAs_0 13 rfl
theorem dX4_keepTextAs_22 : decode cX4_keepTextAs 22 = .ok (.putfield 42, 3) := ckS_g gdX4_keepTextAs_0 14 rfl
theorem dX4_keepTextAs_25 : decode cX4_keepTextAs 25 = .ok (.aload_n 0, 1) := ckS_g gdX4_keepTextAs_0 15 rfl
theorem dX4_keepTextAs_26 : decode cX4_keepTextAs 26 = .ok (.iconst 0, 1) := ckS_g gdX4_keepTextAs_0 16 rfl
theorem dX4_keepTextAs_27 : decode cX4_keepTextAs 27 = .ok (.putfield 45, 3) := ckS_g gdX4_keepTextAs_0 17 rfl
theorem dX4_keepTextAs_30 : decode cX4_keepTextAs 30 = .ok (.aload_n 0, 1) := ckS_g gdX4_keepTextAs_0 18 rfl
theorem dX4_keepTextAs_31 : decode cX4_keepTextAs 31 = .ok (.iconst 0, 1) := ckS_g gdX4_keepTextAs_0 19 rfl
theorem dX4_keepTextAs_32 : decode cX4_keepTextAs 32 = .ok (.putfield 48, 3) := ckS_g gdX4_keepTextAs_0 20 rfl
theorem dX4_keepTextAs_35 : decode cX4_keepTextAs 35 = .ok (.aload_n 0, 1) := ckS_g gdX4_keepTextAs_0 21 rfl
theorem dX4_keepTextAs_36 : decode cX4_keepTextAs 36 = .ok (.iconst 0, 1) := ckS_g gdX4_keepTextAs_0 22 rfl
theorem dX4_keepTextAs_37 : decode cX4_keepTextAs 37 = .ok (.putfield 51, 3) := ckS_g gdX4_keepTextAs_0 23 rfl
theorem dX4_keepTextAs_40 : decode cX4_keepTextAs 40 = .ok (.aload_n 0, 1) := ckS_g gdX4_keepTextAs_0 24 rfl
theorem dX4_keepTextAs_41 : decode cX4_keepTextAs 41 = .ok (.iconst 0, 1) := ckS_g gdX4_keepTextAs_0 25 rfl
theorem dX4_keepTextAs_42 : decode cX4_keepTextAs 42 = .ok (.putfield 55, 3) := ckS_g gdX4_keepTextAs_0 26 rfl
theorem dX4_keepTextAs_45 : decode cX4_keepTextAs 45 = .ok (.aload_n 0, 1) := ckS_g gdX4_keepTextAs_0 27 rfl
theorem dX4_keepTextAs_46 : decode cX4_keepTextAs 46 = .ok (.iconst 0, 1) := ckS_g gdX4_keepTextAs_0 28 rfl
theorem dX4_keepTextAs_47 : decode cX4_keepTextAs 47 = .ok (.putfield 58, 3) := ckS_g gdX4_keepTextAs_0 29 rfl
theorem dX4_keepTextAs_50 : decode cX4_keepTextAs 50 = .ok (.aload_n 0, 1) := ckS_g gdX4_keepTextAs_0 30 rfl
theorem dX4_keepTextAs_51 : decode cX4_keepTextAs 51 = .ok (.iconst 0, 1) := ckS_g gdX4_keepTextAs_0 31 rfl
theorem dX4_keepTextAs_52 : decode cX4_keepTextAs 52 = .ok (.putfield 61, 3) := ckS_g gdX4_keepTextAs_0 32 rfl
theorem dX4_keepTextAs_55 : decode cX4_keepTextAs 55 = .ok (.aload_n 0, 1) := ckS_g gdX4_keepTextAs_0 33 rfl
theorem dX4_keepTextAs_56 : decode cX4_keepTextAs 56 = .ok (.iconst 0, 1) := ckS_g gdX4_keepTextAs_0 34 rfl
theorem dX4_keepTextAs_57 : decode cX4_keepTextAs 57 = .ok (.putfield 64, 3) := ckS_g gdX4_keepTextAs_0 35 rfl
theorem dX4_keepTextAs_60 : decode cX4_keepTextAs 60 = .ok (.aload_n 0, 1) := ckS_g gdX4_keepTextAs_0 36 rfl
theorem dX4_keepTextAs_61 : decode cX4_keepTextAs 61 = .ok (.getfield 67, 3) := ckS_g gdX4_keepTextAs_0 37 rfl
theorem dX4_keepTextAs_64 : decode cX4_keepTextAs 64 = .ok (.ifCond .le 16, 3) := ckS_g gdX4_keepTextAs_0 38 rfl
theorem dX4_keepTextAs_67 : decode cX4_keepTextAs 67 = .ok (.aload_n 0, 1) := ckS_g gdX4_keepTextAs_0 39 rfl
theorem gdX4_keepTextAs_68 : ckS (List.drop 68 cX4_keepTextAs.data.toList) 68 [(68, .getfield 18, 3), (71, .iconst 0, 1), (72, .invokestatic 70, 3), (80, .return_, 1)] = true := by decide +kernel
theorem dX4_keepTextAs_68 : decode cX4_keepTextAs 68 = .ok (.getfield 18, 3) := ckS_g gdX4_keepTextAs_68 0 rfl
theorem dX4_keepTextAs_71 : decode cX4_keepTextAs 71 = .ok (.iconst 0, 1) := ckS_g gdX4_keepTextAs_68 1 rfl
theorem dX4_keepTextAs_72 : decode cX4_keepTextAs 72 = .ok (.invokestatic 70, 3) := ckS_g gdX4_keepTextAs_68 2 rfl
theorem dX4_keepTextAs_80 : decode cX4_keepTextAs 80 = .ok (.return_, 1) := ckS_g gdX4_keepTextAs_68 3 rfl
theorem gdX4_renew_0 : ckS (List.drop 0 cX4_renew.data.toList) 0 [(0, .aload_n 0, 1), (1, .iload_n 1, 1), (2, .invokevirtual 22, 3)] = true := by decide +kernel
theorem dX4_renew_0 : decode cX4_renew 0 = .ok (.aload_n 0, 1) := ckS_g gdX4_renew_0 0 rfl
theorem dX4_renew_1 : decode cX4_renew 1 = .ok (.iload_n 1, 1) := ckS_g gdX4_renew_0 1 rfl
theorem dX4_renew_2 : decode cX4_renew 2 = .ok (.invokevirtual 22, 3) := ckS_g gdX4_renew_0 2 rfl
set_option maxRecDepth 100000 in
theorem zc245 : wZ (.code yJ7_fill_031fb cJ7_fill_031fb 4 none) := ⟨wT3 (List.mem_of_getElem? (i := 106) rfl), Or.inl rfl⟩
def st_K7_fill_031fb_5 (S : Cst) (x0 : Nat) (x1 : Int32) (x2 : Int32) (x3 : Int32) : (Int32 × Cst) ⊕ (Cst × Int32 × Int32 × Int32) := if x3 ≤ x2 then Sum.inl ((0, S)) else Sum.inr ((siC S x0 x2.toNatClampNeg (vp_nar .byte x1)), x1, (x2 + 1), x3)
def ps_K7_fill_031fb_5 (S : Cst) (x0 : Nat) (x1 : Int32) (x2 : Int32) (x3 : Int32) : Prop := (if x3 ≤ x2 then True else (vp_in x2 (lnC S x0)) ∧ True)
def lp_K7_fill_031fb_5 (x0 : Nat) : Nat → Cst → Int32 → Int32 → Int32 → Int32 × Cst
  | 0, S, _, _, _ => (0, S)
  | n + 1, S, x1, x2, x3 => match st_K7_fill_031fb_5 S x0 x1 x2 x3 with
    | Sum.inl r => r
    | Sum.inr q => lp_K7_fill_031fb_5 x0 n q.1 q.2.1 q.2.2.1 q.2.2.2
def lq_K7_fill_031fb_5 (x0 : Nat) : Nat → Cst → Int32 → Int32 → Int32 → Prop
  | 0, _, _, _, _ => False
  | n + 1, S, x1, x2, x3 => ps_K7_fill_031fb_5 S x0 x1 x2 x3 ∧ (match st_K7_fill_031fb_5 S x0 x1 x2 x3 with
    | Sum.inl _ => True
    | Sum.inr q => lq_K7_fill_031fb_5 x0 n q.1 q.2.1 q.2.2.1 q.2.2.2)
def f_K7_fill_031fb (S : Cst) (x0 : Nat) (x1 : Int32) : Int32 × Cst := (lp_K7_fill_031fb_5 x0 100000 S x1 0 (Int32.ofNat (lnC S x0)))
def p_K7_fill_031fb (S : Cst) (x0 : Nat) (x1 : Int32) : Prop := (lq_K7_fill_031fb_5 x0 100000 S x1 0 (Int32.ofNat (lnC S x0)))
def e_K7_fill_031fb : List Cond := []
def v_K7_fill_031fb : List Cond := .code yJ7_fill_031fb cJ7_fill_031fb 4 none :: (e_K7_fill_031fb ++ [])
theorem te_K7_fill_031fb : GoodIn lw_tbl e_K7_fill_031fb := wG0
theorem t_K7_fill_031fb : GoodIn lw_tbl v_K7_fill_031fb := wGc zc245 (wGa te_K7_fill_031fb (wG0))
set_option maxHeartbeats 4000000 in
set_option maxRecDepth 100000 in
theorem c_K7_fill_031fb (l : Launch) (G : va_G) (K : Nat → ClassId) (ad : Nat → Nat) (S0 : Cst) (x0 : Nat) (a1 : Int32) (sz : Nat) : Met l yJ7_fill_031fb v_K7_fill_031fb ({ frames := 0, cells := 0, slots := 0, locals := 0 }) (va_Pc [.ref (ad x0), .int a1] (cSt G K ad sz S0 (iK S0 x0 22 ∧ p_K7_fill_031fb S0 x0 a1))) (va_Qv (fun u : Cst => (0, u) = f_K7_fill_031fb S0 x0 a1 ∧ eK S0 u) (cBt G K ad (va_A (wsC K ad S0) sz)) (va_A (wsC K ad S0) sz)) 0 0 (va_A (wsC K ad S0) sz) := by
  refine Met.ofW (cc := cJ7_fill_031fb) (maxL := 4) (ret := none) (by decide) rfl ?_
  intro p e s m args below meth c s₁ B hml hv
  obtain ⟨rfl, ⟨hsz, hP, hK, hD0, hTE⟩, hp⟩ := hv
  obtain ⟨k_x0, hp⟩ := hp
  have hx := B.exec
  have hb := B.bytes
  have hr := B.returns
  have hts := atoms_spec (ws := v_K7_fill_031fb) B.pre
  have t_ := t_K7_fill_031fb
  have mw : ∀ w ∈ e_K7_fill_031fb, w ∈ v_K7_fill_031fb := fun w h => List.mem_cons_of_mem _ (List.mem_append_left _ h)
  have hw := fun w (h : w ∈ e_K7_fill_031fb) => hts w (mw w h)
  have hown : s.vm.findClass RJ7 = some m.cls := findClass_of_methodNamed B.named
  have hlocks := B.notSynchronized
  subst hsz
  have hD := hD0.self (sz := s.heap.size)
  generalize hAe : va_A (wsC K ad S0) s.heap.size = A at hD ⊢
  have hA : ∀ q : Nat, s.heap.size ≤ q → A q := fun q h => by rw [← hAe]; exact Or.inr h
  have hS : va_S A s.heap s.heap [] := va_S.rf
  have hl : lv_has (lg_sl ([.ref (ad x0), .int a1]) ++ List.replicate (4 - (lg_sl ([.ref (ad x0), .int a1])).length) Slot.unset).toArray 4 [(0, .ref (ad x0)), (1, .int a1)] := by
    exact lv_entry ([.ref (ad x0), .int a1]) (n := 4) (Nat.le_of_ble_eq_true rfl)
  rw [lg_entry_eq]
  generalize (lg_sl ([.ref (ad x0), .int a1]) ++ List.replicate (4 - (lg_sl ([.ref (ad x0), .int a1])).length) Slot.unset).toArray = ls_ at hl ⊢
  refine wGen (fun Q hQ => ?_)
  obtain ⟨X, hX⟩ : ∃ X, f_K7_fill_031fb S0 x0 a1 = X := ⟨_, rfl⟩
  have L_5 : ∀ (n : Nat) (S : Cst) (x1 : Int32) (x2 : Int32) (x3 : Int32) (H : Heap) (locs : List Loc) (ls_ : Array Slot), lp_K7_fill_031fb_5 x0 n S x1 x2 x3 = X → lq_K7_fill_031fb_5 x0 n S x1 x2 x3 → eK S0 S → va_P G vwCl (wsC K ad S) H → va_D A (wsC K ad S) → va_S A s.heap H locs → lv_has ls_ 4 [(0, .ref (ad x0)), (1, .int x1), (2, .int x2), (3, .int x3)] → W p l e ({ frames := 0, cells := 0, slots := 0, locals := 0 } : Room) s m #[Value.ref (ad x0), Value.int a1] below meth c H locs 0 0 Q (F0 m 5 ls_ []) := by
    intro n1
    induction n1 with
    | zero => intro S x1 x2 x3 H locs ls_ hE hp; exact False.elim hp
    | succ n1 ih1 =>
      intro S x1 x2 x3 H locs ls_ hO1 hp hZ hP hD hS hl
      rw [lp_K7_fill_031fb_5] at hO1
      rw [lq_K7_fill_031fb_5] at hp
      obtain ⟨hp, hq1⟩ := hp
      generalize hE : st_K7_fill_031fb_5 S x0 x1 x2 x3 = Y1 at hO1 hq1
      unfold st_K7_fill_031fb_5 at hE
      unfold ps_K7_fill_031fb_5 at hp
      refine lv_iload_n hx hb dJ7_fill_031fb_5 rfl (lv_at hl 2 rfl) ?_
      refine lv_iload_n hx hb dJ7_fill_031fb_6 rfl (lv_at hl 3 rfl) ?_
      refine lv_icmp_ge (tgt := 20) hx hb dJ7_fill_031fb_7 (by decide) (fun c1 => ?_) (fun c1 => ?_)
      · rw [if_pos c1] at hE hp
        subst hE
        have hE := hO1
        dsimp only at hE
        subst hQ
        exact W.vret hx hb hr (fun t ht hW => ⟨⟨S, rfl, ⟨hE.trans hX.symm, hZ⟩, by rw [ht]; exact hP, hD⟩, hS.F ht⟩) hS.2.2 dJ7_fill_031fb_20
      · rw [if_neg c1] at hE hp
        refine lv_aload_n hx hb dJ7_fill_031fb_10 rfl (lv_at hl 0 rfl) ?_
        refine lv_iload_n hx hb dJ7_fill_031fb_11 rfl (lv_at hl 2 rfl) ?_
        refine lv_iload_n hx hb dJ7_fill_031fb_12 rfl (lv_at hl 1 rfl) ?_
        obtain ⟨hy2, hp⟩ := hp
        refine va_bast hx hb hK hP hD hS x0 2 (at_22 (k_x0.e hZ)) rfl hy2 dJ7_fill_031fb_13 (fun H locs hP hD hS => ?_)
        rw [sa_22 (k_x0.e hZ)] at hP hD
        have hZ := hZ.tr (eK.si S x0 x2.toNatClampNeg (vp_nar .byte x1))
        refine lv_iinc (i := 2) (v := (x2 + 1)) (lv' := [(2, .int (x2 + 1)), (0, .ref (ad x0)), (1, .int x1), (3, .int x3)]) hx hb dJ7_fill_031fb_14 hl (k := 2) rfl rfl (by decide) rfl (fun ls_ hl => ?_)
        refine lv_goto (tgt := 5) hx hb dJ7_fill_031fb_17 (by decide) ?_
        subst hE
        dsimp only at hO1 hq1
        exact ih1 (siC S x0 x2.toNatClampNeg (vp_nar .byte x1)) x1 (x2 + 1) x3 _ _ _ hO1 hq1 hZ hP hD hS (lv_sub hl [1, 2, 0, 3] rfl)
  have B_M : ∀ (S : Cst) (x1 : Int32) (H : Heap) (locs : List Loc) (ls_ : Array Slot), f_K7_fill_031fb S x0 x1 = X → p_K7_fill_031fb S x0 x1 → eK S0 S → va_P G vwCl (wsC K ad S) H → va_D A (wsC K ad S) → va_S A s.heap H locs → lv_has ls_ 4 [(0, .ref (ad x0)), (1, .int x1)] → W p l e ({ frames := 0, cells := 0, slots := 0, locals := 0 } : Room) s m #[Value.ref (ad x0), Value.int a1] below meth c H locs 0 0 Q (F0 m 0 ls_ []) := by
    intro S x1 H locs ls_ hE hp hZ hP hD hS hl
    unfold f_K7_fill_031fb at hE
    unfold p_K7_fill_031fb at hp
    refine lv_iconst (v := 0) hx hb dJ7_fill_031fb_0 (by decide) ?_
    refine lv_istore_n (i := 2) (lv' := [(2, .int 0), (0, .ref (ad x0)), (1, .int x1)]) hx hb dJ7_fill_031fb_1 rfl hl (by decide) rfl (fun ls_ hl => ?_)
    refine lv_aload_n hx hb dJ7_fill_031fb_2 rfl (lv_at hl 1 rfl) ?_
    refine va_alen (v := (Int32.ofNat (lnC S x0))) hx hb hK hP x0 2 (at_22 (k_x0.e hZ)) rfl rfl dJ7_fill_031fb_3 ?_
    refine lv_istore_n (i := 3) (lv' := [(3, .int (Int32.ofNat (lnC S x0))), (2, .int 0), (0, .ref (ad x0)), (1, .int x1)]) hx hb dJ7_fill_031fb_4 rfl hl (by decide) rfl (fun ls_ hl => ?_)
    exact L_5 100000 S x1 0 (Int32.ofNat (lnC S x0)) _ _ _ hE hp hZ hP hD hS (lv_sub hl [2, 3, 1, 0] rfl)
  exact B_M S0 a1 _ _ _ hX hp (eK.rf S0) hP hD hS hl
theorem gdX4_keepTextAs_75 : ckS (List.drop 75 cX4_keepTextAs.data.toList) 75 [(75, .aload_n 0, 1), (76, .iconst 0, 1), (77, .putfield 67, 3)] = true := by decide +kernel
theorem dX4_keepTextAs_75 : decode cX4_keepTextAs 75 = .ok (.aload_n 0, 1) := ckS_g gdX4_keepTextAs_75 0 rfl
theorem dX4_keepTextAs_76 : decode cX4_keepTextAs 76 = .ok (.iconst 0, 1) := ckS_g gdX4_keepTextAs_75 1 rfl
theorem dX4_keepTextAs_77 : decode cX4_keepTextAs 77 = .ok (.putfield 67, 3) := ckS_g gdX4_keepTextAs_75 2 rfl
set_option maxRecDepth 100000 in
theorem zc246 : wZ (.static yJ7_fill_031fb) := ⟨wT3 (List.mem_of_getElem? (i := 105) (by decide +kernel)), Or.inl rfl⟩
set_option maxRecDepth 100000 in
theorem zc247 : wZ (.methodLink RX4 70 yJ7_fill_031fb) := ⟨wT3 (List.mem_of_getElem? (i := 104) (by decide +kernel)), Or.inl rfl⟩
set_option maxRecDepth 100000 in
theorem zc248 : wZ (.fieldLink RX4 67 "MotionFloor$Motion" "voters" "I") := ⟨wT3 (List.mem_of_getElem? (i := 60) (by decide +kernel)), Or.inl rfl⟩
set_option maxRecDepth 100000 in
theorem zc249 : wZ (.fieldLink RX4 64 "MotionFloor$Motion" "outOfOrder" "Z") := ⟨wT3 (List.mem_of_getElem? (i := 50) (by decide +kernel)), Or.inl rfl⟩
set_option maxRecDepth 100000 in
theorem zc250 : wZ (.fieldLink RX4 61 "MotionFloor$Motion" "laid" "Z") := ⟨wT3 (List.mem_of_getElem? (i := 46) (by decide +kernel)), Or.inl rfl⟩
set_option maxRecDepth 100000 in
theorem zc251 : wZ (.fieldLink RX4 58 "MotionFloor$Motion" "to" "I") := ⟨wT3 (List.mem_of_getElem? (i := 41) (by decide +kernel)), Or.inl rfl⟩
set_option maxRecDepth 100000 in
theorem zc252 : wZ (.fieldLink RX4 55 "MotionFloor$Motion" "from" "I") := ⟨wT3 (List.mem_of_getElem? (i := 36) (by decide +kernel)), Or.inl rfl⟩
set_option maxRecDepth 100000 in
theorem zc253 : wZ (.fieldLink RX4 51 "MotionFloor$Motion" "closed" "Z") := ⟨wT3 (List.mem_of_getElem? (i := 33) (by decide +kernel)), Or.inl rfl⟩
set_option maxRecDepth 100000 in
theorem zc254 : wZ (.fieldLink RX4 48 "MotionFloor$Motion" "speeches" "I") := ⟨wT3 (List.mem_of_getElem? (i := 31) (by decide +kernel)), Or.inl rfl⟩
set_option maxRecDepth 100000 in
theorem zc255 : wZ (.fieldLink RX4 45 "MotionFloor$Motion" "floors" "I") := ⟨wT3 (List.mem_of_getElem? (i := 29) (by decide +kernel)), Or.inl rfl⟩
set_option maxRecDepth 100000 in
theorem zc256 : wZ (.fieldLink RX4 42 "MotionFloor$Motion" "seconder" "I") := ⟨wT3 (List.mem_of_getElem? (i := 25) (by decide +kernel)), Or.inl rfl⟩
set_option maxRecDepth 100000 in
theorem zc257 : wZ (.fieldLink RX4 39 "MotionFloor$Motion" "mover" "I") := ⟨wT3 (List.mem_of_getElem? (i := 20) (by decide +kernel)), Or.inl rfl⟩
set_option maxRecDepth 100000 in
theorem zc258 : wZ (.fieldLink RX4 33 "MotionFloor$Motion" "subject" "I") := ⟨wT3 (List.mem_of_getElem? (i := 10) (by decide +kernel)), Or.inl rfl⟩
set_option maxRecDepth 100000 in
theorem zc259 : wZ (.fieldLink RX4 30 "MotionFloor$Motion" "name" "I") := ⟨wT3 (List.mem_of_getElem? (i := 6) (by decide +kernel)), Or.inl rfl⟩
set_option maxRecDepth 100000 in
theorem zc260 : wZ (.code yX4_keepTextAs cX4_keepTextAs 2 none) := ⟨wT3 (List.mem_of_getElem? (i := 103) rfl), Or.inl rfl⟩
def b_Y4_keepTextAs_80 (S : Cst) (x0 : Nat) (x1 : Int32) : Int32 × Cst := (0, S)
def q_Y4_keepTextAs_80 (S : Cst) (x0 : Nat) (x1 : Int32) : Prop := True
def b_Y4_keepTextAs_75a (S : Cst) (x0 : Nat) (x1 : Int32) : Int32 × Cst := (b_Y4_keepTextAs_80 (siC S x0 14 (0 : Int32)) x0 x1)
def q_Y4_keepTextAs_75a (S : Cst) (x0 : Nat) (x1 : Int32) : Prop := (q_Y4_keepTextAs_80 (siC S x0 14 (0 : Int32)) x0 x1)
def b_Y4_keepTextAs_60a (S : Cst) (x0 : Nat) (x1 : Int32) : Int32 × Cst := if (giC S x0 14) ≤ 0 then (b_Y4_keepTextAs_80 S x0 x1) else (b_Y4_keepTextAs_75a ((f_K7_fill_031fb S ((grC S x0 13).getD 0) (0 : Int32)).2) x0 x1)
def q_Y4_keepTextAs_60a (S : Cst) (x0 : Nat) (x1 : Int32) : Prop := (if (giC S x0 14) ≤ 0 then (q_Y4_keepTextAs_80 S x0 x1) else (iR S (grC S x0 13) 22) ∧ (p_K7_fill_031fb S ((grC S x0 13).getD 0) (0 : Int32)) ∧ (q_Y4_keepTextAs_75a ((f_K7_fill_031fb S ((grC S x0 13).getD 0) (0 : Int32)).2) x0 x1))
def f_Y4_keepTextAs (S : Cst) (x0 : Nat) (x1 : Int32) : Int32 × Cst := (b_Y4_keepTextAs_60a (siC (siC (siC (siC (siC (siC (siC (siC (siC (siC (siC (siC S x0 0 (0 : Int32)) x0 1 (0 : Int32)) x0 2 x1) x0 3 ((-1) : Int32)) x0 4 ((-1) : Int32)) x0 5 (0 : Int32)) x0 6 (0 : Int32)) x0 7 (0 : Int32)) x0 8 (0 : Int32)) x0 9 (0 : Int32)) x0 10 (0 : Int32)) x0 11 (0 : Int32)) x0 x1)
def p_Y4_keepTextAs (S : Cst) (x0 : Nat) (x1 : Int32) : Prop := (q_Y4_keepTextAs_60a (siC (siC (siC (siC (siC (siC (siC (siC (siC (siC (siC (siC S x0 0 (0 : Int32)) x0 1 (0 : Int32)) x0 2 x1) x0 3 ((-1) : Int32)) x0 4 ((-1) : Int32)) x0 5 (0 : Int32)) x0 6 (0 : Int32)) x0 7 (0 : Int32)) x0 8 (0 : Int32)) x0 9 (0 : Int32)) x0 10 (0 : Int32)) x0 11 (0 : Int32)) x0 x1)
def e_Y4_keepTextAs : List Cond := [.fieldLink RX4 30 "MotionFloor$Motion" "name" "I", .fieldLink RX4 33 "MotionFloor$Motion" "subject" "I", .fieldLink RX4 36 "MotionFloor$Motion" "kind" "I", .fieldLink RX4 39 "MotionFloor$Motion" "mover" "I", .fieldLink RX4 42 "MotionFloor$Motion" "seconder" "I", .fieldLink RX4 45 "MotionFloor$Motion" "floors" "I", .fieldLink RX4 48 "MotionFloor$Motion" "speeches" "I", .fieldLink RX4 51 "MotionFloor$Motion" "closed" "Z", .fieldLink RX4 55 "MotionFloor$Motion" "from" "I", .fieldLink RX4 58 "MotionFloor$Motion" "to" "I", .fieldLink RX4 61 "MotionFloor$Motion" "laid" "Z", .fieldLink RX4 64 "MotionFloor$Motion" "outOfOrder" "Z", .fieldLink RX4 67 "MotionFloor$Motion" "voters" "I", .fieldLink RX4 18 "MotionFloor$Motion" "votes" "[B", .methodLink RX4 70 yJ7_fill_031fb, .static yJ7_fill_031fb, .initialized RJ7]
def v_Y4_keepTextAs : List Cond := .code yX4_keepTextAs cX4_keepTextAs 2 none :: (e_Y4_keepTextAs ++ (wsX40 ++ (v_K7_fill_031fb ++ [])))
theorem te_Y4_keepTextAs : GoodIn lw_tbl e_Y4_keepTextAs := wGc zc259 (wGc zc258 (wGc zc166 (wGc zc257 (wGc zc256 (wGc zc255 (wGc zc254 (wGc zc253 (wGc zc252 (wGc zc251 (wGc zc250 (wGc zc249 (wGc zc248 (wGc zc231 (wGc zc247 (wGc zc246 (wGc zc73 (wG0)))))))))))))))))
theorem t_Y4_keepTextAs : GoodIn lw_tbl v_Y4_keepTextAs := wGc zc260 (wGa te_Y4_keepTextAs (wGa zcX4 (wGa t_K7_fill_031fb (wG0))))
set_option maxHeartbeats 4000000 in
set_option maxRecDepth 100000 in
theorem c_Y4_keepTextAs (l : Launch) (G : va_G) (K : Nat → ClassId) (ad : Nat → Nat) (S0 : Cst) (x0 : Nat) (a1 : Int32) (sz : Nat) : Met l yX4_keepTextAs v_Y4_keepTextAs ({ frames := 1, cells := 0, slots := 0, locals := 23 }) (va_Pc [.ref (ad x0), .int a1] (cSt G K ad sz S0 (iK S0 x0 3 ∧ p_Y4_keepTextAs S0 x0 a1))) (va_Qv (fun u : Cst => (0, u) = f_Y4_keepTextAs S0 x0 a1 ∧ eK S0 u) (cBt G K ad (va_A (wsC K ad S0) sz)) (va_A (wsC K ad S0) sz)) 0 0 (va_A (wsC K ad S0) sz) := by
  refine Met.ofW (cc := cX4_keepTextAs) (maxL := 2) (ret := none) (by decide) rfl ?_
  intro p e s m args below meth c s₁ B hml hv
  obtain ⟨rfl, ⟨hsz, hP, hK, hD0, hTE⟩, hp⟩ := hv
  obtain ⟨k_x0, hp⟩ := hp
  have hx := B.exec
  have hb := B.bytes
  have hr := B.returns
  have hts := atoms_spec (ws := v_Y4_keepTextAs) B.pre
  have t_ := t_Y4_keepTextAs
  have mw : ∀ w ∈ e_Y4_keepTextAs, w ∈ v_Y4_keepTextAs := fun w h => List.mem_cons_of_mem _ (List.mem_append_left _ h)
  have hw := fun w (h : w ∈ e_Y4_keepTextAs) => hts w (mw w h)
  have iX4 : ∀ w ∈ wsX40, w ∈ v_Y4_keepTextAs := fun w h => List.mem_cons_of_mem _ (List.mem_append_right _ (List.mem_append_left _ h))
  have j_K7_fill_031fb : ∀ w ∈ v_K7_fill_031fb, w ∈ v_Y4_keepTextAs := fun w h => List.mem_cons_of_mem _ (List.mem_append_right _ (List.mem_append_right _ (List.mem_append_left _ h)))
  have hown : s.vm.findClass RX4 = some m.cls := findClass_of_methodNamed B.named
  have hlocks := B.notSynchronized
  subst hsz
  have hD := hD0.self (sz := s.heap.size)
  generalize hAe : va_A (wsC K ad S0) s.heap.size = A at hD ⊢
  have hA : ∀ q : Nat, s.heap.size ≤ q → A q := fun q h => by rw [← hAe]; exact Or.inr h
  have hS : va_S A s.heap s.heap [] := va_S.rf
  have hl : lv_has (lg_sl ([.ref (ad x0), .int a1]) ++ List.replicate (2 - (lg_sl ([.ref (ad x0), .int a1])).length) Slot.unset).toArray 2 [(0, .ref (ad x0)), (1, .int a1)] := by
    exact lv_entry ([.ref (ad x0), .int a1]) (n := 2) (Nat.le_of_ble_eq_true rfl)
  rw [lg_entry_eq]
  generalize (lg_sl ([.ref (ad x0), .int a1]) ++ List.replicate (2 - (lg_sl ([.ref (ad x0), .int a1])).length) Slot.unset).toArray = ls_ at hl ⊢
  refine wGen (fun Q hQ => ?_)
  obtain ⟨X, hX⟩ : ∃ X, f_Y4_keepTextAs S0 x0 a1 = X := ⟨_, rfl⟩
  have B_Y4_keepTextAs_80 : ∀ (S : Cst) (x1 : Int32) (H : Heap) (locs : List Loc) (ls_ : Array Slot), b_Y4_keepTextAs_80 S x0 x1 = X → q_Y4_keepTextAs_80 S x0 x1 → eK S0 S → va_P G vwCl (wsC K ad S) H → va_D A (wsC K ad S) → va_S A s.heap H locs → lv_has ls_ 2 [(0, .ref (ad x0)), (1, .int x1)] → W p l e ({ frames := 1, cells := 0, slots := 0, locals := 23 } : Room) s m #[Value.ref (ad x0), Value.int a1] below meth c H locs 0 0 Q (F0 m 80 ls_ []) := by
    intro S x1 H locs ls_ hE hp hZ hP hD hS hl
    unfold b_Y4_keepTextAs_80 at hE
    unfold q_Y4_keepTextAs_80 at hp
    subst hQ
    exact W.vret hx hb hr (fun t ht hW => ⟨⟨S, rfl, ⟨hE.trans hX.symm, hZ⟩, by rw [ht]; exact hP, hD⟩, hS.F ht⟩) hS.2.2 dX4_keepTextAs_80
  have B_Y4_keepTextAs_75a : ∀ (S : Cst) (x1 : Int32) (H : Heap) (locs : List Loc) (ls_ : Array Slot), b_Y4_keepTextAs_75a S x0 x1 = X → q_Y4_keepTextAs_75a S x0 x1 → eK S0 S → va_P G vwCl (wsC K ad S) H → va_D A (wsC K ad S) → va_S A s.heap H locs → lv_has ls_ 2 [(0, .ref (ad x0)), (1, .int x1)] → W p l e ({ frames := 1, cells := 0, slots := 0, locals := 23 } : Room) s m #[Value.ref (ad x0), Value.int a1] below meth c H locs 0 0 Q (F0 m 75 ls_ []) := by
    intro S x1 H locs ls_ hE hp hZ hP hD hS hl
    unfold b_Y4_keepTextAs_75a at hE
    unfold q_Y4_keepTextAs_75a at hp
    refine lv_aload_n hx hb dX4_keepTextAs_75 rfl (lv_at hl 0 rfl) ?_
    refine lv_iconst (v := 0) hx hb dX4_keepTextAs_76 (by decide) ?_
    refine va_put (D := G) (ci := 3) (v := .int 0) (ty := .int) (C := RX4) (T := TX4) (N := 16) hx hb hts iX4 tyX4 tyX4_ok nmX4 hown hK hP hD hS x0 (at_3 (k_x0.e hZ)) rfl 14 (by decide) (hw (.fieldLink RX4 67 "MotionFloor$Motion" "voters" "I") (List.mem_of_getElem? (i := 12) rfl)) (fun _ h9 => h9) rfl (by decide +kernel) rfl rfl (Nat.le_of_ble_eq_true rfl) dX4_keepTextAs_77 (fun H locs hP hD hS => ?_)
    rw [st_3_14 (k_x0.e hZ)] at hP hD
    have hZ := hZ.tr (eK.si S x0 14 (0 : Int32))
    exact B_Y4_keepTextAs_80 (siC S x0 14 (0 : Int32)) x1 _ _ _ hE hp hZ hP hD hS (lv_sub hl [0, 1] rfl)
  have B_Y4_keepTextAs_60a : ∀ (S : Cst) (x1 : Int32) (H : Heap) (locs : List Loc) (ls_ : Array Slot), b_Y4_keepTextAs_60a S x0 x1 = X → q_Y4_keepTextAs_60a S x0 x1 → eK S0 S → va_P G vwCl (wsC K ad S) H → va_D A (wsC K ad S) → va_S A s.heap H locs → lv_has ls_ 2 [(0, .ref (ad x0)), (1, .int x1)] → W p l e ({ frames := 1, cells := 0, slots := 0, locals := 23 } : Room) s m #[Value.ref (ad x0), Value.int a1] below meth c H locs 0 0 Q (F0 m 60 ls_ []) := by
    intro S x1 H locs ls_ hE hp hZ hP hD hS hl
    unfold b_Y4_keepTextAs_60a at hE
    unfold q_Y4_keepTextAs_60a at hp
    refine lv_aload_n hx hb dX4_keepTextAs_60 rfl (lv_at hl 0 rfl) ?_
    refine va_get (D := G) (ci := 3) (v := .int (giC S x0 14)) (C := RX4) (T := TX4) (N := 16) hx hb hts iX4 hown hK hP x0 (at_3 (k_x0.e hZ)) rfl 14 (by decide) (hw (.fieldLink RX4 67 "MotionFloor$Motion" "voters" "I") (List.mem_of_getElem? (i := 12) rfl)) (fun _ h9 => h9) rfl dX4_keepTextAs_61 ?_
    refine lv_if_le (tgt := 80) hx hb dX4_keepTextAs_64 (by decide) (fun c1 => ?_) (fun c1 => ?_)
    · rw [if_pos c1] at hE hp
      exact B_Y4_keepTextAs_80 S x1 _ _ _ hE hp hZ hP hD hS (lv_sub hl [0, 1] rfl)
    · rw [if_neg c1] at hE hp
      refine lv_aload_n hx hb dX4_keepTextAs_67 rfl (lv_at hl 0 rfl) ?_
      refine va_get (D := G) (ci := 3) (v := va_re ad (grC S x0 13)) (C := RX4) (T := TX4) (N := 16) hx hb hts iX4 hown hK hP x0 (at_3 (k_x0.e hZ)) rfl 13 (by decide) (hw (.fieldLink RX4 18 "MotionFloor$Motion" "votes" "[B") (List.mem_of_getElem? (i := 13) rfl)) (fun _ h9 => h9) rfl dX4_keepTextAs_68 ?_
      refine lv_iconst (v := 0) hx hb dX4_keepTextAs_71 (by decide) ?_
      obtain ⟨hy2, hp⟩ := hp
      refine cTop2 (r := (grC S x0 13)) hy2.1 ?_
      obtain ⟨hy3, hp⟩ := hp
      refine cGov (va_runS (As := [.ref (ad ((grC S x0 13).getD 0)), .int 0]) (rest := []) ⟨hx, hb, hml, hown, hts⟩ (c_K7_fill_031fb l G K ad S ((grC S x0 13).getD 0) (0 : Int32) _) (va_cwS 2 hts (wGS t_ (mw (.methodLink RX4 70 yJ7_fill_031fb) (List.mem_of_getElem? (i := 14) rfl)) (mw (.static yJ7_fill_031fb) (List.mem_of_getElem? (i := 15) rfl)) (mw (.initialized RJ7) (List.mem_of_getElem? (i := 16) rfl)) j_K7_fill_031fb) rfl rfl rfl (by decide +kernel) ⟨Nat.le_of_ble_eq_true rfl, Nat.le_of_ble_eq_true rfl⟩) (cPS hK hTE hP hD ⟨hy2.2, hy3⟩) rfl rfl hl.1 rfl (lv_room (Nat.le_of_ble_eq_true rfl)) dX4_keepTextAs_72 ⟨Nat.le_of_ble_eq_true rfl, Nat.le_of_ble_eq_true rfl⟩) hP hD hS hA (fun u4 H locs hv hP hD hS => ?_)
      obtain ⟨hv, hz⟩ := hv
      have hZ := hZ.tr hz
      rw [← hv] at hE hp
      dsimp only at hE hp
      exact B_Y4_keepTextAs_75a u4 x1 _ _ _ hE hp hZ hP hD hS (lv_sub hl [0, 1] rfl)
  have B_M : ∀ (S : Cst) (x1 : Int32) (H : Heap) (locs : List Loc) (ls_ : Array Slot), f_Y4_keepTextAs S x0 x1 = X → p_Y4_keepTextAs S x0 x1 → eK S0 S → va_P G vwCl (wsC K ad S) H → va_D A (wsC K ad S) → va_S A s.heap H locs → lv_has ls_ 2 [(0, .ref (ad x0)), (1, .int x1)] → W p l e ({ frames := 1, cells := 0, slots := 0, locals := 23 } : Room) s m #[Value.ref (ad x0), Value.int a1] below meth c H locs 0 0 Q (F0 m 0 ls_ []) := by
    intro S x1 H locs ls_ hE hp hZ hP hD hS hl
    unfold f_Y4_keepTextAs at hE
    unfold p_Y4_keepTextAs at hp
    refine lv_aload_n hx hb dX4_keepTextAs_0 rfl (lv_at hl 0 rfl) ?_
    refine lv_iconst (v := 0) hx hb dX4_keepTextAs_1 (by decide) ?_
    refine va_put (D := G) (ci := 3) (v := .int 0) (ty := .int) (C := RX4) (T := TX4) (N := 16) hx hb hts iX4 tyX4 tyX4_ok nmX4 hown hK hP hD hS x0 (at_3 (k_x0.e hZ)) rfl 0 (by decide) (hw (.fieldLink RX4 30 "MotionFloor$Motion" "name" "I") (List.mem_of_getElem? (i := 0) rfl)) (fun _ h9 => h9) rfl (by decide +kernel) rfl rfl (Nat.le_of_ble_eq_true rfl) dX4_keepTextAs_2 (fun H locs hP hD hS => ?_)
    rw [st_3_0 (k_x0.e hZ)] at hP hD
    have hZ := hZ.tr (eK.si S x0 0 (0 : Int32))
    refine lv_aload_n hx hb dX4_keepTextAs_5 rfl (lv_at hl 0 rfl) ?_
    refine lv_iconst (v := 0) hx hb dX4_keepTextAs_6 (by decide) ?_
    refine va_put (D := G) (ci := 3) (v := .int 0) (ty := .int) (C := RX4) (T := TX4) (N := 16) hx hb hts iX4 tyX4 tyX4_ok nmX4 hown hK hP hD hS x0 (at_3 (k_x0.e hZ)) rfl 1 (by decide) (hw (.fieldLink RX4 33 "MotionFloor$Motion" "subject" "I") (List.mem_of_getElem? (i := 1) rfl)) (fun _ h9 => h9) rfl (by decide +kernel) rfl rfl (Nat.le_of_ble_eq_true rfl) dX4_keepTextAs_7 (fun H locs hP hD hS => ?_)
    rw [st_3_1 (k_x0.e hZ)] at hP hD
    have hZ := hZ.tr (eK.si (siC S x0 0 (0 : Int32)) x0 1 (0 : Int32))
    refine lv_aload_n hx hb dX4_keepTextAs_10 rfl (lv_at hl 0 rfl) ?_
    refine lv_iload_n hx hb dX4_keepTextAs_11 rfl (lv_at hl 1 rfl) ?_
    refine va_put (D := G) (ci := 3) (v := .int x1) (ty := .int) (C := RX4) (T := TX4) (N := 16) hx hb hts iX4 tyX4 tyX4_ok nmX4 hown hK hP hD hS x0 (at_3 (k_x0.e hZ)) rfl 2 (by decide) (hw (.fieldLink RX4 36 "MotionFloor$Motion" "kind" "I") (List.mem_of_getElem? (i := 2) rfl)) (fun _ h9 => h9) rfl (by decide +kernel) rfl rfl (Nat.le_of_ble_eq_true rfl) dX4_keepTextAs_12 (fun H locs hP hD hS => ?_)
    rw [st_3_2 (k_x0.e hZ)] at hP hD
    have hZ := hZ.tr (eK.si (siC (siC S x0 0 (0 : Int32)) x0 1 (0 : Int32)) x0 2 x1)
    refine lv_aload_n hx hb dX4_keepTextAs_15 rfl (lv_at hl 0 rfl) ?_
    refine lv_iconst (v := (-1)) hx hb dX4_keepTextAs_16 (by decide) ?_
    refine va_put (D := G) (ci := 3) (v := .int (-1)) (ty := .int) (C := RX4) (T := TX4) (N := 16) hx hb hts iX4 tyX4 tyX4_ok nmX4 hown hK hP hD hS x0 (at_3 (k_x0.e hZ)) rfl 3 (by decide) (hw (.fieldLink RX4 39 "MotionFloor$Motion" "mover" "I") (List.mem_of_getElem? (i := 3) rfl)) (fun _ h9 => h9) rfl (by decide +kernel) rfl rfl (Nat.le_of_ble_eq_true rfl) dX4_keepTextAs_17 (fun H locs hP hD hS => ?_)
    rw [st_3_3 (k_x0.e hZ)] at hP hD
    have hZ := hZ.tr (eK.si (siC (siC (siC S x0 0 (0 : Int32)) x0 1 (0 : Int32)) x0 2 x1) x0 3 ((-1) : Int32))
    refine lv_aload_n hx hb dX4_keepTextAs_20 rfl (lv_at hl 0 rfl) ?_
    refine lv_iconst (v := (-1)) hx hb dX4_keepTextAs_21 (by decide) ?_
    refine va_put (D := G) (ci := 3) (v := .int (-1)) (ty := .int) (C := RX4) (T := TX4) (N := 16) hx hb hts iX4 tyX4 tyX4_ok nmX4 hown hK hP hD hS x0 (at_3 (k_x0.e hZ)) rfl 4 (by decide) (hw (.fieldLink RX4 42 "MotionFloor$Motion" "seconder" "I") (List.mem_of_getElem? (i := 4) rfl)) (fun _ h9 => h9) rfl (by decide +kernel) rfl rfl (Nat.le_of_ble_eq_true rfl) dX4_keepTextAs_22 (fun H locs hP hD hS => ?_)
    rw [st_3_4 (k_x0.e hZ)] at hP hD
    have hZ := hZ.tr (eK.si (siC (siC (siC (siC S x0 0 (0 : Int32)) x0 1 (0 : Int32)) x0 2 x1) x0 3 ((-1) : Int32)) x0 4 ((-1) : Int32))
    refine lv_aload_n hx hb dX4_keepTextAs_25 rfl (lv_at hl 0 rfl) ?_
    refine lv_iconst (v := 0) hx hb dX4_keepTextAs_26 (by decide) ?_
    refine va_put (D := G) (ci := 3) (v := .int 0) (ty := .int) (C := RX4) (T := TX4) (N := 16) hx hb hts iX4 tyX4 tyX4_ok nmX4 hown hK hP hD hS x0 (at_3 (k_x0.e hZ)) rfl 5 (by decide) (hw (.fieldLink RX4 45 "MotionFloor$Motion" "floors" "I") (List.mem_of_getElem? (i := 5) rfl)) (fun _ h9 => h9) rfl (by decide +kernel) rfl rfl (Nat.le_of_ble_eq_true rfl) dX4_keepTextAs_27 (fun H locs hP hD hS => ?_)
    rw [st_3_5 (k_x0.e hZ)] at hP hD
    have hZ := hZ.tr (eK.si (siC (siC (siC (siC (siC S x0 0 (0 : Int32)) x0 1 (0 : Int32)) x0 2 x1) x0 3 ((-1) : Int32)) x0 4 ((-1) : Int32)) x0 5 (0 : Int32))
    refine lv_aload_n hx hb dX4_keepTextAs_30 rfl (lv_at hl 0 rfl) ?_
    refine lv_iconst (v := 0) hx hb dX4_keepTextAs_31 (by decide) ?_
    refine va_put (D := G) (ci := 3) (v := .int 0) (ty := .int) (C := RX4) (T := TX4) (N := 16) hx hb hts iX4 tyX4 tyX4_ok nmX4 hown hK hP hD hS x0 (at_3 (k_x0.e hZ)) rfl 6 (by decide) (hw (.fieldLink RX4 48 "MotionFloor$Motion" "speeches" "I") (List.mem_of_getElem? (i := 6) rfl)) (fun _ h9 => h9) rfl (by decide +kernel) rfl rfl (Nat.le_of_ble_eq_true rfl) dX4_keepTextAs_32 (fun H locs hP hD hS => ?_)
    rw [st_3_6 (k_x0.e hZ)] at hP hD
    have hZ := hZ.tr (eK.si (siC (siC (siC (siC (siC (siC S x0 0 (0 : Int32)) x0 1 (0 : Int32)) x0 2 x1) x0 3 ((-1) : Int32)) x0 4 ((-1) : Int32)) x0 5 (0 : Int32)) x0 6 (0 : Int32))
    refine lv_aload_n hx hb dX4_keepTextAs_35 rfl (lv_at hl 0 rfl) ?_
    refine lv_iconst (v := 0) hx hb dX4_keepTextAs_36 (by decide) ?_
    refine va_put (D := G) (ci := 3) (v := .int 0) (ty := .boolean) (C := RX4) (T := TX4) (N := 16) hx hb hts iX4 tyX4 tyX4_ok nmX4 hown hK hP hD hS x0 (at_3 (k_x0.e hZ)) rfl 7 (by decide) (hw (.fieldLink RX4 51 "MotionFloor$Motion" "closed" "Z") (List.mem_of_getElem? (i := 7) rfl)) (fun _ h9 => h9) rfl (by decide +kernel) rfl rfl (Nat.le_of_ble_eq_true rfl) dX4_keepTextAs_37 (fun H locs hP hD hS => ?_)
    rw [st_3_7 (k_x0.e hZ)] at hP hD
    have hZ := hZ.tr (eK.si (siC (siC (siC (siC (siC (siC (siC S x0 0 (0 : Int32)) x0 1 (0 : Int32)) x0 2 x1) x0 3 ((-1) : Int32)) x0 4 ((-1) : Int32)) x0 5 (0 : Int32)) x0 6 (0 : Int32)) x0 7 (0 : Int32))
    refine lv_aload_n hx hb dX4_keepTextAs_40 rfl (lv_at hl 0 rfl) ?_
    refine lv_iconst (v := 0) hx hb dX4_keepTextAs_41 (by decide) ?_
    refine va_put (D := G) (ci := 3) (v := .int 0) (ty := .int) (C := RX4) (T := TX4) (N := 16) hx hb hts iX4 tyX4 tyX4_ok nmX4 hown hK hP hD hS x0 (at_3 (k_x0.e hZ)) rfl 8 (by decide) (hw (.fieldLink RX4 55 "MotionFloor$Motion" "from" "I") (List.mem_of_getElem? (i := 8) rfl)) (fun _ h9 => h9) rfl (by decide +kernel) rfl rfl (Nat.le_of_ble_eq_true rfl) dX4_keepTextAs_42 (fun H locs hP hD hS => ?_)
    rw [st_3_8 (k_x0.e hZ)] at hP hD
    have hZ := hZ.tr (eK.si (siC (siC (siC (siC (siC (siC (siC (siC S x0 0 (0 : Int32)) x0 1 (0 : Int32)) x0 2 x1) x0 3 ((-1) : Int32)) x0 4 ((-1) : Int32)) x0 5 (0 : Int32)) x0 6 (0 : Int32)) x0 7 (0 : Int32)) x0 8 (0 : Int32))
    refine lv_aload_n hx hb dX4_keepTextAs_45 rfl (lv_at hl 0 rfl) ?_
    refine lv_iconst (v := 0) hx hb dX4_keepTextAs_46 (by decide) ?_
    refine va_put (D := G) (ci := 3) (v := .int 0) (ty := .int) (C := RX4) (T := TX4) (N := 16) hx hb hts iX4 tyX4 tyX4_ok nmX4 hown hK hP hD hS x0 (at_3 (k_x0.e hZ)) rfl 9 (by decide) (hw (.fieldLink RX4 58 "MotionFloor$Motion" "to" "I") (List.mem_of_getElem? (i := 9) rfl)) (fun _ h9 => h9) rfl (by decide +kernel) rfl rfl (Nat.le_of_ble_eq_true rfl) dX4_keepTextAs_47 (fun H locs hP hD hS => ?_)
    rw [st_3_9 (k_x0.e hZ)] at hP hD
    have hZ := hZ.tr (eK.si (siC (siC (siC (siC (siC (siC (siC (siC (siC S x0 0 (0 : Int32)) x0 1 (0 : Int32)) x0 2 x1) x0 3 ((-1) : Int32)) x0 4 ((-1) : Int32)) x0 5 (0 : Int32)) x0 6 (0 : Int32)) x0 7 (0 : Int32)) x0 8 (0 : Int32)) x0 9 (0 : Int32))
    refine lv_aload_n hx hb dX4_keepTextAs_50 rfl (lv_at hl 0 rfl) ?_
    refine lv_iconst (v := 0) hx hb dX4_keepTextAs_51 (by decide) ?_
    refine va_put (D := G) (ci := 3) (v := .int 0) (ty := .boolean) (C := RX4) (T := TX4) (N := 16) hx hb hts iX4 tyX4 tyX4_ok nmX4 hown hK hP hD hS x0 (at_3 (k_x0.e hZ)) rfl 10 (by decide) (hw (.fieldLink RX4 61 "MotionFloor$Motion" "laid" "Z") (List.mem_of_getElem? (i := 10) rfl)) (fun _ h9 => h9) rfl (by decide +kernel) rfl rfl (Nat.le_of_ble_eq_true rfl) dX4_keepTextAs_52 (fun H locs hP hD hS => ?_)
    rw [st_3_10 (k_x0.e hZ)] at hP hD
    have hZ := hZ.tr (eK.si (siC (siC (siC (siC (siC (siC (siC (siC (siC (siC S x0 0 (0 : Int32)) x0 1 (0 : Int32)) x0 2 x1) x0 3 ((-1) : Int32)) x0 4 ((-1) : Int32)) x0 5 (0 : Int32)) x0 6 (0 : Int32)) x0 7 (0 : Int32)) x0 8 (0 : Int32)) x0 9 (0 : Int32)) x0 10 (0 : Int32))
    refine lv_aload_n hx hb dX4_keepTextAs_55 rfl (lv_at hl 0 rfl) ?_
    refine lv_iconst (v := 0) hx hb dX4_keepTextAs_56 (by decide) ?_
    refine va_put (D := G) (ci := 3) (v := .int 0) (ty := .boolean) (C := RX4) (T := TX4) (N := 16) hx hb hts iX4 tyX4 tyX4_ok nmX4 hown hK hP hD hS x0 (at_3 (k_x0.e hZ)) rfl 11 (by decide) (hw (.fieldLink RX4 64 "MotionFloor$Motion" "outOfOrder" "Z") (List.mem_of_getElem? (i := 11) rfl)) (fun _ h9 => h9) rfl (by decide +kernel) rfl rfl (Nat.le_of_ble_eq_true rfl) dX4_keepTextAs_57 (fun H locs hP hD hS => ?_)
    rw [st_3_11 (k_x0.e hZ)] at hP hD
    have hZ := hZ.tr (eK.si (siC (siC (siC (siC (siC (siC (siC (siC (siC (siC (siC S x0 0 (0 : Int32)) x0 1 (0 : Int32)) x0 2 x1) x0 3 ((-1) : Int32)) x0 4 ((-1) : Int32)) x0 5 (0 : Int32)) x0 6 (0 : Int32)) x0 7 (0 : Int32)) x0 8 (0 : Int32)) x0 9 (0 : Int32)) x0 10 (0 : Int32)) x0 11 (0 : Int32))
    exact B_Y4_keepTextAs_60a (siC (siC (siC (siC (siC (siC (siC (siC (siC (siC (siC (siC S x0 0 (0 : Int32)) x0 1 (0 : Int32)) x0 2 x1) x0 3 ((-1) : Int32)) x0 4 ((-1) : Int32)) x0 5 (0 : Int32)) x0 6 (0 : Int32)) x0 7 (0 : Int32)) x0 8 (0 : Int32)) x0 9 (0 : Int32)) x0 10 (0 : Int32)) x0 11 (0 : Int32)) x1 _ _ _ hE hp hZ hP hD hS (lv_sub hl [0, 1] rfl)
  exact B_M S0 a1 _ _ _ hX hp (eK.rf S0) hP hD hS hl
