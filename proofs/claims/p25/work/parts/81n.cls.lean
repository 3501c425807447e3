section
theorem gdX10_journal_0 : ckS (List.drop 0 cX10_journal.data.toList) 0 [(0, .iload_n 2, 1), (1, .iconst 5, 1), (2, .if_icmp .le 7, 3), (5, .iconst (-1), 1), (6, .goto 15, 3), (9, .aload_n 0, 1), (10, .getfield 10, 3), (13, .getfield 123, 3), (16, .iload_n 1, 1), (17, .iload_n 2, 1), (18, .invokevirtual 86, 3), (21, .ireturn, 1)] = true := by decide +kernel
theorem dX10_journal_0 : decode cX10_journal 0 = .ok (.iload_n 2, 1) := ckS_g gdX10_journal_0 0 rfl
theorem dX10_journal_1 : decode cX10_journal 1 = .ok (.iconst 5, 1) := ckS_g gdX10_journal_0 1 rfl
theorem dX10_journal_2 : decode cX10_journal 2 = .ok (.if_icmp .le 7, 3) := ckS_g gdX10_journal_0 2 rfl
theorem dX10_journal_5 : decode cX10_journal 5 = .ok (.iconst (-1), 1) := ckS_g gdX10_journal_0 3 rfl
theorem dX10_journal_6 : decode cX10_journal 6 = .ok (.goto 15, 3) := ckS_g gdX10_journal_0 4 rfl
theorem dX10_journal_9 : decode cX10_journal 9 = .ok (.aload_n 0, 1) := ckS_g gdX10_journal_0 5 rfl
theorem dX10_journal_10 : decode cX10_journal 10 = .ok (.getfield 10, 3) := ckS_g gdX10_journal_0 6 rfl
theorem dX10_journal_13 : decode cX10_journal 13 = .ok (.getfield 123, 3) := ckS_g gdX10_journal_0 7 rfl
theorem dX10_journal_16 : decode cX10_journal 16 = .ok (.iload_n 1, 1) := ckS_g gdX10_journal_0 8 rfl
theorem dX10_journal_17 : decode cX10_journal 17 = .ok (.iload_n 2, 1) := ckS_g gdX10_journal_0 9 rfl
theorem dX10_journal_18 : decode cX10_journal 18 = .ok (.invokevirtual 86, 3) := ckS_g gdX10_journal_0 10 rfl
theorem dX10_journal_21 : decode cX10_journal 21 = .ok (.ireturn, 1) := ckS_g gdX10_journal_0 11 rfl
set_option maxRecDepth 100000 in
theorem zc550 : wZ (.code yX10_journal cX10_journal 3 (some .int)) := ⟨wT4 (List.mem_of_getElem? (i := 192) rfl), Or.inl rfl⟩
def b_Y10_journal_21 (S : Cst) (x0 : Nat) (x1 : Int32) (x2 : Int32) (y0 : Int32) : Int32 := y0
def q_Y10_journal_21 (S : Cst) (x0 : Nat) (x1 : Int32) (x2 : Int32) (y0 : Int32) : Prop := True
def f_Y10_journal (S : Cst) (x0 : Nat) (x1 : Int32) (x2 : Int32) : Int32 := if x2 ≤ 5 then (b_Y10_journal_21 S x0 x1 x2 (f_Y3_at S ((grC S ((grC S x0 0).getD 0) 4).getD 0) x1 x2)) else (b_Y10_journal_21 S x0 x1 x2 (-1))
def p_Y10_journal (S : Cst) (x0 : Nat) (x1 : Int32) (x2 : Int32) : Prop := (if x2 ≤ 5 then (iR S (grC S x0 0) 0) ∧ (iR S (grC S ((grC S x0 0).getD 0) 4) 2) ∧ (p_Y3_at S ((grC S ((grC S x0 0).getD 0) 4).getD 0) x1 x2) ∧ (q_Y10_journal_21 S x0 x1 x2 (f_Y3_at S ((grC S ((grC S x0 0).getD 0) 4).getD 0) x1 x2)) else (q_Y10_journal_21 S x0 x1 x2 (-1)))
def e_Y10_journal : List Cond := [.fieldLink RX10 10 "MotionFloor" "now" "LMotionFloor$Assembly;", .fieldLink RX10 123 "MotionFloor$Assembly" "minutes" "LMotionFloor$Ledger;", .methodLink RX10 86 yX3_at, .instanceMethod yX3_at, .selects RX3 yX3_at yX3_at, .initialized RX3]
def v_Y10_journal : List Cond := .code yX10_journal cX10_journal 3 (some .int) :: (e_Y10_journal ++ (wsX100 ++ (wsX00 ++ (v_Y3_at ++ []))))
theorem te_Y10_journal : GoodIn lw_tbl e_Y10_journal := wGc zc496 (wGc zc535 (wGc zc527 (wGc zc526 (wGc zc525 (wGc zc480 (wG0))))))
theorem t_Y10_journal : GoodIn lw_tbl v_Y10_journal := wGc zc550 (wGa te_Y10_journal (wGa zcX10 (wGa zcX0 (wGa t_Y3_at (wG0)))))
set_option maxHeartbeats 4000000 in
set_option maxRecDepth 100000 in
theorem c_Y10_journal (l : Launch) (G : va_G) (K : Nat → ClassId) (ad : Nat → Nat) (S : Cst) (x0 : Nat) (a1 : Int32) (a2 : Int32) (sz : Nat) : Met l yX10_journal v_Y10_journal ({ frames := 1, cells := 0, slots := 0, locals := 23 }) (va_Pc [.ref (ad x0), .int a1, .int a2] (cSt G K ad sz S (iK S x0 7 ∧ p_Y10_journal S x0 a1 a2))) (va_Qi (fun (r : Int32) (u : Cst) => (r, u) = (f_Y10_journal S x0 a1 a2, S)) (cBt G K ad (va_A (wsC K ad S) sz)) (va_A (wsC K ad S) sz)) 0 0 (va_A (wsC K ad S) sz) := by
  refine Met.ofW (cc := cX10_journal) (maxL := 3) (ret := (some .int)) (by decide) rfl ?_
  intro p e s m args below meth c s₁ B hml hv
  obtain ⟨rfl, ⟨hsz, hP, hK, hD0, hTE⟩, hp⟩ := hv
  obtain ⟨k_x0, hp⟩ := hp
  have hx := B.exec
  have hb := B.bytes
  have hr := B.returns
  have hts := atoms_spec (ws := v_Y10_journal) B.pre
  have t_ := t_Y10_journal
  have mw : ∀ w ∈ e_Y10_journal, w ∈ v_Y10_journal := fun w h => List.mem_cons_of_mem _ (List.mem_append_left _ h)
  have hw := fun w (h : w ∈ e_Y10_journal) => hts w (mw w h)
  have iX10 : ∀ w ∈ wsX100, w ∈ v_Y10_journal := fun w h => List.mem_cons_of_mem _ (List.mem_append_right _ (List.mem_append_left _ h))
  have iX0 : ∀ w ∈ wsX00, w ∈ v_Y10_journal := fun w h => List.mem_cons_of_mem _ (List.mem_append_right _ (List.mem_append_right _ (List.mem_append_left _ h)))
  have j_Y3_at : ∀ w ∈ v_Y3_at, w ∈ v_Y10_journal := fun w h => List.mem_cons_of_mem _ (List.mem_append_right _ (List.mem_append_right _ (List.mem_append_right _ (List.mem_append_left _ h))))
  have hown : s.vm.findClass RX10 = some m.cls := findClass_of_methodNamed B.named
  have hlocks := B.notSynchronized
  subst hsz
  have hD := hD0.self (sz := s.heap.size)
  generalize hAe : va_A (wsC K ad S) s.heap.size = A at hD ⊢
  have hA : ∀ q : Nat, s.heap.size ≤ q → A q := fun q h => by rw [← hAe]; exact Or.inr h
  have hS : va_S A s.heap s.heap [] := va_S.rf
  have hl : lv_has (lg_sl ([.ref (ad x0), .int a1, .int a2]) ++ List.replicate (3 - (lg_sl ([.ref (ad x0), .int a1, .int a2])).length) Slot.unset).toArray 3 [(0, .ref (ad x0)), (1, .int a1), (2, .int a2)] := by
    exact lv_entry ([.ref (ad x0), .int a1, .int a2]) (n := 3) (Nat.le_of_ble_eq_true rfl)
  rw [lg_entry_eq]
  generalize (lg_sl ([.ref (ad x0), .int a1, .int a2]) ++ List.replicate (3 - (lg_sl ([.ref (ad x0), .int a1, .int a2])).length) Slot.unset).toArray = ls_ at hl ⊢
  refine wGen (fun Q hQ => ?_)
  obtain ⟨X, hX⟩ : ∃ X, f_Y10_journal S x0 a1 a2 = X := ⟨_, rfl⟩
  have B_Y10_journal_21 : ∀ (x1 : Int32) (x2 : Int32) (y0 : Int32) (H : Heap) (locs : List Loc) (ls_ : Array Slot), b_Y10_journal_21 S x0 x1 x2 y0 = X → q_Y10_journal_21 S x0 x1 x2 y0 → va_P G vwCl (wsC K ad S) H → va_D A (wsC K ad S) → va_S A s.heap H locs → lv_has ls_ 3 [(0, .ref (ad x0)), (1, .int x1), (2, .int x2)] → W p l e ({ frames := 1, cells := 0, slots := 0, locals := 23 } : Room) s m #[Value.ref (ad x0), Value.int a1, Value.int a2] below meth c H locs 0 0 Q (F0 m 21 ls_ [.int y0]) := by
    intro x1 x2 y0 H locs ls_ hE hp hP hD hS hl
    unfold b_Y10_journal_21 at hE
    unfold q_Y10_journal_21 at hp
    subst hQ
    exact W.iret (v := y0) hx hb hr (fun t ht hW => ⟨⟨y0, S, rfl, (pair_i (hE.trans hX.symm)), by rw [ht]; exact hP, hD⟩, hS.F ht⟩) hS.2.2 dX10_journal_21
  have B_M : ∀ (x1 : Int32) (x2 : Int32) (H : Heap) (locs : List Loc) (ls_ : Array Slot), f_Y10_journal S x0 x1 x2 = X → p_Y10_journal S x0 x1 x2 → va_P G vwCl (wsC K ad S) H → va_D A (wsC K ad S) → va_S A s.heap H locs → lv_has ls_ 3 [(0, .ref (ad x0)), (1, .int x1), (2, .int x2)] → W p l e ({ frames := 1, cells := 0, slots := 0, locals := 23 } : Room) s m #[Value.ref (ad x0), Value.int a1, Value.int a2] below meth c H locs 0 0 Q (F0 m 0 ls_ []) := by
    intro x1 x2 H locs ls_ hE hp hP hD hS hl
    unfold f_Y10_journal at hE
    unfold p_Y10_journal at hp
    refine lv_iload_n hx hb dX10_journal_0 rfl (lv_at hl 2 rfl) ?_
    refine lv_iconst (v := 5) hx hb dX10_journal_1 (by decide) ?_
    refine lv_icmp_le (tgt := 9) hx hb dX10_journal_2 (by decide) (fun c1 => ?_) (fun c1 => ?_)
    · rw [if_pos c1] at hE hp
      refine lv_aload_n hx hb dX10_journal_9 rfl (lv_at hl 0 rfl) ?_
      refine va_get (D := G) (ci := 7) (v := va_re ad (grC S x0 0)) (C := RX10) (T := TX10) (N := 5) hx hb hts iX10 hown hK hP x0 (at_7 k_x0) rfl 0 (by decide) (hw (.fieldLink RX10 10 "MotionFloor" "now" "LMotionFloor$Assembly;") (List.mem_of_getElem? (i := 0) rfl)) (fun _ h9 => h9) rfl dX10_journal_10 ?_
      obtain ⟨hy2, hp⟩ := hp
      refine cTop (r := (grC S x0 0)) hy2.1 ?_
      refine va_get (D := G) (ci := 0) (v := va_re ad (grC S ((grC S x0 0).getD 0) 4)) (C := RX0) (T := TX0) (N := 11) hx hb hts iX0 hown hK hP ((grC S x0 0).getD 0) (at_0 hy2.2) rfl 4 (by decide) (hw (.fieldLink RX10 123 "MotionFloor$Assembly" "minutes" "LMotionFloor$Ledger;") (List.mem_of_getElem? (i := 1) rfl)) (fun _ h9 => h9) rfl dX10_journal_13 ?_
      refine lv_iload_n hx hb dX10_journal_16 rfl (lv_at hl 1 rfl) ?_
      refine lv_iload_n hx hb dX10_journal_17 rfl (lv_at hl 2 rfl) ?_
      obtain ⟨hy3, hp⟩ := hp
      refine cTop3 (r := (grC S ((grC S x0 0).getD 0) 4)) hy3.1 ?_
      obtain ⟨hy4, hp⟩ := hp
      refine cGoi (va_runV (As := [.int x1, .int x2]) (rest := []) ⟨hx, hb, hml, hown, hts⟩ (c_Y3_at l G K ad S ((grC S ((grC S x0 0).getD 0) 4).getD 0) x1 x2 _) (cwV 2 hts (wGV t_ (mw (.methodLink RX10 86 yX3_at) (List.mem_of_getElem? (i := 2) rfl)) (mw (.instanceMethod yX3_at) (List.mem_of_getElem? (i := 3) rfl)) (mw (.selects RX3 yX3_at yX3_at) (List.mem_of_getElem? (i := 4) rfl)) (mw (.initialized RX3) (List.mem_of_getElem? (i := 5) rfl)) j_Y3_at) rfl rfl rfl (by decide +kernel) ⟨Nat.le_of_ble_eq_true rfl, Nat.le_of_ble_eq_true rfl⟩) (cPV hK hTE hP hD 2 rfl (at_2 hy3.2) ⟨hy3.2, hy4⟩) rfl rfl hl.1 rfl (lv_room (Nat.le_of_ble_eq_true rfl)) dX10_journal_18 ⟨Nat.le_of_ble_eq_true rfl, Nat.le_of_ble_eq_true rfl⟩) hP hD hS hA (fun r6 u5 H locs hv hP hD hS => ?_)
      have h1 := congrArg Prod.fst hv
      have h2 := (congrArg Prod.snd hv).symm
      dsimp only at h1 h2
      subst h1
      subst h2
      exact B_Y10_journal_21 x1 x2 (f_Y3_at S ((grC S ((grC S x0 0).getD 0) 4).getD 0) x1 x2) _ _ _ hE hp hP hD hS (lv_sub hl [0, 1, 2] rfl)
    · rw [if_neg c1] at hE hp
      refine lv_iconst (v := (-1)) hx hb dX10_journal_5 (by decide) ?_
      refine lv_goto (tgt := 21) hx hb dX10_journal_6 (by decide) ?_
      exact B_Y10_journal_21 x1 x2 (-1) _ _ _ hE hp hP hD hS (lv_sub hl [0, 1, 2] rfl)
  exact B_M a1 a2 _ _ _ hX hp hP hD hS hl
theorem gdX10_strike_0 : ckS (List.drop 0 cX10_strike.data.toList) 0 [(0, .aload_n 0, 1), (1, .getfield 24, 3), (4, .getfield 126, 3), (7, .istore_n 1, 1), (8, .aload_n 0, 1), (9, .getfield 24, 3), (12, .iconst 0, 1), (13, .putfield 126, 3), (16, .iload_n 1, 1), (17, .ireturn, 1)] = true := by decide +kernel
theorem dX10_strike_0 : decode cX10_strike 0 = .ok (.aload_n 0, 1) := ckS_g gdX10_strike_0 0 rfl
theorem dX10_strike_1 : decode cX10_strike 1 = .ok (.getfield 24, 3) := ckS_g gdX10_strike_0 1 rfl
theorem dX10_strike_4 : decode cX10_strike 4 = .ok (.getfield 126, 3) := ckS_g gdX10_strike_0 2 rfl
theorem dX10_strike_7 : decode cX10_strike 7 = .ok (.istore_n 1, 1) := ckS_g gdX10_strike_0 3 rfl
theorem dX10_strike_8 : decode cX10_strike 8 = .ok (.aload_n 0, 1) := ckS_g gdX10_strike_0 4 rfl
theorem dX10_strike_9 : decode cX10_strike 9 = .ok (.getfield 24, 3) := ckS_g gdX10_strike_0 5 rfl
theorem dX10_strike_12 : decode cX10_strike 12 = .ok (.iconst 0, 1) := ckS_g gdX10_strike_0 6 rfl
theorem dX10_strike_13 : decode cX10_strike 13 = .ok (.putfield 126, 3) := ckS_g gdX10_strike_0 7 rfl
theorem dX10_strike_16 : decode cX10_strike 16 = .ok (.iload_n 1, 1) := ckS_g gdX10_strike_0 8 rfl
theorem dX10_strike_17 : decode cX10_strike 17 = .ok (.ireturn, 1) := ckS_g gdX10_strike_0 9 rfl
set_option maxRecDepth 100000 in
theorem zc551 : wZ (.code yX10_strike cX10_strike 2 (some .int)) := ⟨wT4 (List.mem_of_getElem? (i := 221) rfl), Or.inl rfl⟩
def f_Y10_strike (S : Cst) (x0 : Nat) : Int32 × Cst := ((giC S ((grC S x0 4).getD 0) 3), (siC S ((grC S x0 4).getD 0) 3 (0 : Int32)))
def p_Y10_strike (S : Cst) (x0 : Nat) : Prop := (iR S (grC S x0 4) 2) ∧ (iR S (grC S x0 4) 2) ∧ True
def e_Y10_strike : List Cond := [.fieldLink RX10 24 "MotionFloor" "row" "LMotionFloor$Ledger;", .fieldLink RX10 126 "MotionFloor$Ledger" "size" "I"]
def v_Y10_strike : List Cond := .code yX10_strike cX10_strike 2 (some .int) :: (e_Y10_strike ++ (wsX100 ++ (wsX30 ++ [])))
theorem te_Y10_strike : GoodIn lw_tbl e_Y10_strike := wGc zc530 (wGc zc534 (wG0))
theorem t_Y10_strike : GoodIn lw_tbl v_Y10_strike := wGc zc551 (wGa te_Y10_strike (wGa zcX10 (wGa zcX3 (wG0))))
set_option maxHeartbeats 4000000 in
set_option maxRecDepth 100000 in
theorem c_Y10_strike (l : Launch) (G : va_G) (K : Nat → ClassId) (ad : Nat → Nat) (S0 : Cst) (x0 : Nat)  (sz : Nat) : Met l yX10_strike v_Y10_strike ({ frames := 0, cells := 0, slots := 0, locals := 0 }) (va_Pc [.ref (ad x0)] (cSt G K ad sz S0 (iK S0 x0 7 ∧ p_Y10_strike S0 x0))) (va_Qi (fun (r : Int32) (u : Cst) => (r, u) = f_Y10_strike S0 x0 ∧ eK S0 u) (cBt G K ad (va_A (wsC K ad S0) sz)) (va_A (wsC K ad S0) sz)) 0 0 (va_A (wsC K ad S0) sz) := by
  refine Met.ofW (cc := cX10_strike) (maxL := 2) (ret := (some .int)) (by decide) rfl ?_
  intro p e s m args below meth c s₁ B hml hv
  obtain ⟨rfl, ⟨hsz, hP, hK, hD0, hTE⟩, hp⟩ := hv
  obtain ⟨k_x0, hp⟩ := hp
  have hx := B.exec
  have hb := B.bytes
  have hr := B.returns
  have hts := atoms_spec (ws := v_Y10_strike) B.pre
  have t_ := t_Y10_strike
  have mw : ∀ w ∈ e_Y10_strike, w ∈ v_Y10_strike := fun w h => List.mem_cons_of_mem _ (List.mem_append_left _ h)
  have hw := fun w (h : w ∈ e_Y10_strike) => hts w (mw w h)
  have iX10 : ∀ w ∈ wsX100, w ∈ v_Y10_strike := fun w h => List.mem_cons_of_mem _ (List.mem_append_right _ (List.mem_append_left _ h))
  have iX3 : ∀ w ∈ wsX30, w ∈ v_Y10_strike := fun w h => List.mem_cons_of_mem _ (List.mem_append_right _ (List.mem_append_right _ (List.mem_append_left _ h)))
  have hown : s.vm.findClass RX10 = some m.cls := findClass_of_methodNamed B.named
  have hlocks := B.notSynchronized
  subst hsz
  have hD := hD0.self (sz := s.heap.size)
  generalize hAe : va_A (wsC K ad S0) s.heap.size = A at hD ⊢
  have hA : ∀ q : Nat, s.heap.size ≤ q → A q := fun q h => by rw [← hAe]; exact Or.inr h
  have hS : va_S A s.heap s.heap [] := va_S.rf
  have hl : lv_has (lg_sl ([.ref (ad x0)]) ++ List.replicate (2 - (lg_sl ([.ref (ad x0)])).length) Slot.unset).toArray 2 [(0, .ref (ad x0))] := by
    exact lv_entry ([.ref (ad x0)]) (n := 2) (Nat.le_of_ble_eq_true rfl)
  rw [lg_entry_eq]
  generalize (lg_sl ([.ref (ad x0)]) ++ List.replicate (2 - (lg_sl ([.ref (ad x0)])).length) Slot.unset).toArray = ls_ at hl ⊢
  refine wGen (fun Q hQ => ?_)
  obtain ⟨X, hX⟩ : ∃ X, f_Y10_strike S0 x0 = X := ⟨_, rfl⟩
  have B_M : ∀ (S : Cst) (H : Heap) (locs : List Loc) (ls_ : Array Slot), f_Y10_strike S x0 = X → p_Y10_strike S x0 → eK S0 S → va_P G vwCl (wsC K ad S) H → va_D A (wsC K ad S) → va_S A s.heap H locs → lv_has ls_ 2 [(0, .ref (ad x0))] → W p l e ({ frames := 0, cells := 0, slots := 0, locals := 0 } : Room) s m #[Value.ref (ad x0)] below meth c H locs 0 0 Q (F0 m 0 ls_ []) := by
    intro S H locs ls_ hE hp hZ hP hD hS hl
    unfold f_Y10_strike at hE
    unfold p_Y10_strike at hp
    refine lv_aload_n hx hb dX10_strike_0 rfl (lv_at hl 0 rfl) ?_
    refine va_get (D := G) (ci := 7) (v := va_re ad (grC S x0 4)) (C := RX10) (T := TX10) (N := 5) hx hb hts iX10 hown hK hP x0 (at_7 (k_x0.e hZ)) rfl 4 (by decide) (hw (.fieldLink RX10 24 "MotionFloor" "row" "LMotionFloor$Ledger;") (List.mem_of_getElem? (i := 0) rfl)) (fun _ h9 => h9) rfl dX10_strike_1 ?_
    obtain ⟨hy1, hp⟩ := hp
    refine cTop (r := (grC S x0 4)) hy1.1 ?_
    refine va_get (D := G) (ci := 2) (v := .int (giC S ((grC S x0 4).getD 0) 3)) (C := RX3) (T := TX3) (N := 4) hx hb hts iX3 hown hK hP ((grC S x0 4).getD 0) (at_2 hy1.2) rfl 3 (by decide) (hw (.fieldLink RX10 126 "MotionFloor$Ledger" "size" "I") (List.mem_of_getElem? (i := 1) rfl)) (fun _ h9 => h9) rfl dX10_strike_4 ?_
    refine lv_istore_n (i := 1) (lv' := [(1, .int (giC S ((grC S x0 4).getD 0) 3)), (0, .ref (ad x0))]) hx hb dX10_strike_7 rfl hl (by decide) rfl (fun ls_ hl => ?_)
    refine lv_aload_n hx hb dX10_strike_8 rfl (lv_at hl 1 rfl) ?_
    refine va_get (D := G) (ci := 7) (v := va_re ad (grC S x0 4)) (C := RX10) (T := TX10) (N := 5) hx hb hts iX10 hown hK hP x0 (at_7 (k_x0.e hZ)) rfl 4 (by decide) (hw (.fieldLink RX10 24 "MotionFloor" "row" "LMotionFloor$Ledger;") (List.mem_of_getElem? (i := 0) rfl)) (fun _ h9 => h9) rfl dX10_strike_9 ?_
    refine lv_iconst (v := 0) hx hb dX10_strike_12 (by decide) ?_
    obtain ⟨hy2, hp⟩ := hp
    refine cTop2 (r := (grC S x0 4)) hy2.1 ?_
    refine va_put (D := G) (ci := 2) (v := .int 0) (ty := .int) (C := RX3) (T := TX3) (N := 4) hx hb hts iX3 tyX3 tyX3_ok nmX3 hown hK hP hD hS ((grC S x0 4).getD 0) (at_2 hy2.2) rfl 3 (by decide) (hw (.fieldLink RX10 126 "MotionFloor$Ledger" "size" "I") (List.mem_of_getElem? (i := 1) rfl)) (fun _ h9 => h9) rfl (by decide +kernel) rfl rfl (Nat.le_of_ble_eq_true rfl) dX10_strike_13 (fun H locs hP hD hS => ?_)
    rw [st_2_3 hy2.2] at hP hD
    have hZ := hZ.tr (eK.si S ((grC S x0 4).getD 0) 3 (0 : Int32))
    refine lv_iload_n hx hb dX10_strike_16 rfl (lv_at hl 0 rfl) ?_
    subst hQ
    exact W.iret (v := (giC S ((grC S x0 4).getD 0) 3)) hx hb hr (fun t ht hW => ⟨⟨(giC S ((grC S x0 4).getD 0) 3), (siC S ((grC S x0 4).getD 0) 3 (0 : Int32)), rfl, ⟨hE.trans hX.symm, hZ⟩, by rw [ht]; exact hP, hD⟩, hS.F ht⟩) hS.2.2 dX10_strike_17
  exact B_M S0 _ _ _ hX hp (eK.rf S0) hP hD hS hl
end
section
/-! ===== more of the store ===== -/
theorem re_nara (ad : Nat → Nat) (r : Option Nat) (C : FieldType) : narrow (.array C) (va_re ad r) = va_re ad r := by
  cases r <;> rfl
theorem re_fita (ad : Nat → Nat) (r : Option Nat) (C : FieldType) : fits (.array C) (va_re ad r) = true := by
  cases r <;> rfl
end
