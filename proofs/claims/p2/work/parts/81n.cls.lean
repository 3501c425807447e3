theorem dX10_seat_0 : decode cX10_seat 0 = .ok (.aload_n 0, 1) := by decide +kernel
theorem dX10_seat_1 : decode cX10_seat 1 = .ok (.getfield 10, 3) := by decide +kernel
theorem dX10_seat_4 : decode cX10_seat 4 = .ok (.getfield 88, 3) := by decide +kernel
theorem dX10_seat_7 : decode cX10_seat 7 = .ok (.iload_n 1, 1) := by decide +kernel
theorem dX10_seat_8 : decode cX10_seat 8 = .ok (.invokevirtual 137, 3) := by decide +kernel
theorem dX10_seat_11 : decode cX10_seat 11 = .ok (.ifCond .ne 5, 3) := by decide +kernel
theorem dX10_seat_14 : decode cX10_seat 14 = .ok (.iconst (-1), 1) := by decide +kernel
theorem dX10_seat_15 : decode cX10_seat 15 = .ok (.ireturn, 1) := by decide +kernel
theorem dX10_seat_16 : decode cX10_seat 16 = .ok (.aload_n 0, 1) := by decide +kernel
theorem dX10_seat_17 : decode cX10_seat 17 = .ok (.getfield 10, 3) := by decide +kernel
theorem dX10_seat_20 : decode cX10_seat 20 = .ok (.getfield 88, 3) := by decide +kernel
theorem dX10_seat_23 : decode cX10_seat 23 = .ok (.iload_n 1, 1) := by decide +kernel
theorem dX10_seat_24 : decode cX10_seat 24 = .ok (.invokevirtual 141, 3) := by decide +kernel
theorem dX10_seat_27 : decode cX10_seat 27 = .ok (.ifCond .eq 7, 3) := by decide +kernel
theorem dX10_seat_30 : decode cX10_seat 30 = .ok (.iconst 1, 1) := by decide +kernel
theorem dX10_seat_31 : decode cX10_seat 31 = .ok (.goto 4, 3) := by decide +kernel
theorem dX10_seat_34 : decode cX10_seat 34 = .ok (.iconst 0, 1) := by decide +kernel
theorem dX10_seat_35 : decode cX10_seat 35 = .ok (.ireturn, 1) := by decide +kernel
set_option maxRecDepth 100000 in
theorem zc547 : wZ (.methodLink RX10 141 yX2_isThere) := ⟨wT4 (List.mem_of_getElem? (i := 188) (by decide +kernel)), Or.inl rfl⟩
set_option maxRecDepth 100000 in
theorem zc548 : wZ (.methodLink RX10 137 yX2_has) := ⟨wT4 (List.mem_of_getElem? (i := 187) (by decide +kernel)), Or.inl rfl⟩
set_option maxRecDepth 100000 in
theorem zc549 : wZ (.code yX10_seat cX10_seat 2 (some .int)) := ⟨wT4 (List.mem_of_getElem? (i := 186) rfl), Or.inl rfl⟩
def b_Y10_seat_35 (S : Cst) (x0 : Nat) (x1 : Int32) (y0 : Int32) : Int32 := y0
def q_Y10_seat_35 (S : Cst) (x0 : Nat) (x1 : Int32) (y0 : Int32) : Prop := True
def f_Y10_seat (S : Cst) (x0 : Nat) (x1 : Int32) : Int32 := if (f_Y2_has S ((grC S ((grC S x0 0).getD 0) 0).getD 0) x1) = 0 then ((-1) : Int32) else if (f_Y2_isThere S ((grC S ((grC S x0 0).getD 0) 0).getD 0) x1) = 0 then (b_Y10_seat_35 S x0 x1 0) else (b_Y10_seat_35 S x0 x1 1)
def p_Y10_seat (S : Cst) (x0 : Nat) (x1 : Int32) : Prop := (iR S (grC S x0 0) 0) ∧ (iR S (grC S ((grC S x0 0).getD 0) 0) 1) ∧ (p_Y2_has S ((grC S ((grC S x0 0).getD 0) 0).getD 0) x1) ∧ (if (f_Y2_has S ((grC S ((grC S x0 0).getD 0) 0).getD 0) x1) = 0 then True else (iR S (grC S x0 0) 0) ∧ (iR S (grC S ((grC S x0 0).getD 0) 0) 1) ∧ (p_Y2_isThere S ((grC S ((grC S x0 0).getD 0) 0).getD 0) x1) ∧ (if (f_Y2_isThere S ((grC S ((grC S x0 0).getD 0) 0).getD 0) x1) = 0 then (q_Y10_seat_35 S x0 x1 0) else (q_Y10_seat_35 S x0 x1 1)))
def e_Y10_seat : List Cond := [.fieldLink RX10 10 "MotionFloor" "now" "LMotionFloor$Assembly;", .fieldLink RX10 88 "MotionFloor$Assembly" "house" "LMotionFloor$House;", .methodLink RX10 137 yX2_has, .instanceMethod yX2_has, .selects RX2 yX2_has yX2_has, .initialized RX2, .methodLink RX10 141 yX2_isThere, .instanceMethod yX2_isThere, .selects RX2 yX2_isThere yX2_isThere]
def v_Y10_seat : List Cond := .code yX10_seat cX10_seat 2 (some .int) :: (e_Y10_seat ++ (wsX100 ++ (wsX00 ++ (v_Y2_has ++ (v_Y2_isThere ++ [])))))
theorem te_Y10_seat : GoodIn lw_tbl e_Y10_seat := wGc zc496 (wGc zc545 (wGc zc548 (wGc zc150 (wGc zc149 (wGc zc77 (wGc zc547 (wGc zc147 (wGc zc146 (wG0)))))))))
theorem t_Y10_seat : GoodIn lw_tbl v_Y10_seat := wGc zc549 (wGa te_Y10_seat (wGa zcX10 (wGa zcX0 (wGa t_Y2_has (wGa t_Y2_isThere (wG0))))))
set_option maxHeartbeats 4000000 in
set_option maxRecDepth 100000 in
theorem c_Y10_seat (l : Launch) (G : va_G) (K : Nat → ClassId) (ad : Nat → Nat) (S : Cst) (x0 : Nat) (a1 : Int32) (sz : Nat) : Met l yX10_seat v_Y10_seat ({ frames := 1, cells := 0, slots := 0, locals := 21 }) (va_Pc [.ref (ad x0), .int a1] (cSt G K ad sz S (iK S x0 7 ∧ p_Y10_seat S x0 a1))) (va_Qi (fun (r : Int32) (u : Cst) => (r, u) = (f_Y10_seat S x0 a1, S)) (cBt G K ad (va_A (wsC K ad S) sz)) (va_A (wsC K ad S) sz)) 0 0 (va_A (wsC K ad S) sz) := by
  refine Met.ofW (cc := cX10_seat) (maxL := 2) (ret := (some .int)) (by decide) rfl ?_
  intro p e s m args below meth c s₁ B hml hv
  obtain ⟨rfl, ⟨hsz, hP, hK, hD0, hTE⟩, hp⟩ := hv
  obtain ⟨k_x0, hp⟩ := hp
  have hx := B.exec
  have hb := B.bytes
  have hr := B.returns
  have hts := atoms_spec (ws := v_Y10_seat) B.pre
  have t_ := t_Y10_seat
  have mw : ∀ w ∈ e_Y10_seat, w ∈ v_Y10_seat := fun w h => List.mem_cons_of_mem _ (List.mem_append_left _ h)
  have hw := fun w (h : w ∈ e_Y10_seat) => hts w (mw w h)
  have iX10 : ∀ w ∈ wsX100, w ∈ v_Y10_seat := fun w h => List.mem_cons_of_mem _ (List.mem_append_right _ (List.mem_append_left _ h))
  have iX0 : ∀ w ∈ wsX00, w ∈ v_Y10_seat := fun w h => List.mem_cons_of_mem _ (List.mem_append_right _ (List.mem_append_right _ (List.mem_append_left _ h)))
  have j_Y2_has : ∀ w ∈ v_Y2_has, w ∈ v_Y10_seat := fun w h => List.mem_cons_of_mem _ (List.mem_append_right _ (List.mem_append_right _ (List.mem_append_right _ (List.mem_append_left _ h))))
  have j_Y2_isThere : ∀ w ∈ v_Y2_isThere, w ∈ v_Y10_seat := fun w h => List.mem_cons_of_mem _ (List.mem_append_right _ (List.mem_append_right _ (List.mem_append_right _ (List.mem_append_right _ (List.mem_append_left _ h)))))
  have hown : s.vm.findClass RX10 = some m.cls := findClass_of_methodNamed B.named
  have hlocks := B.notSynchronized
  subst hsz
  have hD := hD0.self (sz := s.heap.size)
  generalize hAe : va_A (wsC K ad S) s.heap.size = A at hD ⊢
  have hA : ∀ q : Nat, s.heap.size ≤ q → A q := fun q h => by rw [← hAe]; exact Or.inr h
  have hS : va_S A s.heap s.heap [] := va_S.rf
  have hl : lv_has (lg_sl ([.ref (ad x0), .int a1]) ++ List.replicate (2 - (lg_sl ([.ref (ad x0), .int a1])).length) Slot.unset).toArray 2 [(0, .ref (ad x0)), (1, .int a1)] := by
    exact lv_entry ([.ref (ad x0), .int a1]) (n := 2) (Nat.le_of_ble_eq_true rfl)
  rw [lg_entry_eq]
  generalize (lg_sl ([.ref (ad x0), .int a1]) ++ List.replicate (2 - (lg_sl ([.ref (ad x0), .int a1])).length) Slot.unset).toArray = ls_ at hl ⊢
  refine wGen (fun Q hQ => ?_)
  obtain ⟨X, hX⟩ : ∃ X, f_Y10_seat S x0 a1 = X := ⟨_, rfl⟩
  have B_Y10_seat_35 : ∀ (x1 : Int32) (y0 : Int32) (H : Heap) (locs : List Loc) (ls_ : Array Slot), b_Y10_seat_35 S x0 x1 y0 = X → q_Y10_seat_35 S x0 x1 y0 → va_P G vwCl (wsC K ad S) H → va_D A (wsC K ad S) → va_S A s.heap H locs → lv_has ls_ 2 [(0, .ref (ad x0)), (1, .int x1)] → W p l e ({ frames := 1, cells := 0, slots := 0, locals := 21 } : Room) s m #[Value.ref (ad x0), Value.int a1] below meth c H locs 0 0 Q (F0 m 35 ls_ [.int y0]) := by
    intro x1 y0 H locs ls_ hE hp hP hD hS hl
    unfold b_Y10_seat_35 at hE
    unfold q_Y10_seat_35 at hp
    subst hQ
    exact W.iret (v := y0) hx hb hr (fun t ht hW => ⟨⟨y0, S, rfl, (pair_i (hE.trans hX.symm)), by rw [ht]; exact hP, hD⟩, hS.F ht⟩) hS.2.2 dX10_seat_35
  have B_M : ∀ (x1 : Int32) (H : Heap) (locs : List Loc) (ls_ : Array Slot), f_Y10_seat S x0 x1 = X → p_Y10_seat S x0 x1 → va_P G vwCl (wsC K ad S) H → va_D A (wsC K ad S) → va_S A s.heap H locs → lv_has ls_ 2 [(0, .ref (ad x0)), (1, .int x1)] → W p l e ({ frames := 1, cells := 0, slots := 0, locals := 21 } : Room) s m #[Value.ref (ad x0), Value.int a1] below meth c H locs 0 0 Q (F0 m 0 ls_ []) := by
    intro x1 H locs ls_ hE hp hP hD hS hl
    unfold f_Y10_seat at hE
    unfold p_Y10_seat at hp
    refine lv_aload_n hx hb dX10_seat_0 rfl (lv_at hl 0 rfl) ?_
    refine va_get (D := G) (ci := 7) (v := va_re ad (grC S x0 0)) (C := RX10) (T := TX10) (N := 5) hx hb hts iX10 hown hK hP x0 (at_7 k_x0) rfl 0 (by decide) (hw (.fieldLink RX10 10 "MotionFloor" "now" "LMotionFloor$Assembly;") (List.mem_of_getElem? (i := 0) rfl)) (fun _ h9 => h9) rfl dX10_seat_1 ?_
    obtain ⟨hy1, hp⟩ := hp
    refine cTop (r := (grC S x0 0)) hy1.1 ?_
    refine va_get (D := G) (ci := 0) (v := va_re ad (grC S ((grC S x0 0).getD 0) 0)) (C := RX0) (T := TX0) (N := 11) hx hb hts iX0 hown hK hP ((grC S x0 0).getD 0) (at_0 hy1.2) rfl 0 (by decide) (hw (.fieldLink RX10 88 "MotionFloor$Assembly" "house" "LMotionFloor$House;") (List.mem_of_getElem? (i := 1) rfl)) (fun _ h9 => h9) rfl dX10_seat_4 ?_
    refine lv_iload_n hx hb dX10_seat_7 rfl (lv_at hl 1 rfl) ?_
    obtain ⟨hy2, hp⟩ := hp
    refine cTop2 (r := (grC S ((grC S x0 0).getD 0) 0)) hy2.1 ?_
    obtain ⟨hy3, hp⟩ := hp
    refine cGoi (va_runV (As := [.int x1]) (rest := []) ⟨hx, hb, hml, hown, hts⟩ (c_Y2_has l G K ad S ((grC S ((grC S x0 0).getD 0) 0).getD 0) x1 _) (cwV 1 hts (wGV t_ (mw (.methodLink RX10 137 yX2_has) (List.mem_of_getElem? (i := 2) rfl)) (mw (.instanceMethod yX2_has) (List.mem_of_getElem? (i := 3) rfl)) (mw (.selects RX2 yX2_has yX2_has) (List.mem_of_getElem? (i := 4) rfl)) (mw (.initialized RX2) (List.mem_of_getElem? (i := 5) rfl)) j_Y2_has) rfl rfl rfl (by decide +kernel) ⟨Nat.le_of_ble_eq_true rfl, Nat.le_of_ble_eq_true rfl⟩) (cPV hK hTE hP hD 1 rfl (at_1 hy2.2) ⟨hy2.2, hy3⟩) rfl rfl hl.1 rfl (lv_room (Nat.le_of_ble_eq_true rfl)) dX10_seat_8 ⟨Nat.le_of_ble_eq_true rfl, Nat.le_of_ble_eq_true rfl⟩) hP hD hS hA (fun r5 u4 H locs hv hP hD hS => ?_)
    have h1 := congrArg Prod.fst hv
    have h2 := (congrArg Prod.snd hv).symm
    dsimp only at h1 h2
    subst h1
    subst h2
    refine lv_if_ne (tgt := 16) hx hb dX10_seat_11 (by decide) (fun c6 => ?_) (fun c6 => ?_)
    · rw [if_neg c6] at hE hp
      refine lv_aload_n hx hb dX10_seat_16 rfl (lv_at hl 0 rfl) ?_
      refine va_get (D := G) (ci := 7) (v := va_re ad (grC S x0 0)) (C := RX10) (T := TX10) (N := 5) hx hb hts iX10 hown hK hP x0 (at_7 k_x0) rfl 0 (by decide) (hw (.fieldLink RX10 10 "MotionFloor" "now" "LMotionFloor$Assembly;") (List.mem_of_getElem? (i := 0) rfl)) (fun _ h9 => h9) rfl dX10_seat_17 ?_
      obtain ⟨hy7, hp⟩ := hp
      refine cTop (r := (grC S x0 0)) hy7.1 ?_
      refine va_get (D := G) (ci := 0) (v := va_re ad (grC S ((grC S x0 0).getD 0) 0)) (C := RX0) (T := TX0) (N := 11) hx hb hts iX0 hown hK hP ((grC S x0 0).getD 0) (at_0 hy7.2) rfl 0 (by decide) (hw (.fieldLink RX10 88 "MotionFloor$Assembly" "house" "LMotionFloor$House;") (List.mem_of_getElem? (i := 1) rfl)) (fun _ h9 => h9) rfl dX10_seat_20 ?_
      refine lv_iload_n hx hb dX10_seat_23 rfl (lv_at hl 1 rfl) ?_
      obtain ⟨hy8, hp⟩ := hp
      refine cTop2 (r := (grC S ((grC S x0 0).getD 0) 0)) hy8.1 ?_
      obtain ⟨hy9, hp⟩ := hp
      refine cGoi (va_runV (As := [.int x1]) (rest := []) ⟨hx, hb, hml, hown, hts⟩ (c_Y2_isThere l G K ad S ((grC S ((grC S x0 0).getD 0) 0).getD 0) x1 _) (cwV 1 hts (wGV t_ (mw (.methodLink RX10 141 yX2_isThere) (List.mem_of_getElem? (i := 6) rfl)) (mw (.instanceMethod yX2_isThere) (List.mem_of_getElem? (i := 7) rfl)) (mw (.selects RX2 yX2_isThere yX2_isThere) (List.mem_of_getElem? (i := 8) rfl)) (mw (.initialized RX2) (List.mem_of_getElem? (i := 5) rfl)) j_Y2_isThere) rfl rfl rfl (by decide +kernel) ⟨Nat.le_of_ble_eq_true rfl, Nat.le_of_ble_eq_true rfl⟩) (cPV hK hTE hP hD 1 rfl (at_1 hy8.2) ⟨hy8.2, hy9⟩) rfl rfl hl.1 rfl (lv_room (Nat.le_of_ble_eq_true rfl)) dX10_seat_24 ⟨Nat.le_of_ble_eq_true rfl, Nat.le_of_ble_eq_true rfl⟩) hP hD hS hA (fun r11 u10 H locs hv hP hD hS => ?_)
      have h1 := congrArg Prod.fst hv
      have h2 := (congrArg Prod.snd hv).symm
      dsimp only at h1 h2
      subst h1
      subst h2
      refine lv_if_eq (tgt := 34) hx hb dX10_seat_27 (by decide) (fun c12 => ?_) (fun c12 => ?_)
      · rw [if_pos c12] at hE hp
        refine lv_iconst (v := 0) hx hb dX10_seat_34 (by decide) ?_
        exact B_Y10_seat_35 x1 0 _ _ _ hE hp hP hD hS (lv_sub hl [0, 1] rfl)
      · rw [if_neg c12] at hE hp
        refine lv_iconst (v := 1) hx hb dX10_seat_30 (by decide) ?_
        refine lv_goto (tgt := 35) hx hb dX10_seat_31 (by decide) ?_
        exact B_Y10_seat_35 x1 1 _ _ _ hE hp hP hD hS (lv_sub hl [0, 1] rfl)
    · rw [if_pos c6] at hE hp
      refine lv_iconst (v := (-1)) hx hb dX10_seat_14 (by decide) ?_
      subst hQ
      exact W.iret (v := ((-1) : Int32)) hx hb hr (fun t ht hW => ⟨⟨((-1) : Int32), S, rfl, (pair_i (hE.trans hX.symm)), by rw [ht]; exact hP, hD⟩, hS.F ht⟩) hS.2.2 dX10_seat_15
  exact B_M a1 _ _ _ hX hp hP hD hS hl
theorem dX10_journal_0 : decode cX10_journal 0 = .ok (.iload_n 2, 1) := by decide +kernel
theorem dX10_journal_1 : decode cX10_journal 1 = .ok (.iconst 5, 1) := by decide +kernel
theorem dX10_journal_2 : decode cX10_journal 2 = .ok (.if_icmp .le 7, 3) := by decide +kernel
theorem dX10_journal_5 : decode cX10_journal 5 = .ok (.iconst (-1), 1) := by decide +kernel
theorem dX10_journal_6 : decode cX10_journal 6 = .ok (.goto 15, 3) := by decide +kernel
theorem dX10_journal_9 : decode cX10_journal 9 = .ok (.aload_n 0, 1) := by decide +kernel
theorem dX10_journal_10 : decode cX10_journal 10 = .ok (.getfield 10, 3) := by decide +kernel
theorem dX10_journal_13 : decode cX10_journal 13 = .ok (.getfield 123, 3) := by decide +kernel
theorem dX10_journal_16 : decode cX10_journal 16 = .ok (.iload_n 1, 1) := by decide +kernel
theorem dX10_journal_17 : decode cX10_journal 17 = .ok (.iload_n 2, 1) := by decide +kernel
theorem dX10_journal_18 : decode cX10_journal 18 = .ok (.invokevirtual 86, 3) := by decide +kernel
theorem dX10_journal_21 : decode cX10_journal 21 = .ok (.ireturn, 1) := by decide +kernel
set_option maxRecDepth 100000 in
theorem zc550 : wZ (.code yX10_journal cX10_journal 3 (some .int)) := ⟨wT4 (List.mem_of_getElem? (i := 192) rfl), Or.inl rfl⟩
def b_Y10_journal_21 (S : Cst) (x0 : Nat) (x1 : Int32) (x2 : Int32) (y0 : Int32) : Int32 := y0
def q_Y10_journal_21 (S : Cst) (x0 : Nat) (x1 : Int32) (x2 : Int32) (y0 : Int32) : Prop := True
def f_Y10_journal (S : Cst) (x0 : Nat) (x1 : Int32) (x2 : Int32) : Int32 := if x2 ≤ 5 then (b_Y10_journal_21 S x0 x1 x2 (f_Y3_at S ((grC S ((grC S x0 0).getD 0) 4).getD 0) x1 x2)) else (b_Y10_journal_21 S x0 x1 x2 (-1))
def p_Y10_journal (S : Cst) (x0 : Nat) (x1 : Int32) (x2 : Int32) : Prop := (if x2 ≤ 5 then (iR S (grC S x0 0) 0) ∧ (iR S (grC S ((grC S x0 0).getD 0) 4) 2) ∧ (p_Y3_at S ((grC S ((grC S x0 0).getD 0) 4).getD 0) x1 x2) ∧ (q_Y10_journal_21 S x0 x1 x2 (f_Y3_at S ((grC S ((grC S x0 0).getD 0) 4).getD 0) x1 x2)) else (q_Y10_journal_21 S x0 x1 x2 (-1)))
def e_Y10_journal : List Cond := [.fieldLink RX10 10 "MotionFloor" "now" "LMotionFloor$Assembly;", .fieldLink RX10 123 "MotionFloor$Assembly" "minutes" "LMotionFloor$Ledger;", .methodLink RX10 86 yX3_at, .instanceMethod yX3_at, .selects RX3 yX3_at yX3_at, .initialized RX3]
def v_Y10_journal : List Cond := .code yX10_journal cX10_journal 3 (some .int) :: (e_Y10_journal ++ (wsX100 ++ (wsX00 ++ (v_Y3_at ++ []))))
theorem te_Y10_journal : GoodIn lw_tbl e_Y10_journal := wGc zc496 (wGc zc535 (wGc zc527 (wGc zc526 (wGc zc525 (wGc zc295 (wG0))))))
theorem t_Y10_journal : GoodIn lw_tbl v_Y10_journal := wGc zc550 (wGa te_Y10_journal (wGa zcX10 (wGa zcX0 (wGa t_Y3_at (wG0)))))
set_option maxHeartbeats 4000000 in
set_option maxRecDepth 100000 in
theorem c_Y10_journal (l : Launch) (G : va_G) (K : Nat → ClassId) (ad : Nat → Nat) (S : Cst) (x0 : Nat) (a1 : Int32) (a2 : Int32) (sz : Nat) : Met l yX10_journal v_Y10_journal ({ frames := 1, cells := 0, slots := 0, locals := 23 }) (va_Pc [.ref (ad x0), .int a1, .int a2] (cSt G K ad sz S (iK S x0 7 ∧ p_Y10_journal S x0 a1 a2))) (va_Qi (fun (r : Int32) (u : Cst) => (r, u) = (f_Y10_journal S x0 a1 a2, S)) (cBt G K ad (va_A (wsC K ad S) sz)) (va_A (wsC K ad S) sz)) 0 0 (va_A (wsC K ad S) sz) := by
  refine Met.ofW (cc := cX10_journal) (maxL := 3) (ret := (some .int)) (by decide) rfl ?_
  intro p e s m args below meth c s₁ B hml hv
  obtain ⟨rfl, ⟨hsz, hP, hK, hD0, hTE⟩, hp⟩ := hv
  obtain ⟨k_x0, hp⟩ := hp
  have hx := B.exec
  have hb := B.bytes
  have hr := B.returns
  have hts := atoms_spec (ws := v_Y10_journal) B.pre
  have t_ := t_Y10_journal
  have mw : ∀ w ∈ e_Y10_journal, w ∈ v_Y10_journal := fun w h => List.mem_cons_of_mem _ (List.mem_append_left _ h)
  have hw := fun w (h : w ∈ e_Y10_journal) => hts w (mw w h)
  have iX10 : ∀ w ∈ wsX100, w ∈ v_Y10_journal := fun w h => List.mem_cons_of_mem _ (List.mem_append_right _ (List.mem_append_left _ h))
  have iX0 : ∀ w ∈ wsX00, w ∈ v_Y10_journal := fun w h => List.mem_cons_of_mem _ (List.mem_append_right _ (List.mem_append_right _ (List.mem_append_left _ h)))
  have j_Y3_at : ∀ w ∈ v_Y3_at, w ∈ v_Y10_journal := fun w h => List.mem_cons_of_mem _ (List.mem_append_right _ (List.mem_append_right _ (List.mem_append_right _ (List.mem_append_left _ h))))
  have hown : s.vm.findClass RX10 = some m.cls := findClass_of_methodNamed B.named
  have hlocks := B.notSynchronized
  subst hsz
  have hD := hD0.self (sz := s.heap.size)
  generalize hAe : va_A (wsC K ad S) s.heap.size = A at hD ⊢
  have hA : ∀ q : Nat, s.heap.size ≤ q → A q := fun q h => by rw [← hAe]; exact Or.inr h
  have hS : va_S A s.heap s.heap [] := va_S.rf
  have hl : lv_has (lg_sl ([.ref (ad x0), .int a1, .int a2]) ++ List.replicate (3 - (lg_sl ([.ref (ad x0), .int a1, .int a2])).length) Slot.unset).toArray 3 [(0, .ref (ad x0)), (1, .int a1), (2, .int a2)] := by
    exact lv_entry ([.ref (ad x0), .int a1, .int a2]) (n := 3) (Nat.le_of_ble_eq_true rfl)
  rw [lg_entry_eq]
  generalize (lg_sl ([.ref (ad x0), .int a1, .int a2]) ++ List.replicate (3 - (lg_sl ([.ref (ad x0), .int a1, .int a2])).length) Slot.unset).toArray = ls_ at hl ⊢
  refine wGen (fun Q hQ => ?_)
  obtain ⟨X, hX⟩ : ∃ X, f_Y10_journal S x0 a1 a2 = X := ⟨_, rfl⟩
  have B_Y10_journal_21 : ∀ (x1 : Int32) (x2 : Int32) (y0 : Int32) (H : Heap) (locs : List Loc) (ls_ : Array Slot), b_Y10_journal_21 S x0 x1 x2 y0 = X → q_Y10_journal_21 S x0 x1 x2 y0 → va_P G vwCl (wsC K ad S) H → va_D A (wsC K ad S) → va_S A s.heap H locs → lv_has ls_ 3 [(0, .ref (ad x0)), (1, .int x1), (2, .int x2)] → W p l e ({ frames := 1, cells := 0, slots := 0, locals := 23 } : Room) s m #[Value.ref (ad x0), Value.int a1, Value.int a2] below meth c H locs 0 0 Q (F0 m 21 ls_ [.int y0]) := by
    intro x1 x2 y0 H locs ls_ hE hp hP hD hS hl
    unfold b_Y10_journal_21 at hE
    unfold q_Y10_journal_21 at hp
    subst hQ
    exact W.iret (v := y0) hx hb hr (fun t ht hW => ⟨⟨y0, S, rfl, (pair_i (hE.trans hX.symm)), by rw [ht]; exact hP, hD⟩, hS.F ht⟩) hS.2.2 dX10_journal_21
  have B_M : ∀ (x1 : Int32) (x2 : Int32) (H : Heap) (locs : List Loc) (ls_ : Array Slot), f_Y10_journal S x0 x1 x2 = X → p_Y10_journal S x0 x1 x2 → va_P G vwCl (wsC K ad S) H → va_D A (wsC K ad S) → va_S A s.heap H locs → lv_has ls_ 3 [(0, .ref (ad x0)), (1, .int x1), (2, .int x2)] → W p l e ({ frames := 1, cells := 0, slots := 0, locals := 23 } : Room) s m #[Value.ref (ad x0), Value.int a1, Value.int a2] below meth c H locs 0 0 Q (F0 m 0 ls_ []) := by
    intro x1 x2 H locs ls_ hE hp hP hD hS hl
    unfold f_Y10_journal at hE
    unfold p_Y10_journal at hp
    refine lv_iload_n hx hb dX10_journal_0 rfl (lv_at hl 2 rfl) ?_
    refine lv_iconst (v := 5) hx hb dX10_journal_1 (by decide) ?_
    refine lv_icmp_le (tgt := 9) hx hb dX10_journal_2 (by decide) (fun c1 => ?_) (fun c1 => ?_)
    · rw [if_pos c1] at hE hp
      refine lv_aload_n hx hb dX10_journal_9 rfl (lv_at hl 0 rfl) ?_
      refine va_get (D := G) (ci := 7) (v := va_re ad (grC S x0 0)) (C := RX10) (T := TX10) (N := 5) hx hb hts iX10 hown hK hP x0 (at_7 k_x0) rfl 0 (by decide) (hw (.fieldLink RX10 10 "MotionFloor" "now" "LMotionFloor$Assembly;") (List.mem_of_getElem? (i := 0) rfl)) (fun _ h9 => h9) rfl dX10_journal_10 ?_
      obtain ⟨hy2, hp⟩ := hp
      refine cTop (r := (grC S x0 0)) hy2.1 ?_
      refine va_get (D := G) (ci := 0) (v := va_re ad (grC S ((grC S x0 0).getD 0) 4)) (C := RX0) (T := TX0) (N := 11) hx hb hts iX0 hown hK hP ((grC S x0 0).getD 0) (at_0 hy2.2) rfl 4 (by decide) (hw (.fieldLink RX10 123 "MotionFloor$Assembly" "minutes" "LMotionFloor$Ledger;") (List.mem_of_getElem? (i := 1) rfl)) (fun _ h9 => h9) rfl dX10_journal_13 ?_
      refine lv_iload_n hx hb dX10_journal_16 rfl (lv_at hl 1 rfl) ?_
      refine lv_iload_n hx hb dX10_journal_17 rfl (lv_at hl 2 rfl) ?_
      obtain ⟨hy3, hp⟩ := hp
      refine cTop3 (r := (grC S ((grC S x0 0).getD 0) 4)) hy3.1 ?_
      obtain ⟨hy4, hp⟩ := hp
      refine cGoi (va_runV (As := [.int x1, .int x2]) (rest := []) ⟨hx, hb, hml, hown, hts⟩ (c_Y3_at l G K ad S ((grC S ((grC S x0 0).getD 0) 4).getD 0) x1 x2 _) (cwV 2 hts (wGV t_ (mw (.methodLink RX10 86 yX3_at) (List.mem_of_getElem? (i := 2) rfl)) (mw (.instanceMethod yX3_at) (List.mem_of_getElem? (i := 3) rfl)) (mw (.selects RX3 yX3_at yX3_at) (List.mem_of_getElem? (i := 4) rfl)) (mw (.initialized RX3) (List.mem_of_getElem? (i := 5) rfl)) j_Y3_at) rfl rfl rfl (by decide +kernel) ⟨Nat.le_of_ble_eq_true rfl, Nat.le_of_ble_eq_true rfl⟩) (cPV hK hTE hP hD 2 rfl (at_2 hy3.2) ⟨hy3.2, hy4⟩) rfl rfl hl.1 rfl (lv_room (Nat.le_of_ble_eq_true rfl)) dX10_journal_18 ⟨Nat.le_of_ble_eq_true rfl, Nat.le_of_ble_eq_true rfl⟩) hP hD hS hA (fun r6 u5 H locs hv hP hD hS => ?_)
      have h1 := congrArg Prod.fst hv
      have h2 := (congrArg Prod.snd hv).symm
      dsimp only at h1 h2
      subst h1
      subst h2
      exact B_Y10_journal_21 x1 x2 (f_Y3_at S ((grC S ((grC S x0 0).getD 0) 4).getD 0) x1 x2) _ _ _ hE hp hP hD hS (lv_sub hl [0, 1, 2] rfl)
    · rw [if_neg c1] at hE hp
      refine lv_iconst (v := (-1)) hx hb dX10_journal_5 (by decide) ?_
      refine lv_goto (tgt := 21) hx hb dX10_journal_6 (by decide) ?_
      exact B_Y10_journal_21 x1 x2 (-1) _ _ _ hE hp hP hD hS (lv_sub hl [0, 1, 2] rfl)
  exact B_M a1 a2 _ _ _ hX hp hP hD hS hl
theorem dX10_again_0 : decode cX10_again 0 = .ok (.aload_n 0, 1) := by decide +kernel
theorem dX10_again_1 : decode cX10_again 1 = .ok (.getfield 10, 3) := by decide +kernel
theorem dX10_again_4 : decode cX10_again 4 = .ok (.getfield 123, 3) := by decide +kernel
theorem dX10_again_7 : decode cX10_again 7 = .ok (.astore_n 1, 1) := by decide +kernel
theorem dX10_again_8 : decode cX10_again 8 = .ok (.aload_n 0, 1) := by decide +kernel
theorem dX10_again_9 : decode cX10_again 9 = .ok (.getfield 16, 3) := by decide +kernel
theorem dX10_again_12 : decode cX10_again 12 = .ok (.aload_n 0, 1) := by decide +kernel
theorem dX10_again_13 : decode cX10_again 13 = .ok (.getfield 10, 3) := by decide +kernel
theorem dX10_again_16 : decode cX10_again 16 = .ok (.getfield 88, 3) := by decide +kernel
theorem dX10_again_19 : decode cX10_again 19 = .ok (.getfield 92, 3) := by decide +kernel
theorem dX10_again_22 : decode cX10_again 22 = .ok (.invokevirtual 28, 3) := by decide +kernel
theorem dX10_again_25 : decode cX10_again 25 = .ok (.iconst 0, 1) := by decide +kernel
theorem dX10_again_26 : decode cX10_again 26 = .ok (.istore_n 2, 1) := by decide +kernel
theorem dX10_again_27 : decode cX10_again 27 = .ok (.iload_n 2, 1) := by decide +kernel
theorem dX10_again_28 : decode cX10_again 28 = .ok (.aload_n 1, 1) := by decide +kernel
theorem dX10_again_29 : decode cX10_again 29 = .ok (.getfield 126, 3) := by decide +kernel
theorem dX10_again_32 : decode cX10_again 32 = .ok (.if_icmp .ge 79, 3) := by decide +kernel
theorem dX10_again_35 : decode cX10_again 35 = .ok (.aload_n 0, 1) := by decide +kernel
theorem dX10_again_36 : decode cX10_again 36 = .ok (.getfield 16, 3) := by decide +kernel
theorem dX10_again_39 : decode cX10_again 39 = .ok (.aload_n 1, 1) := by decide +kernel
theorem dX10_again_40 : decode cX10_again 40 = .ok (.iload_n 2, 1) := by decide +kernel
theorem dX10_again_41 : decode cX10_again 41 = .ok (.iconst 0, 1) := by decide +kernel
theorem dX10_again_42 : decode cX10_again 42 = .ok (.invokevirtual 86, 3) := by decide +kernel
theorem dX10_again_45 : decode cX10_again 45 = .ok (.aload_n 1, 1) := by decide +kernel
theorem dX10_again_46 : decode cX10_again 46 = .ok (.iload_n 2, 1) := by decide +kernel
theorem dX10_again_47 : decode cX10_again 47 = .ok (.iconst 1, 1) := by decide +kernel
theorem dX10_again_48 : decode cX10_again 48 = .ok (.invokevirtual 86, 3) := by decide +kernel
theorem dX10_again_51 : decode cX10_again 51 = .ok (.aload_n 1, 1) := by decide +kernel
theorem dX10_again_52 : decode cX10_again 52 = .ok (.iload_n 2, 1) := by decide +kernel
theorem dX10_again_53 : decode cX10_again 53 = .ok (.iconst 2, 1) := by decide +kernel
theorem dX10_again_54 : decode cX10_again 54 = .ok (.invokevirtual 86, 3) := by decide +kernel
theorem dX10_again_57 : decode cX10_again 57 = .ok (.aload_n 1, 1) := by decide +kernel
theorem dX10_again_58 : decode cX10_again 58 = .ok (.iload_n 2, 1) := by decide +kernel
theorem dX10_again_59 : decode cX10_again 59 = .ok (.iconst 3, 1) := by decide +kernel
theorem dX10_again_60 : decode cX10_again 60 = .ok (.invokevirtual 86, 3) := by decide +kernel
theorem dX10_again_63 : decode cX10_again 63 = .ok (.aload_n 1, 1) := by decide +kernel
theorem dX10_again_64 : decode cX10_again 64 = .ok (.iload_n 2, 1) := by decide +kernel
theorem dX10_again_65 : decode cX10_again 65 = .ok (.iconst 4, 1) := by decide +kernel
theorem dX10_again_66 : decode cX10_again 66 = .ok (.invokevirtual 86, 3) := by decide +kernel
theorem dX10_again_69 : decode cX10_again 69 = .ok (.invokevirtual 32, 3) := by decide +kernel
theorem dX10_again_111 : decode cX10_again 111 = .ok (.iconst (-1), 1) := by decide +kernel
theorem dX10_again_112 : decode cX10_again 112 = .ok (.ireturn, 1) := by decide +kernel
theorem dX10_before_0 : decode cX10_before 0 = .ok (.iload_n 1, 1) := by decide +kernel
theorem dX10_before_1 : decode cX10_before 1 = .ok (.ifCond .lt 17, 3) := by decide +kernel
theorem dX10_before_4 : decode cX10_before 4 = .ok (.iload_n 1, 1) := by decide +kernel
theorem dX10_before_5 : decode cX10_before 5 = .ok (.aload_n 0, 1) := by decide +kernel
theorem dX10_before_6 : decode cX10_before 6 = .ok (.getfield 10, 3) := by decide +kernel
theorem dX10_before_9 : decode cX10_before 9 = .ok (.getfield 123, 3) := by decide +kernel
theorem dX10_before_12 : decode cX10_before 12 = .ok (.getfield 126, 3) := by decide +kernel
theorem dX10_before_15 : decode cX10_before 15 = .ok (.if_icmp .le 5, 3) := by decide +kernel
theorem dX10_before_18 : decode cX10_before 18 = .ok (.iconst (-1), 1) := by decide +kernel
theorem dX10_before_19 : decode cX10_before 19 = .ok (.ireturn, 1) := by decide +kernel
theorem dX10_before_20 : decode cX10_before 20 = .ok (.aload_n 0, 1) := by decide +kernel
theorem dX10_before_21 : decode cX10_before 21 = .ok (.getfield 10, 3) := by decide +kernel
theorem dX10_before_24 : decode cX10_before 24 = .ok (.getfield 123, 3) := by decide +kernel
theorem dX10_before_27 : decode cX10_before 27 = .ok (.astore 4, 2) := by decide +kernel
theorem dX10_before_29 : decode cX10_before 29 = .ok (.aload_n 0, 1) := by decide +kernel
theorem dX10_before_30 : decode cX10_before 30 = .ok (.getfield 16, 3) := by decide +kernel
theorem dX10_before_33 : decode cX10_before 33 = .ok (.aload_n 0, 1) := by decide +kernel
theorem dX10_before_34 : decode cX10_before 34 = .ok (.getfield 10, 3) := by decide +kernel
theorem dX10_before_37 : decode cX10_before 37 = .ok (.getfield 88, 3) := by decide +kernel
theorem dX10_before_40 : decode cX10_before 40 = .ok (.getfield 92, 3) := by decide +kernel
theorem dX10_before_43 : decode cX10_before 43 = .ok (.invokevirtual 28, 3) := by decide +kernel
theorem dX10_before_46 : decode cX10_before 46 = .ok (.iconst 0, 1) := by decide +kernel
theorem dX10_before_47 : decode cX10_before 47 = .ok (.istore 5, 2) := by decide +kernel
theorem dX10_before_49 : decode cX10_before 49 = .ok (.iload 5, 2) := by decide +kernel
theorem dX10_before_51 : decode cX10_before 51 = .ok (.iload_n 1, 1) := by decide +kernel
theorem dX10_before_52 : decode cX10_before 52 = .ok (.if_icmp .ge 57, 3) := by decide +kernel
theorem dX10_before_55 : decode cX10_before 55 = .ok (.aload_n 0, 1) := by decide +kernel
theorem dX10_before_56 : decode cX10_before 56 = .ok (.getfield 16, 3) := by decide +kernel
theorem dX10_before_59 : decode cX10_before 59 = .ok (.aload 4, 2) := by decide +kernel
theorem dX10_before_61 : decode cX10_before 61 = .ok (.iload 5, 2) := by decide +kernel
theorem dX10_before_63 : decode cX10_before 63 = .ok (.iconst 0, 1) := by decide +kernel
theorem dX10_before_64 : decode cX10_before 64 = .ok (.invokevirtual 86, 3) := by decide +kernel
theorem dX10_before_67 : decode cX10_before 67 = .ok (.aload 4, 2) := by decide +kernel
theorem dX10_before_69 : decode cX10_before 69 = .ok (.iload 5, 2) := by decide +kernel
theorem dX10_before_71 : decode cX10_before 71 = .ok (.iconst 1, 1) := by decide +kernel
theorem dX10_before_72 : decode cX10_before 72 = .ok (.invokevirtual 86, 3) := by decide +kernel
theorem dX10_before_75 : decode cX10_before 75 = .ok (.aload 4, 2) := by decide +kernel
theorem dX10_before_77 : decode cX10_before 77 = .ok (.iload 5, 2) := by decide +kernel
theorem dX10_before_79 : decode cX10_before 79 = .ok (.iconst 2, 1) := by decide +kernel
theorem dX10_before_80 : decode cX10_before 80 = .ok (.invokevirtual 86, 3) := by decide +kernel
theorem dX10_before_83 : decode cX10_before 83 = .ok (.aload 4, 2) := by decide +kernel
theorem dX10_before_85 : decode cX10_before 85 = .ok (.iload 5, 2) := by decide +kernel
theorem dX10_before_87 : decode cX10_before 87 = .ok (.iconst 3, 1) := by decide +kernel
theorem dX10_before_88 : decode cX10_before 88 = .ok (.invokevirtual 86, 3) := by decide +kernel
theorem dX10_before_91 : decode cX10_before 91 = .ok (.aload 4, 2) := by decide +kernel
theorem dX10_before_93 : decode cX10_before 93 = .ok (.iload 5, 2) := by decide +kernel
theorem dX10_before_95 : decode cX10_before 95 = .ok (.iconst 4, 1) := by decide +kernel
theorem dX10_before_96 : decode cX10_before 96 = .ok (.invokevirtual 86, 3) := by decide +kernel
theorem dX10_before_99 : decode cX10_before 99 = .ok (.invokevirtual 32, 3) := by decide +kernel
theorem dX10_before_109 : decode cX10_before 109 = .ok (.aload_n 0, 1) := by decide +kernel
theorem dX10_before_110 : decode cX10_before 110 = .ok (.getfield 16, 3) := by decide +kernel
theorem dX10_before_113 : decode cX10_before 113 = .ok (.iload_n 2, 1) := by decide +kernel
theorem dX10_before_114 : decode cX10_before 114 = .ok (.iload_n 3, 1) := by decide +kernel
theorem dX10_before_115 : decode cX10_before 115 = .ok (.invokevirtual 62, 3) := by decide +kernel
theorem dX10_before_118 : decode cX10_before 118 = .ok (.ireturn, 1) := by decide +kernel
theorem dX10_canBeDone_0 : decode cX10_canBeDone 0 = .ok (.aload_n 0, 1) := by decide +kernel
theorem dX10_canBeDone_1 : decode cX10_canBeDone 1 = .ok (.getfield 24, 3) := by decide +kernel
theorem dX10_canBeDone_4 : decode cX10_canBeDone 4 = .ok (.iload_n 1, 1) := by decide +kernel
theorem dX10_canBeDone_5 : decode cX10_canBeDone 5 = .ok (.iconst 0, 1) := by decide +kernel
theorem dX10_canBeDone_6 : decode cX10_canBeDone 6 = .ok (.invokevirtual 86, 3) := by decide +kernel
theorem dX10_canBeDone_9 : decode cX10_canBeDone 9 = .ok (.istore_n 2, 1) := by decide +kernel
theorem dX10_canBeDone_10 : decode cX10_canBeDone 10 = .ok (.iload_n 2, 1) := by decide +kernel
theorem dX10_canBeDone_11 : decode cX10_canBeDone 11 = .ok (.iconst 1, 1) := by decide +kernel
theorem dX10_canBeDone_12 : decode cX10_canBeDone 12 = .ok (.if_icmp .lt 11, 3) := by decide +kernel
theorem dX10_canBeDone_15 : decode cX10_canBeDone 15 = .ok (.iload_n 2, 1) := by decide +kernel
theorem dX10_canBeDone_16 : decode cX10_canBeDone 16 = .ok (.getstatic 171, 3) := by decide +kernel
theorem dX10_canBeDone_23 : decode cX10_canBeDone 23 = .ok (.iconst 0, 1) := by decide +kernel
theorem dX10_canBeDone_24 : decode cX10_canBeDone 24 = .ok (.ireturn, 1) := by decide +kernel
theorem dX10_check_0 : decode cX10_check 0 = .ok (.aload_n 0, 1) := by decide +kernel
theorem dX10_check_1 : decode cX10_check 1 = .ok (.getfield 16, 3) := by decide +kernel
theorem dX10_check_4 : decode cX10_check 4 = .ok (.aload_n 0, 1) := by decide +kernel
theorem dX10_check_5 : decode cX10_check 5 = .ok (.getfield 10, 3) := by decide +kernel
theorem dX10_check_8 : decode cX10_check 8 = .ok (.getfield 88, 3) := by decide +kernel
theorem dX10_check_11 : decode cX10_check 11 = .ok (.getfield 92, 3) := by decide +kernel
theorem dX10_check_14 : decode cX10_check 14 = .ok (.invokevirtual 28, 3) := by decide +kernel
theorem dX10_check_17 : decode cX10_check 17 = .ok (.iconst 0, 1) := by decide +kernel
theorem dX10_check_18 : decode cX10_check 18 = .ok (.istore_n 1, 1) := by decide +kernel
theorem dX10_check_19 : decode cX10_check 19 = .ok (.iload_n 1, 1) := by decide +kernel
theorem dX10_check_20 : decode cX10_check 20 = .ok (.aload_n 0, 1) := by decide +kernel
theorem dX10_check_21 : decode cX10_check 21 = .ok (.getfield 24, 3) := by decide +kernel
theorem dX10_check_24 : decode cX10_check 24 = .ok (.getfield 126, 3) := by decide +kernel
theorem dX10_check_27 : decode cX10_check 27 = .ok (.if_icmp .ge 93, 3) := by decide +kernel
theorem dX10_check_30 : decode cX10_check 30 = .ok (.aload_n 0, 1) := by decide +kernel
theorem dX10_check_31 : decode cX10_check 31 = .ok (.getfield 24, 3) := by decide +kernel
theorem dX10_check_34 : decode cX10_check 34 = .ok (.iload_n 1, 1) := by decide +kernel
theorem dX10_check_35 : decode cX10_check 35 = .ok (.iconst 5, 1) := by decide +kernel
theorem dX10_check_36 : decode cX10_check 36 = .ok (.invokevirtual 86, 3) := by decide +kernel
theorem dX10_check_39 : decode cX10_check 39 = .ok (.istore_n 2, 1) := by decide +kernel
theorem dX10_check_40 : decode cX10_check 40 = .ok (.iload_n 2, 1) := by decide +kernel
theorem dX10_check_41 : decode cX10_check 41 = .ok (.ifCond .lt 11, 3) := by decide +kernel
theorem dX10_check_44 : decode cX10_check 44 = .ok (.aload_n 0, 1) := by decide +kernel
theorem dX10_check_45 : decode cX10_check 45 = .ok (.iload_n 1, 1) := by decide +kernel
theorem dX10_check_46 : decode cX10_check 46 = .ok (.invokevirtual 154, 3) := by decide +kernel
theorem dX10_check_52 : decode cX10_check 52 = .ok (.iload_n 1, 1) := by decide +kernel
theorem dX10_check_53 : decode cX10_check 53 = .ok (.ireturn, 1) := by decide +kernel
theorem dX10_check_120 : decode cX10_check 120 = .ok (.iconst (-1), 1) := by decide +kernel
theorem dX10_check_121 : decode cX10_check 121 = .ok (.ireturn, 1) := by decide +kernel
theorem dX10_strike_0 : decode cX10_strike 0 = .ok (.aload_n 0, 1) := by decide +kernel
theorem dX10_strike_1 : decode cX10_strike 1 = .ok (.getfield 24, 3) := by decide +kernel
theorem dX10_strike_4 : decode cX10_strike 4 = .ok (.getfield 126, 3) := by decide +kernel
theorem dX10_strike_7 : decode cX10_strike 7 = .ok (.istore_n 1, 1) := by decide +kernel
theorem dX10_strike_8 : decode cX10_strike 8 = .ok (.aload_n 0, 1) := by decide +kernel
theorem dX10_strike_9 : decode cX10_strike 9 = .ok (.getfield 24, 3) := by decide +kernel
theorem dX10_strike_12 : decode cX10_strike 12 = .ok (.iconst 0, 1) := by decide +kernel
theorem dX10_strike_13 : decode cX10_strike 13 = .ok (.putfield 126, 3) := by decide +kernel
theorem dX10_strike_16 : decode cX10_strike 16 = .ok (.iload_n 1, 1) := by decide +kernel
theorem dX10_strike_17 : decode cX10_strike 17 = .ok (.ireturn, 1) := by decide +kernel
theorem dX10_tell_0 : decode cX10_tell 0 = .ok (.aload_n 0, 1) := by decide +kernel
theorem dX10_tell_1 : decode cX10_tell 1 = .ok (.getfield 24, 3) := by decide +kernel
theorem dX10_tell_4 : decode cX10_tell 4 = .ok (.invokevirtual 144, 3) := by decide +kernel
theorem dX10_tell_7 : decode cX10_tell 7 = .ok (.ifCond .eq 6, 3) := by decide +kernel
theorem dX10_tell_13 : decode cX10_tell 13 = .ok (.aload_n 0, 1) := by decide +kernel
theorem dX10_tell_14 : decode cX10_tell 14 = .ok (.getfield 24, 3) := by decide +kernel
theorem dX10_tell_17 : decode cX10_tell 17 = .ok (.invokevirtual 148, 3) := by decide +kernel
set_option maxRecDepth 100000 in
theorem zc551 : wZ (.code yX10_strike cX10_strike 2 (some .int)) := ⟨wT4 (List.mem_of_getElem? (i := 221) rfl), Or.inl rfl⟩
def f_Y10_strike (S : Cst) (x0 : Nat) : Int32 × Cst := ((giC S ((grC S x0 4).getD 0) 3), (siC S ((grC S x0 4).getD 0) 3 (0 : Int32)))
def p_Y10_strike (S : Cst) (x0 : Nat) : Prop := (iR S (grC S x0 4) 2) ∧ (iR S (grC S x0 4) 2) ∧ True
def e_Y10_strike : List Cond := [.fieldLink RX10 24 "MotionFloor" "row" "LMotionFloor$Ledger;", .fieldLink RX10 126 "MotionFloor$Ledger" "size" "I"]
def v_Y10_strike : List Cond := .code yX10_strike cX10_strike 2 (some .int) :: (e_Y10_strike ++ (wsX100 ++ (wsX30 ++ [])))
theorem te_Y10_strike : GoodIn lw_tbl e_Y10_strike := wGc zc530 (wGc zc534 (wG0))
theorem t_Y10_strike : GoodIn lw_tbl v_Y10_strike := wGc zc551 (wGa te_Y10_strike (wGa zcX10 (wGa zcX3 (wG0))))
set_option maxHeartbeats 4000000 in
set_option maxRecDepth 100000 in
theorem c_Y10_strike (l : Launch) (G : va_G) (K : Nat → ClassId) (ad : Nat → Nat) (S0 : Cst) (x0 : Nat)  (sz : Nat) : Met l yX10_strike v_Y10_strike ({ frames := 0, cells := 0, slots := 0, locals := 0 }) (va_Pc [.ref (ad x0)] (cSt G K ad sz S0 (iK S0 x0 7 ∧ p_Y10_strike S0 x0))) (va_Qi (fun (r : Int32) (u : Cst) => (r, u) = f_Y10_strike S0 x0 ∧ eK S0 u) (cBt G K ad (va_A (wsC K ad S0) sz)) (va_A (wsC K ad S0) sz)) 0 0 (va_A (wsC K ad S0) sz) := by
  refine Met.ofW (cc := cX10_strike) (maxL := 2) (ret := (some .int)) (by decide) rfl ?_
  intro p e s m args below meth c s₁ B hml hv
  obtain ⟨rfl, ⟨hsz, hP, hK, hD0, hTE⟩, hp⟩ := hv
  obtain ⟨k_x0, hp⟩ := hp
  have hx := B.exec
  have hb := B.bytes
  have hr := B.returns
  have hts := atoms_spec (ws := v_Y10_strike) B.pre
  have t_ := t_Y10_strike
  have mw : ∀ w ∈ e_Y10_strike, w ∈ v_Y10_strike := fun w h => List.mem_cons_of_mem _ (List.mem_append_left _ h)
  have hw := fun w (h : w ∈ e_Y10_strike) => hts w (mw w h)
  have iX10 : ∀ w ∈ wsX100, w ∈ v_Y10_strike := fun w h => List.mem_cons_of_mem _ (List.mem_append_right _ (List.mem_append_left _ h))
  have iX3 : ∀ w ∈ wsX30, w ∈ v_Y10_strike := fun w h => List.mem_cons_of_mem _ (List.mem_append_right _ (List.mem_append_right _ (List.mem_append_left _ h)))
  have hown : s.vm.findClass RX10 = some m.cls := findClass_of_methodNamed B.named
  have hlocks := B.notSynchronized
  subst hsz
  have hD := hD0.self (sz := s.heap.size)
  generalize hAe : va_A (wsC K ad S0) s.heap.size = A at hD ⊢
  have hA : ∀ q : Nat, s.heap.size ≤ q → A q := fun q h => by rw [← hAe]; exact Or.inr h
  have hS : va_S A s.heap s.heap [] := va_S.rf
  have hl : lv_has (lg_sl ([.ref (ad x0)]) ++ List.replicate (2 - (lg_sl ([.ref (ad x0)])).length) Slot.unset).toArray 2 [(0, .ref (ad x0))] := by
    exact lv_entry ([.ref (ad x0)]) (n := 2) (Nat.le_of_ble_eq_true rfl)
  rw [lg_entry_eq]
  generalize (lg_sl ([.ref (ad x0)]) ++ List.replicate (2 - (lg_sl ([.ref (ad x0)])).length) Slot.unset).toArray = ls_ at hl ⊢
  refine wGen (fun Q hQ => ?_)
  obtain ⟨X, hX⟩ : ∃ X, f_Y10_strike S0 x0 = X := ⟨_, rfl⟩
  have B_M : ∀ (S : Cst) (H : Heap) (locs : List Loc) (ls_ : Array Slot), f_Y10_strike S x0 = X → p_Y10_strike S x0 → eK S0 S → va_P G vwCl (wsC K ad S) H → va_D A (wsC K ad S) → va_S A s.heap H locs → lv_has ls_ 2 [(0, .ref (ad x0))] → W p l e ({ frames := 0, cells := 0, slots := 0, locals := 0 } : Room) s m #[Value.ref (ad x0)] below meth c H locs 0 0 Q (F0 m 0 ls_ []) := by
    intro S H locs ls_ hE hp hZ hP hD hS hl
    unfold f_Y10_strike at hE
    unfold p_Y10_strike at hp
    refine lv_aload_n hx hb dX10_strike_0 rfl (lv_at hl 0 rfl) ?_
    refine va_get (D := G) (ci := 7) (v := va_re ad (grC S x0 4)) (C := RX10) (T := TX10) (N := 5) hx hb hts iX10 hown hK hP x0 (at_7 (k_x0.e hZ)) rfl 4 (by decide) (hw (.fieldLink RX10 24 "MotionFloor" "row" "LMotionFloor$Ledger;") (List.mem_of_getElem? (i := 0) rfl)) (fun _ h9 => h9) rfl dX10_strike_1 ?_
    obtain ⟨hy1, hp⟩ := hp
    refine cTop (r := (grC S x0 4)) hy1.1 ?_
    refine va_get (D := G) (ci := 2) (v := .int (giC S ((grC S x0 4).getD 0) 3)) (C := RX3) (T := TX3) (N := 4) hx hb hts iX3 hown hK hP ((grC S x0 4).getD 0) (at_2 hy1.2) rfl 3 (by decide) (hw (.fieldLink RX10 126 "MotionFloor$Ledger" "size" "I") (List.mem_of_getElem? (i := 1) rfl)) (fun _ h9 => h9) rfl dX10_strike_4 ?_
    refine lv_istore_n (i := 1) (lv' := [(1, .int (giC S ((grC S x0 4).getD 0) 3)), (0, .ref (ad x0))]) hx hb dX10_strike_7 rfl hl (by decide) rfl (fun ls_ hl => ?_)
    refine lv_aload_n hx hb dX10_strike_8 rfl (lv_at hl 1 rfl) ?_
    refine va_get (D := G) (ci := 7) (v := va_re ad (grC S x0 4)) (C := RX10) (T := TX10) (N := 5) hx hb hts iX10 hown hK hP x0 (at_7 (k_x0.e hZ)) rfl 4 (by decide) (hw (.fieldLink RX10 24 "MotionFloor" "row" "LMotionFloor$Ledger;") (List.mem_of_getElem? (i := 0) rfl)) (fun _ h9 => h9) rfl dX10_strike_9 ?_
    refine lv_iconst (v := 0) hx hb dX10_strike_12 (by decide) ?_
    obtain ⟨hy2, hp⟩ := hp
    refine cTop2 (r := (grC S x0 4)) hy2.1 ?_
    refine va_put (D := G) (ci := 2) (v := .int 0) (ty := .int) (C := RX3) (T := TX3) (N := 4) hx hb hts iX3 tyX3 tyX3_ok nmX3 hown hK hP hD hS ((grC S x0 4).getD 0) (at_2 hy2.2) rfl 3 (by decide) (hw (.fieldLink RX10 126 "MotionFloor$Ledger" "size" "I") (List.mem_of_getElem? (i := 1) rfl)) (fun _ h9 => h9) rfl (by decide +kernel) rfl rfl (Nat.le_of_ble_eq_true rfl) dX10_strike_13 (fun H locs hP hD hS => ?_)
    rw [st_2_3 hy2.2] at hP hD
    have hZ := hZ.tr (eK.si S ((grC S x0 4).getD 0) 3 (0 : Int32))
    refine lv_iload_n hx hb dX10_strike_16 rfl (lv_at hl 0 rfl) ?_
    subst hQ
    exact W.iret (v := (giC S ((grC S x0 4).getD 0) 3)) hx hb hr (fun t ht hW => ⟨⟨(giC S ((grC S x0 4).getD 0) 3), (siC S ((grC S x0 4).getD 0) 3 (0 : Int32)), rfl, ⟨hE.trans hX.symm, hZ⟩, by rw [ht]; exact hP, hD⟩, hS.F ht⟩) hS.2.2 dX10_strike_17
  exact B_M S0 _ _ _ hX hp (eK.rf S0) hP hD hS hl
