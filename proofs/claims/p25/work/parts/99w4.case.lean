def e_law_21 : List Cond := [.methodLink RL 101 yX10_told, .instanceMethod yX10_told, .selects RX10 yX10_told yX10_told, .initialized RX10, .methodLink RL 104 yX12_told, .instanceMethod yX12_told, .selects RX12 yX12_told yX12_told, .initialized RX12]
def v_law_21 : List Cond := (e_law_21 ++ (v_Y10_told ++ (v_X12_told ++ [])))
theorem te_law_21 : GoodIn lw_tbl e_law_21 := wGc zc1024 (wGc zc1023 (wGc zc1022 (wGc zc759 (wGc zc1021 (wGc zc1020 (wGc zc1019 (wGc zc886 (wG0))))))))
theorem t_law_21 : GoodIn lw_tbl v_law_21 := wGa te_law_21 (wGa t_Y10_told (wGa t_X12_told (wG0)))
set_option maxHeartbeats 4000000 in
set_option maxRecDepth 100000 in
theorem law_21 {p : Program} {l : Launch} {e : Env} {s : State} {m : MethodId} {below : List Frame} {meth : Method} {c : Code} {b L : Nat} {xs : Nat → Int32} (C0 : lw_At p s m meth c b L xs) {G : va_G} {K : Nat → ClassId} (hK : va_K G vwCl (wTY K) s) (hE : wE s) {nt : Nat} (hN : zst nt (fun q : Nat => s.heap.size ≤ q) s s.heap) {m0 h1 h2 : Nat} {gm g1 g2 : Nat → Nat} {CM SM : Nat} (hCM : CM ≤ 10000) (hSM : SM ≤ 1000000) {i : Int32} (hin : ∀ j : Int32, 0 ≤ j.toInt → j.toInt ≤ 6 → vp_in (i + j) L) (next : lInv p l e s m below meth c b G K m0 gm h1 g1 h2 g2 CM SM 1267 i) : lInv p l e s m below meth c b G K m0 gm h1 g1 h2 g2 CM SM 735 i := by
  obtain ⟨hx, hb, hr, hml, hown, hts, hX, hbl, hlocks, hgv⟩ := id C0
  have hA : ∀ q : Nat, s.heap.size ≤ q → (fun q : Nat => s.heap.size ≤ q) q := fun _ h => h
  have hbA : ¬ (fun q : Nat => s.heap.size ≤ q) b := Nat.not_le.mpr hbl
  have t_ := t_law_21
  have hts := fun w (h : w ∈ v_law_21) => hts w (t_ w h).1
  have mw : ∀ w ∈ e_law_21, w ∈ v_law_21 := fun w h => List.mem_append_left _ h
  have j_Y10_told : ∀ w ∈ v_Y10_told, w ∈ v_law_21 := fun w h => List.mem_append_right _ (List.mem_append_left _ h)
  have j_X12_told : ∀ w ∈ v_X12_told, w ∈ v_law_21 := fun w h => List.mem_append_right _ (List.mem_append_right _ (List.mem_append_left _ h))
  intro S ad M H locs ls hRL hKI hMI hP hD hS hl
  have hk7 := ki7 hKI
  refine lv_aload_n hx hb dL_law_735 rfl (lv_at hl 2 rfl) ?_
  obtain ⟨v_, S2, ef, hp_, hKI2, en_⟩ := k_told hKI
  have bd_ := ki_bd hKI2
  refine lGoL (w1 := fun u : Cst × (Nat → Nat) => wsC K u.2 u.1) (wc := wsC K ad S) (wr := mW K m0 gm h1 g1 h2 g2 M) (va_runV (As := []) (rest := []) ⟨hx, hb, hml, hown, hts⟩ (c_Y10_told l G K ad S 82 S2.1 S2.2.1 _) (cwV 0 hts (wGV t_ (mw (.methodLink RL 101 yX10_told) (List.mem_of_getElem? (i := 0) rfl)) (mw (.instanceMethod yX10_told) (List.mem_of_getElem? (i := 1) rfl)) (mw (.selects RX10 yX10_told yX10_told) (List.mem_of_getElem? (i := 2) rfl)) (mw (.initialized RX10) (List.mem_of_getElem? (i := 3) rfl)) j_Y10_told) rfl rfl rfl (by decide +kernel) ⟨Nat.le_of_ble_eq_true rfl, Nat.le_of_ble_eq_true rfl⟩) (cPV hK hE (pL hP) (dL hD) 7 rfl (at_7 hk7) ⟨⟨en_.1.1, en_.1.2⟩, hk7, hp_ _ _ (Nat.le_refl _) (Nat.le_refl _)⟩) rfl rfl hl.1 rfl (lv_room (Nat.le_of_ble_eq_true rfl)) dL_law_736 ⟨by show S.1 + CM + (S2.1 - S.1) ≤ 600000; have := en_.1.1; omega, by show S.2.1 + SM + (S2.2.1 - S.2.1) ≤ 7302249; have := en_.1.2; omega⟩) hP hD hS hA (fun r u H locs hv hP hD hS => ?_)
  obtain ⟨S3, ad1⟩ := u
  obtain ⟨hv, -, ha⟩ := hv
  have hv : (r, S3) = (v_, S2) := hv.trans ef
  obtain ⟨rfl, rfl⟩ := Prod.mk.inj hv
  have ha82 : ad1 82 = ad 82 := ha 82 hk7.1
  have hP : va_P G vwCl (wsC K ad1 S3 ++ mW K m0 gm h1 g1 h2 g2 M) H := hP
  have hD : va_D (fun q : Nat => s.heap.size ≤ q) (wsC K ad1 S3 ++ mW K m0 gm h1 g1 h2 g2 M) := hD
  rw [← ha82] at hl
  refine cCells (cells' := S3.1 + CM) (slots' := S3.2.1 + SM) (by have := en_.1.1; omega) (by have := en_.1.2; omega) ?_
  refine lv_pop hx hb dL_law_739 rfl ?_
  refine lv_aload_n hx hb dL_law_740 rfl (lv_at hl 1 rfl) ?_
  obtain ⟨hpm, hMI2⟩ := m_told hMI
  have bd3_ := ki_bd hKI2
  refine lGoR (w1 := fun u : MS => mW K m0 gm h1 g1 h2 g2 u) (wa := wsC K ad1 S3) (wc := mW K m0 gm h1 g1 h2 g2 M) (va_runV (As := []) (rest := []) ⟨hx, hb, hml, hown, hts⟩ (c_X12_told l G K m0 gm h1 g1 h2 g2 M _) (cwV 0 hts (wGV t_ (mw (.methodLink RL 104 yX12_told) (List.mem_of_getElem? (i := 4) rfl)) (mw (.instanceMethod yX12_told) (List.mem_of_getElem? (i := 5) rfl)) (mw (.selects RX12 yX12_told yX12_told) (List.mem_of_getElem? (i := 6) rfl)) (mw (.initialized RX12) (List.mem_of_getElem? (i := 7) rfl)) j_X12_told) rfl rfl rfl (by decide +kernel) ⟨Nat.le_of_ble_eq_true rfl, Nat.le_of_ble_eq_true rfl⟩) (mPVm hK hE (pR hP) (dR hD) hpm) rfl rfl hl.1 rfl (lv_room (Nat.le_of_ble_eq_true rfl)) dL_law_741 ⟨by show S3.1 + CM + 0 ≤ 600000; omega, by show S3.2.1 + SM + 0 ≤ 7302249; omega⟩) hP hD hS hA (fun r2 u2 H locs hv2 hP hD hS => ?_)
  have eu2 : u2 = (f_X12_told M).2 := congrArg Prod.snd hv2
  have er2 : r2 = (f_X12_told M).1 := congrArg Prod.fst hv2
  rw [← eu2] at hMI2
  refine lv_pop hx hb dL_law_744 rfl ?_
  refine lv_goto (tgt := 1267) hx hb dL_law_745 (by decide) ?_
  have hRL2 : RQ S3 u2 := by
    rw [eu2]
    exact rl_told hRL hKI hMI ef
  exact next S3 ad1 u2 H locs ls hRL2 hKI2 hMI2 hP hD hS (lv_sub hl [0, 1, 2, 3] rfl)
def e_law_22 : List Cond := [.methodLink RL 105 yX10_adjourn, .instanceMethod yX10_adjourn, .selects RX10 yX10_adjourn yX10_adjourn, .initialized RX10, .methodLink RL 108 yX12_adjourn, .instanceMethod yX12_adjourn, .selects RX12 yX12_adjourn yX12_adjourn, .initialized RX12]
def v_law_22 : List Cond := (e_law_22 ++ (v_Y10_adjourn ++ (v_X12_adjourn ++ [])))
theorem te_law_22 : GoodIn lw_tbl e_law_22 := wGc zc1030 (wGc zc1029 (wGc zc1028 (wGc zc759 (wGc zc1027 (wGc zc1026 (wGc zc1025 (wGc zc886 (wG0))))))))
theorem t_law_22 : GoodIn lw_tbl v_law_22 := wGa te_law_22 (wGa t_Y10_adjourn (wGa t_X12_adjourn (wG0)))
set_option maxHeartbeats 4000000 in
set_option maxRecDepth 100000 in
theorem law_22 {p : Program} {l : Launch} {e : Env} {s : State} {m : MethodId} {below : List Frame} {meth : Method} {c : Code} {b L : Nat} {xs : Nat → Int32} (C0 : lw_At p s m meth c b L xs) {G : va_G} {K : Nat → ClassId} (hK : va_K G vwCl (wTY K) s) (hE : wE s) {nt : Nat} (hN : zst nt (fun q : Nat => s.heap.size ≤ q) s s.heap) {m0 h1 h2 : Nat} {gm g1 g2 : Nat → Nat} {CM SM : Nat} (hCM : CM ≤ 10000) (hSM : SM ≤ 1000000) {i : Int32} (hin : ∀ j : Int32, 0 ≤ j.toInt → j.toInt ≤ 6 → vp_in (i + j) L) (next : lInv p l e s m below meth c b G K m0 gm h1 g1 h2 g2 CM SM 1267 i) : lInv p l e s m below meth c b G K m0 gm h1 g1 h2 g2 CM SM 748 i := by
  obtain ⟨hx, hb, hr, hml, hown, hts, hX, hbl, hlocks, hgv⟩ := id C0
  have hA : ∀ q : Nat, s.heap.size ≤ q → (fun q : Nat => s.heap.size ≤ q) q := fun _ h => h
  have hbA : ¬ (fun q : Nat => s.heap.size ≤ q) b := Nat.not_le.mpr hbl
  have t_ := t_law_22
  have hts := fun w (h : w ∈ v_law_22) => hts w (t_ w h).1
  have mw : ∀ w ∈ e_law_22, w ∈ v_law_22 := fun w h => List.mem_append_left _ h
  have j_Y10_adjourn : ∀ w ∈ v_Y10_adjourn, w ∈ v_law_22 := fun w h => List.mem_append_right _ (List.mem_append_left _ h)
  have j_X12_adjourn : ∀ w ∈ v_X12_adjourn, w ∈ v_law_22 := fun w h => List.mem_append_right _ (List.mem_append_right _ (List.mem_append_left _ h))
  intro S ad M H locs ls hRL hKI hMI hP hD hS hl
  have hk7 := ki7 hKI
  refine lv_aload_n hx hb dL_law_748 rfl (lv_at hl 2 rfl) ?_
  obtain ⟨v_, S2, ef, hp_, hKI2, en_⟩ := k_adjourn hKI
  have bd_ := ki_bd hKI2
  refine lGoL (w1 := fun u : Cst × (Nat → Nat) => wsC K u.2 u.1) (wc := wsC K ad S) (wr := mW K m0 gm h1 g1 h2 g2 M) (va_runV (As := []) (rest := []) ⟨hx, hb, hml, hown, hts⟩ (c_Y10_adjourn l G K ad S 82 S2.1 S2.2.1 _) (cwV 0 hts (wGV t_ (mw (.methodLink RL 105 yX10_adjourn) (List.mem_of_getElem? (i := 0) rfl)) (mw (.instanceMethod yX10_adjourn) (List.mem_of_getElem? (i := 1) rfl)) (mw (.selects RX10 yX10_adjourn yX10_adjourn) (List.mem_of_getElem? (i := 2) rfl)) (mw (.initialized RX10) (List.mem_of_getElem? (i := 3) rfl)) j_Y10_adjourn) rfl rfl rfl (by decide +kernel) ⟨Nat.le_of_ble_eq_true rfl, Nat.le_of_ble_eq_true rfl⟩) (cPV hK hE (pL hP) (dL hD) 7 rfl (at_7 hk7) ⟨⟨en_.1.1, en_.1.2⟩, hk7, hp_ _ _ (Nat.le_refl _) (Nat.le_refl _)⟩) rfl rfl hl.1 rfl (lv_room (Nat.le_of_ble_eq_true rfl)) dL_law_749 ⟨by show S.1 + CM + (S2.1 - S.1) ≤ 600000; have := en_.1.1; omega, by show S.2.1 + SM + (S2.2.1 - S.2.1) ≤ 7302249; have := en_.1.2; omega⟩) hP hD hS hA (fun r u H locs hv hP hD hS => ?_)
  obtain ⟨S3, ad1⟩ := u
  obtain ⟨hv, -, ha⟩ := hv
  have hv : (r, S3) = (v_, S2) := hv.trans ef
  obtain ⟨rfl, rfl⟩ := Prod.mk.inj hv
  have ha82 : ad1 82 = ad 82 := ha 82 hk7.1
  have hP : va_P G vwCl (wsC K ad1 S3 ++ mW K m0 gm h1 g1 h2 g2 M) H := hP
  have hD : va_D (fun q : Nat => s.heap.size ≤ q) (wsC K ad1 S3 ++ mW K m0 gm h1 g1 h2 g2 M) := hD
  rw [← ha82] at hl
  refine cCells (cells' := S3.1 + CM) (slots' := S3.2.1 + SM) (by have := en_.1.1; omega) (by have := en_.1.2; omega) ?_
  refine lv_pop hx hb dL_law_752 rfl ?_
  refine lv_aload_n hx hb dL_law_753 rfl (lv_at hl 1 rfl) ?_
  obtain ⟨hpm, hMI2⟩ := m_adjourn hMI
  have bd3_ := ki_bd hKI2
  refine lGoR (w1 := fun u : MS => mW K m0 gm h1 g1 h2 g2 u) (wa := wsC K ad1 S3) (wc := mW K m0 gm h1 g1 h2 g2 M) (va_runV (As := []) (rest := []) ⟨hx, hb, hml, hown, hts⟩ (c_X12_adjourn l G K m0 gm h1 g1 h2 g2 M _) (cwV 0 hts (wGV t_ (mw (.methodLink RL 108 yX12_adjourn) (List.mem_of_getElem? (i := 4) rfl)) (mw (.instanceMethod yX12_adjourn) (List.mem_of_getElem? (i := 5) rfl)) (mw (.selects RX12 yX12_adjourn yX12_adjourn) (List.mem_of_getElem? (i := 6) rfl)) (mw (.initialized RX12) (List.mem_of_getElem? (i := 7) rfl)) j_X12_adjourn) rfl rfl rfl (by decide +kernel) ⟨Nat.le_of_ble_eq_true rfl, Nat.le_of_ble_eq_true rfl⟩) (mPVm hK hE (pR hP) (dR hD) hpm) rfl rfl hl.1 rfl (lv_room (Nat.le_of_ble_eq_true rfl)) dL_law_754 ⟨by show S3.1 + CM + 0 ≤ 600000; omega, by show S3.2.1 + SM + 0 ≤ 7302249; omega⟩) hP hD hS hA (fun r2 u2 H locs hv2 hP hD hS => ?_)
  have eu2 : u2 = (f_X12_adjourn M).2 := congrArg Prod.snd hv2
  have er2 : r2 = (f_X12_adjourn M).1 := congrArg Prod.fst hv2
  rw [← eu2] at hMI2
  refine lv_pop hx hb dL_law_757 rfl ?_
  refine lv_goto (tgt := 1267) hx hb dL_law_758 (by decide) ?_
  have hRL2 : RQ S3 u2 := by
    rw [eu2]
    exact rl_adjourn hRL hKI hMI ef
  exact next S3 ad1 u2 H locs ls hRL2 hKI2 hMI2 hP hD hS (lv_sub hl [0, 1, 2, 3] rfl)
def e_law_23 : List Cond := [.methodLink RL 109 yX10_order, .instanceMethod yX10_order, .selects RX10 yX10_order yX10_order, .initialized RX10, .methodLink RL 112 yX12_order, .instanceMethod yX12_order, .selects RX12 yX12_order yX12_order, .initialized RX12]
def v_law_23 : List Cond := (e_law_23 ++ (v_Y10_order ++ (v_X12_order ++ [])))
theorem te_law_23 : GoodIn lw_tbl e_law_23 := wGc zc1036 (wGc zc1035 (wGc zc1034 (wGc zc759 (wGc zc1033 (wGc zc1032 (wGc zc1031 (wGc zc886 (wG0))))))))
theorem t_law_23 : GoodIn lw_tbl v_law_23 := wGa te_law_23 (wGa t_Y10_order (wGa t_X12_order (wG0)))
set_option maxHeartbeats 4000000 in
set_option maxRecDepth 100000 in
theorem law_23 {p : Program} {l : Launch} {e : Env} {s : State} {m : MethodId} {below : List Frame} {meth : Method} {c : Code} {b L : Nat} {xs : Nat → Int32} (C0 : lw_At p s m meth c b L xs) {G : va_G} {K : Nat → ClassId} (hK : va_K G vwCl (wTY K) s) (hE : wE s) {nt : Nat} (hN : zst nt (fun q : Nat => s.heap.size ≤ q) s s.heap) {m0 h1 h2 : Nat} {gm g1 g2 : Nat → Nat} {CM SM : Nat} (hCM : CM ≤ 10000) (hSM : SM ≤ 1000000) {i : Int32} (hin : ∀ j : Int32, 0 ≤ j.toInt → j.toInt ≤ 6 → vp_in (i + j) L) (next : lInv p l e s m below meth c b G K m0 gm h1 g1 h2 g2 CM SM 1267 i) : lInv p l e s m below meth c b G K m0 gm h1 g1 h2 g2 CM SM 761 i := by
  obtain ⟨hx, hb, hr, hml, hown, hts, hX, hbl, hlocks, hgv⟩ := id C0
  have hA : ∀ q : Nat, s.heap.size ≤ q → (fun q : Nat => s.heap.size ≤ q) q := fun _ h => h
  have hbA : ¬ (fun q : Nat => s.heap.size ≤ q) b := Nat.not_le.mpr hbl
  have t_ := t_law_23
  have hts := fun w (h : w ∈ v_law_23) => hts w (t_ w h).1
  have mw : ∀ w ∈ e_law_23, w ∈ v_law_23 := fun w h => List.mem_append_left _ h
  have j_Y10_order : ∀ w ∈ v_Y10_order, w ∈ v_law_23 := fun w h => List.mem_append_right _ (List.mem_append_left _ h)
  have j_X12_order : ∀ w ∈ v_X12_order, w ∈ v_law_23 := fun w h => List.mem_append_right _ (List.mem_append_right _ (List.mem_append_left _ h))
  intro S ad M H locs ls hRL hKI hMI hP hD hS hl
  have hk7 := ki7 hKI
  refine lv_aload_n hx hb dL_law_761 rfl (lv_at hl 2 rfl) ?_
  refine lv_aload_n hx hb dL_law_762 rfl (lv_at hl 3 rfl) ?_
  refine lv_iload_n hx hb dL_law_763 rfl (lv_at hl 0 rfl) ?_
  refine lv_iconst (v := 1) hx hb dL_law_764 (by decide) ?_
  refine lv_iadd hx hb dL_law_765 ?_
  refine va_sld hx hb hX hbl hbA hS (hin 1 (by decide) (by decide)) dL_law_766 ?_
  obtain ⟨a1, e_1⟩ : ∃ y : Int32, xs (i + 1).toNatClampNeg = y := ⟨_, rfl⟩
  refine wTop (v1 := .int a1) (congrArg Value.int e_1) ?_
  obtain ⟨v_, S2, ef, hp_, hKI2, en_⟩ := k_order hKI a1
  have bd0_ := ki_bd hKI
  refine lGoL (w1 := fun u : Cst => wsC K ad u) (wc := wsC K ad S) (wr := mW K m0 gm h1 g1 h2 g2 M) (va_runV (As := [.int a1]) (rest := []) ⟨hx, hb, hml, hown, hts⟩ (c_Y10_order l G K ad S 82 a1 _) (cwV 1 hts (wGV t_ (mw (.methodLink RL 109 yX10_order) (List.mem_of_getElem? (i := 0) rfl)) (mw (.instanceMethod yX10_order) (List.mem_of_getElem? (i := 1) rfl)) (mw (.selects RX10 yX10_order yX10_order) (List.mem_of_getElem? (i := 2) rfl)) (mw (.initialized RX10) (List.mem_of_getElem? (i := 3) rfl)) j_Y10_order) rfl rfl rfl (by decide +kernel) ⟨Nat.le_of_ble_eq_true rfl, Nat.le_of_ble_eq_true rfl⟩) (cPV hK hE (pL hP) (dL hD) 7 rfl (at_7 hk7) ⟨hk7, hp_ _ _ (Nat.le_refl _) (Nat.le_refl _)⟩) rfl rfl hl.1 rfl (lv_room (Nat.le_of_ble_eq_true rfl)) dL_law_767 ⟨by show S.1 + CM + 0 ≤ 600000; omega, by show S.2.1 + SM + 0 ≤ 7302249; omega⟩) hP hD hS hA (fun r u H locs hv hP hD hS => ?_)
  obtain ⟨hv, ek_⟩ := hv
  have hv : (r, u) = (v_, S2) := hv.trans ef
  obtain ⟨rfl, rfl⟩ := Prod.mk.inj hv
  refine cCells (cells' := u.1 + CM) (slots' := u.2.1 + SM) (by have := ek_.1.1; omega) (by have := ek_.1.2; omega) ?_
  refine lv_aload_n hx hb dL_law_770 rfl (lv_at hl 1 rfl) ?_
  refine lv_aload_n hx hb dL_law_771 rfl (lv_at hl 3 rfl) ?_
  refine lv_iload_n hx hb dL_law_772 rfl (lv_at hl 0 rfl) ?_
  refine lv_iconst (v := 1) hx hb dL_law_773 (by decide) ?_
  refine lv_iadd hx hb dL_law_774 ?_
  refine va_sld hx hb hX hbl hbA hS (hin 1 (by decide) (by decide)) dL_law_775 ?_
  refine wTop (v1 := .int a1) (congrArg Value.int e_1) ?_
  obtain ⟨hpm, hMI2⟩ := m_order hMI a1
  have bd3_ := ki_bd hKI2
  refine lGoR (w1 := fun u : MS => mW K m0 gm h1 g1 h2 g2 u) (wa := wsC K ad u) (wc := mW K m0 gm h1 g1 h2 g2 M) (va_runV (As := [.int a1]) (rest := [.int r]) ⟨hx, hb, hml, hown, hts⟩ (c_X12_order l G K m0 gm h1 g1 h2 g2 M a1 _) (cwV 1 hts (wGV t_ (mw (.methodLink RL 112 yX12_order) (List.mem_of_getElem? (i := 4) rfl)) (mw (.instanceMethod yX12_order) (List.mem_of_getElem? (i := 5) rfl)) (mw (.selects RX12 yX12_order yX12_order) (List.mem_of_getElem? (i := 6) rfl)) (mw (.initialized RX12) (List.mem_of_getElem? (i := 7) rfl)) j_X12_order) rfl rfl rfl (by decide +kernel) ⟨Nat.le_of_ble_eq_true rfl, Nat.le_of_ble_eq_true rfl⟩) (mPVm hK hE (pR hP) (dR hD) hpm) rfl rfl hl.1 rfl (lv_room (Nat.le_of_ble_eq_true rfl)) dL_law_776 ⟨by show u.1 + CM + 0 ≤ 600000; omega, by show u.2.1 + SM + 0 ≤ 7302249; omega⟩) hP hD hS hA (fun r2 u2 H locs hv2 hP hD hS => ?_)
  have eu2 : u2 = (f_X12_order M a1).2 := congrArg Prod.snd hv2
  have er2 : r2 = (f_X12_order M a1).1 := congrArg Prod.fst hv2
  rw [← eu2] at hMI2
  refine lv_icmp_eq (tgt := 1267) hx hb dL_law_779 (by decide) (fun _ => ?_) (fun c_ => absurd ((eq_order hRL hKI hMI a1 ef).trans er2.symm) c_)
  have hRL2 : RQ u u2 := by
    rw [eu2]
    exact rl_order hRL hKI hMI a1 ef
  exact next u ad u2 H locs ls hRL2 hKI2 hMI2 hP hD hS (lv_sub hl [0, 1, 2, 3] rfl)
def e_law_24 : List Cond := [.methodLink RL 113 yX10_why, .instanceMethod yX10_why, .selects RX10 yX10_why yX10_why, .initialized RX10, .methodLink RL 116 yX12_why, .instanceMethod yX12_why, .selects RX12 yX12_why yX12_why, .initialized RX12]
def v_law_24 : List Cond := (e_law_24 ++ (v_Y10_why ++ (v_X12_why ++ [])))
theorem te_law_24 : GoodIn lw_tbl e_law_24 := wGc zc1042 (wGc zc1041 (wGc zc1040 (wGc zc759 (wGc zc1039 (wGc zc1038 (wGc zc1037 (wGc zc886 (wG0))))))))
theorem t_law_24 : GoodIn lw_tbl v_law_24 := wGa te_law_24 (wGa t_Y10_why (wGa t_X12_why (wG0)))
set_option maxHeartbeats 4000000 in
set_option maxRecDepth 100000 in
theorem law_24 {p : Program} {l : Launch} {e : Env} {s : State} {m : MethodId} {below : List Frame} {meth : Method} {c : Code} {b L : Nat} {xs : Nat → Int32} (C0 : lw_At p s m meth c b L xs) {G : va_G} {K : Nat → ClassId} (hK : va_K G vwCl (wTY K) s) (hE : wE s) {nt : Nat} (hN : zst nt (fun q : Nat => s.heap.size ≤ q) s s.heap) {m0 h1 h2 : Nat} {gm g1 g2 : Nat → Nat} {CM SM : Nat} (hCM : CM ≤ 10000) (hSM : SM ≤ 1000000) {i : Int32} (hin : ∀ j : Int32, 0 ≤ j.toInt → j.toInt ≤ 6 → vp_in (i + j) L) (next : lInv p l e s m below meth c b G K m0 gm h1 g1 h2 g2 CM SM 1267 i) : lInv p l e s m below meth c b G K m0 gm h1 g1 h2 g2 CM SM 784 i := by
  obtain ⟨hx, hb, hr, hml, hown, hts, hX, hbl, hlocks, hgv⟩ := id C0
  have hA : ∀ q : Nat, s.heap.size ≤ q → (fun q : Nat => s.heap.size ≤ q) q := fun _ h => h
  have hbA : ¬ (fun q : Nat => s.heap.size ≤ q) b := Nat.not_le.mpr hbl
  have t_ := t_law_24
  have hts := fun w (h : w ∈ v_law_24) => hts w (t_ w h).1
  have mw : ∀ w ∈ e_law_24, w ∈ v_law_24 := fun w h => List.mem_append_left _ h
  have j_Y10_why : ∀ w ∈ v_Y10_why, w ∈ v_law_24 := fun w h => List.mem_append_right _ (List.mem_append_left _ h)
  have j_X12_why : ∀ w ∈ v_X12_why, w ∈ v_law_24 := fun w h => List.mem_append_right _ (List.mem_append_right _ (List.mem_append_left _ h))
  intro S ad M H locs ls hRL hKI hMI hP hD hS hl
  have hk7 := ki7 hKI
  refine lv_aload_n hx hb dL_law_784 rfl (lv_at hl 2 rfl) ?_
  have bd0_ := ki_bd hKI
  have wf_ := ki_wf hKI
  refine lGoL (w1 := fun u : Cst => wsC K ad u) (wc := wsC K ad S) (wr := mW K m0 gm h1 g1 h2 g2 M) (va_runV (As := []) (rest := []) ⟨hx, hb, hml, hown, hts⟩ (c_Y10_why l G K ad S 82 _) (cwV 0 hts (wGV t_ (mw (.methodLink RL 113 yX10_why) (List.mem_of_getElem? (i := 0) rfl)) (mw (.instanceMethod yX10_why) (List.mem_of_getElem? (i := 1) rfl)) (mw (.selects RX10 yX10_why yX10_why) (List.mem_of_getElem? (i := 2) rfl)) (mw (.initialized RX10) (List.mem_of_getElem? (i := 3) rfl)) j_Y10_why) rfl rfl rfl (by decide +kernel) ⟨Nat.le_of_ble_eq_true rfl, Nat.le_of_ble_eq_true rfl⟩) (cPV hK hE (pL hP) (dL hD) 7 rfl (at_7 hk7) ⟨hk7, kp_why wf_ hk7⟩) rfl rfl hl.1 rfl (lv_room (Nat.le_of_ble_eq_true rfl)) dL_law_785 ⟨by show S.1 + CM + 0 ≤ 600000; omega, by show S.2.1 + SM + 0 ≤ 7302249; omega⟩) hP hD hS hA (fun r u H locs hv hP hD hS => ?_)
  obtain ⟨ef, eu_⟩ := Prod.mk.inj hv
  rw [eu_] at hP hD
  refine cCells (cells' := S.1 + CM) (slots' := S.2.1 + SM) rfl rfl ?_
  have hKI2 := hKI
  refine lv_pop hx hb dL_law_788 rfl ?_
  refine lv_aload_n hx hb dL_law_789 rfl (lv_at hl 1 rfl) ?_
  obtain ⟨hpm, hMI2⟩ := m_why hMI
  have bd3_ := ki_bd hKI2
  refine lGoR (w1 := fun u : MS => mW K m0 gm h1 g1 h2 g2 u) (wa := wsC K ad S) (wc := mW K m0 gm h1 g1 h2 g2 M) (va_runV (As := []) (rest := []) ⟨hx, hb, hml, hown, hts⟩ (c_X12_why l G K m0 gm h1 g1 h2 g2 M _) (cwV 0 hts (wGV t_ (mw (.methodLink RL 116 yX12_why) (List.mem_of_getElem? (i := 4) rfl)) (mw (.instanceMethod yX12_why) (List.mem_of_getElem? (i := 5) rfl)) (mw (.selects RX12 yX12_why yX12_why) (List.mem_of_getElem? (i := 6) rfl)) (mw (.initialized RX12) (List.mem_of_getElem? (i := 7) rfl)) j_X12_why) rfl rfl rfl (by decide +kernel) ⟨Nat.le_of_ble_eq_true rfl, Nat.le_of_ble_eq_true rfl⟩) (mPVm hK hE (pR hP) (dR hD) hpm) rfl rfl hl.1 rfl (lv_room (Nat.le_of_ble_eq_true rfl)) dL_law_790 ⟨by show S.1 + CM + 0 ≤ 600000; omega, by show S.2.1 + SM + 0 ≤ 7302249; omega⟩) hP hD hS hA (fun r2 u2 H locs hv2 hP hD hS => ?_)
  have eu2 : u2 = (f_X12_why M).2 := congrArg Prod.snd hv2
  have er2 : r2 = (f_X12_why M).1 := congrArg Prod.fst hv2
  rw [← eu2] at hMI2
  refine lv_pop hx hb dL_law_793 rfl ?_
  refine lv_goto (tgt := 1267) hx hb dL_law_794 (by decide) ?_
  have hRL2 : RQ S u2 := by
    rw [eu2]
    exact rl_why hRL hKI hMI
  exact next S ad u2 H locs ls hRL2 hKI2 hMI2 hP hD hS (lv_sub hl [0, 1, 2, 3] rfl)
def e_law_25 : List Cond := [.methodLink RL 117 yX10_pending, .instanceMethod yX10_pending, .selects RX10 yX10_pending yX10_pending, .initialized RX10, .methodLink RL 120 yX12_pending, .instanceMethod yX12_pending, .selects RX12 yX12_pending yX12_pending, .initialized RX12]
def v_law_25 : List Cond := (e_law_25 ++ (v_Y10_pending ++ (v_X12_pending ++ [])))
theorem te_law_25 : GoodIn lw_tbl e_law_25 := wGc zc1048 (wGc zc1047 (wGc zc1046 (wGc zc759 (wGc zc1045 (wGc zc1044 (wGc zc1043 (wGc zc886 (wG0))))))))
theorem t_law_25 : GoodIn lw_tbl v_law_25 := wGa te_law_25 (wGa t_Y10_pending (wGa t_X12_pending (wG0)))
set_option maxHeartbeats 4000000 in
set_option maxRecDepth 100000 in
theorem law_25 {p : Program} {l : Launch} {e : Env} {s : State} {m : MethodId} {below : List Frame} {meth : Method} {c : Code} {b L : Nat} {xs : Nat → Int32} (C0 : lw_At p s m meth c b L xs) {G : va_G} {K : Nat → ClassId} (hK : va_K G vwCl (wTY K) s) (hE : wE s) {nt : Nat} (hN : zst nt (fun q : Nat => s.heap.size ≤ q) s s.heap) {m0 h1 h2 : Nat} {gm g1 g2 : Nat → Nat} {CM SM : Nat} (hCM : CM ≤ 10000) (hSM : SM ≤ 1000000) {i : Int32} (hin : ∀ j : Int32, 0 ≤ j.toInt → j.toInt ≤ 6 → vp_in (i + j) L) (next : lInv p l e s m below meth c b G K m0 gm h1 g1 h2 g2 CM SM 1267 i) : lInv p l e s m below meth c b G K m0 gm h1 g1 h2 g2 CM SM 797 i := by
  obtain ⟨hx, hb, hr, hml, hown, hts, hX, hbl, hlocks, hgv⟩ := id C0
  have hA : ∀ q : Nat, s.heap.size ≤ q → (fun q : Nat => s.heap.size ≤ q) q := fun _ h => h
  have hbA : ¬ (fun q : Nat => s.heap.size ≤ q) b := Nat.not_le.mpr hbl
  have t_ := t_law_25
  have hts := fun w (h : w ∈ v_law_25) => hts w (t_ w h).1
  have mw : ∀ w ∈ e_law_25, w ∈ v_law_25 := fun w h => List.mem_append_left _ h
  have j_Y10_pending : ∀ w ∈ v_Y10_pending, w ∈ v_law_25 := fun w h => List.mem_append_right _ (List.mem_append_left _ h)
  have j_X12_pending : ∀ w ∈ v_X12_pending, w ∈ v_law_25 := fun w h => List.mem_append_right _ (List.mem_append_right _ (List.mem_append_left _ h))
  intro S ad M H locs ls hRL hKI hMI hP hD hS hl
  have hk7 := ki7 hKI
  refine lv_aload_n hx hb dL_law_797 rfl (lv_at hl 2 rfl) ?_
  refine lv_aload_n hx hb dL_law_798 rfl (lv_at hl 3 rfl) ?_
  refine lv_iload_n hx hb dL_law_799 rfl (lv_at hl 0 rfl) ?_
  refine lv_iconst (v := 1) hx hb dL_law_800 (by decide) ?_
  refine lv_iadd hx hb dL_law_801 ?_
  refine va_sld hx hb hX hbl hbA hS (hin 1 (by decide) (by decide)) dL_law_802 ?_
  obtain ⟨a1, e_1⟩ : ∃ y : Int32, xs (i + 1).toNatClampNeg = y := ⟨_, rfl⟩
  refine wTop (v1 := .int a1) (congrArg Value.int e_1) ?_
  refine lv_aload_n hx hb dL_law_803 rfl (lv_at hl 3 rfl) ?_
  refine lv_iload_n hx hb dL_law_804 rfl (lv_at hl 0 rfl) ?_
  refine lv_iconst (v := 2) hx hb dL_law_805 (by decide) ?_
  refine lv_iadd hx hb dL_law_806 ?_
  refine va_sld hx hb hX hbl hbA hS (hin 2 (by decide) (by decide)) dL_law_807 ?_
  obtain ⟨a2, e_2⟩ : ∃ y : Int32, xs (i + 2).toNatClampNeg = y := ⟨_, rfl⟩
  refine wTop (v1 := .int a2) (congrArg Value.int e_2) ?_
  have bd0_ := ki_bd hKI
  have wf_ := ki_wf hKI
  refine lGoL (w1 := fun u : Cst => wsC K ad u) (wc := wsC K ad S) (wr := mW K m0 gm h1 g1 h2 g2 M) (va_runV (As := [.int a1, .int a2]) (rest := []) ⟨hx, hb, hml, hown, hts⟩ (c_Y10_pending l G K ad S 82 a1 a2 _) (cwV 2 hts (wGV t_ (mw (.methodLink RL 117 yX10_pending) (List.mem_of_getElem? (i := 0) rfl)) (mw (.instanceMethod yX10_pending) (List.mem_of_getElem? (i := 1) rfl)) (mw (.selects RX10 yX10_pending yX10_pending) (List.mem_of_getElem? (i := 2) rfl)) (mw (.initialized RX10) (List.mem_of_getElem? (i := 3) rfl)) j_Y10_pending) rfl rfl rfl (by decide +kernel) ⟨Nat.le_of_ble_eq_true rfl, Nat.le_of_ble_eq_true rfl⟩) (cPV hK hE (pL hP) (dL hD) 7 rfl (at_7 hk7) ⟨hk7, kp_pending wf_ hk7 a1 a2⟩) rfl rfl hl.1 rfl (lv_room (Nat.le_of_ble_eq_true rfl)) dL_law_808 ⟨by show S.1 + CM + 0 ≤ 600000; omega, by show S.2.1 + SM + 0 ≤ 7302249; omega⟩) hP hD hS hA (fun r u H locs hv hP hD hS => ?_)
  obtain ⟨ef, eu_⟩ := Prod.mk.inj hv
  rw [eu_] at hP hD
  refine cCells (cells' := S.1 + CM) (slots' := S.2.1 + SM) rfl rfl ?_
  have hKI2 := hKI
  refine lv_pop hx hb dL_law_811 rfl ?_
  refine lv_aload_n hx hb dL_law_812 rfl (lv_at hl 1 rfl) ?_
  refine lv_aload_n hx hb dL_law_813 rfl (lv_at hl 3 rfl) ?_
  refine lv_iload_n hx hb dL_law_814 rfl (lv_at hl 0 rfl) ?_
  refine lv_iconst (v := 1) hx hb dL_law_815 (by decide) ?_
  refine lv_iadd hx hb dL_law_816 ?_
  refine va_sld hx hb hX hbl hbA hS (hin 1 (by decide) (by decide)) dL_law_817 ?_
  refine wTop (v1 := .int a1) (congrArg Value.int e_1) ?_
  refine lv_aload_n hx hb dL_law_818 rfl (lv_at hl 3 rfl) ?_
  refine lv_iload_n hx hb dL_law_819 rfl (lv_at hl 0 rfl) ?_
  refine lv_iconst (v := 2) hx hb dL_law_820 (by decide) ?_
  refine lv_iadd hx hb dL_law_821 ?_
  refine va_sld hx hb hX hbl hbA hS (hin 2 (by decide) (by decide)) dL_law_822 ?_
  refine wTop (v1 := .int a2) (congrArg Value.int e_2) ?_
  obtain ⟨hpm, hMI2⟩ := m_pending hMI a1 a2
  have bd3_ := ki_bd hKI2
  refine lGoR (w1 := fun u : MS => mW K m0 gm h1 g1 h2 g2 u) (wa := wsC K ad S) (wc := mW K m0 gm h1 g1 h2 g2 M) (va_runV (As := [.int a1, .int a2]) (rest := []) ⟨hx, hb, hml, hown, hts⟩ (c_X12_pending l G K m0 gm h1 g1 h2 g2 M a1 a2 _) (cwV 2 hts (wGV t_ (mw (.methodLink RL 120 yX12_pending) (List.mem_of_getElem? (i := 4) rfl)) (mw (.instanceMethod yX12_pending) (List.mem_of_getElem? (i := 5) rfl)) (mw (.selects RX12 yX12_pending yX12_pending) (List.mem_of_getElem? (i := 6) rfl)) (mw (.initialized RX12) (List.mem_of_getElem? (i := 7) rfl)) j_X12_pending) rfl rfl rfl (by decide +kernel) ⟨Nat.le_of_ble_eq_true rfl, Nat.le_of_ble_eq_true rfl⟩) (mPVm hK hE (pR hP) (dR hD) hpm) rfl rfl hl.1 rfl (lv_room (Nat.le_of_ble_eq_true rfl)) dL_law_823 ⟨by show S.1 + CM + 0 ≤ 600000; omega, by show S.2.1 + SM + 0 ≤ 7302249; omega⟩) hP hD hS hA (fun r2 u2 H locs hv2 hP hD hS => ?_)
  have eu2 : u2 = (f_X12_pending M a1 a2).2 := congrArg Prod.snd hv2
  have er2 : r2 = (f_X12_pending M a1 a2).1 := congrArg Prod.fst hv2
  rw [← eu2] at hMI2
  refine lv_pop hx hb dL_law_826 rfl ?_
  refine lv_goto (tgt := 1267) hx hb dL_law_827 (by decide) ?_
  have hRL2 : RQ S u2 := by
    rw [eu2]
    exact rl_pending hRL hKI hMI a1 a2
  exact next S ad u2 H locs ls hRL2 hKI2 hMI2 hP hD hS (lv_sub hl [0, 1, 2, 3] rfl)
def e_law_26 : List Cond := [.methodLink RL 121 yX10_text, .instanceMethod yX10_text, .selects RX10 yX10_text yX10_text, .initialized RX10, .methodLink RL 124 yX12_text, .instanceMethod yX12_text, .selects RX12 yX12_text yX12_text, .initialized RX12]
def v_law_26 : List Cond := (e_law_26 ++ (v_Y10_text ++ (v_X12_text ++ [])))
theorem te_law_26 : GoodIn lw_tbl e_law_26 := wGc zc1054 (wGc zc1053 (wGc zc1052 (wGc zc759 (wGc zc1051 (wGc zc1050 (wGc zc1049 (wGc zc886 (wG0))))))))
theorem t_law_26 : GoodIn lw_tbl v_law_26 := wGa te_law_26 (wGa t_Y10_text (wGa t_X12_text (wG0)))
set_option maxHeartbeats 4000000 in
set_option maxRecDepth 100000 in
theorem law_26 {p : Program} {l : Launch} {e : Env} {s : State} {m : MethodId} {below : List Frame} {meth : Method} {c : Code} {b L : Nat} {xs : Nat → Int32} (C0 : lw_At p s m meth c b L xs) {G : va_G} {K : Nat → ClassId} (hK : va_K G vwCl (wTY K) s) (hE : wE s) {nt : Nat} (hN : zst nt (fun q : Nat => s.heap.size ≤ q) s s.heap) {m0 h1 h2 : Nat} {gm g1 g2 : Nat → Nat} {CM SM : Nat} (hCM : CM ≤ 10000) (hSM : SM ≤ 1000000) {i : Int32} (hin : ∀ j : Int32, 0 ≤ j.toInt → j.toInt ≤ 6 → vp_in (i + j) L) (next : lInv p l e s m below meth c b G K m0 gm h1 g1 h2 g2 CM SM 1267 i) : lInv p l e s m below meth c b G K m0 gm h1 g1 h2 g2 CM SM 830 i := by
  obtain ⟨hx, hb, hr, hml, hown, hts, hX, hbl, hlocks, hgv⟩ := id C0
  have hA : ∀ q : Nat, s.heap.size ≤ q → (fun q : Nat => s.heap.size ≤ q) q := fun _ h => h
  have hbA : ¬ (fun q : Nat => s.heap.size ≤ q) b := Nat.not_le.mpr hbl
  have t_ := t_law_26
  have hts := fun w (h : w ∈ v_law_26) => hts w (t_ w h).1
  have mw : ∀ w ∈ e_law_26, w ∈ v_law_26 := fun w h => List.mem_append_left _ h
  have j_Y10_text : ∀ w ∈ v_Y10_text, w ∈ v_law_26 := fun w h => List.mem_append_right _ (List.mem_append_left _ h)
  have j_X12_text : ∀ w ∈ v_X12_text, w ∈ v_law_26 := fun w h => List.mem_append_right _ (List.mem_append_right _ (List.mem_append_left _ h))
  intro S ad M H locs ls hRL hKI hMI hP hD hS hl
  have hk7 := ki7 hKI
  refine lv_aload_n hx hb dL_law_830 rfl (lv_at hl 2 rfl) ?_
  refine lv_aload_n hx hb dL_law_831 rfl (lv_at hl 3 rfl) ?_
  refine lv_iload_n hx hb dL_law_832 rfl (lv_at hl 0 rfl) ?_
  refine lv_iconst (v := 1) hx hb dL_law_833 (by decide) ?_
  refine lv_iadd hx hb dL_law_834 ?_
  refine va_sld hx hb hX hbl hbA hS (hin 1 (by decide) (by decide)) dL_law_835 ?_
  obtain ⟨a1, e_1⟩ : ∃ y : Int32, xs (i + 1).toNatClampNeg = y := ⟨_, rfl⟩
  refine wTop (v1 := .int a1) (congrArg Value.int e_1) ?_
  refine lv_aload_n hx hb dL_law_836 rfl (lv_at hl 3 rfl) ?_
  refine lv_iload_n hx hb dL_law_837 rfl (lv_at hl 0 rfl) ?_
  refine lv_iconst (v := 2) hx hb dL_law_838 (by decide) ?_
  refine lv_iadd hx hb dL_law_839 ?_
  refine va_sld hx hb hX hbl hbA hS (hin 2 (by decide) (by decide)) dL_law_840 ?_
  obtain ⟨a2, e_2⟩ : ∃ y : Int32, xs (i + 2).toNatClampNeg = y := ⟨_, rfl⟩
  refine wTop (v1 := .int a2) (congrArg Value.int e_2) ?_
  have bd0_ := ki_bd hKI
  have wf_ := ki_wf hKI
  refine lGoL (w1 := fun u : Cst => wsC K ad u) (wc := wsC K ad S) (wr := mW K m0 gm h1 g1 h2 g2 M) (va_runV (As := [.int a1, .int a2]) (rest := []) ⟨hx, hb, hml, hown, hts⟩ (c_Y10_text l G K ad S 82 a1 a2 _) (cwV 2 hts (wGV t_ (mw (.methodLink RL 121 yX10_text) (List.mem_of_getElem? (i := 0) rfl)) (mw (.instanceMethod yX10_text) (List.mem_of_getElem? (i := 1) rfl)) (mw (.selects RX10 yX10_text yX10_text) (List.mem_of_getElem? (i := 2) rfl)) (mw (.initialized RX10) (List.mem_of_getElem? (i := 3) rfl)) j_Y10_text) rfl rfl rfl (by decide +kernel) ⟨Nat.le_of_ble_eq_true rfl, Nat.le_of_ble_eq_true rfl⟩) (cPV hK hE (pL hP) (dL hD) 7 rfl (at_7 hk7) ⟨hk7, kp_text wf_ hk7 a1 a2⟩) rfl rfl hl.1 rfl (lv_room (Nat.le_of_ble_eq_true rfl)) dL_law_841 ⟨by show S.1 + CM + 0 ≤ 600000; omega, by show S.2.1 + SM + 0 ≤ 7302249; omega⟩) hP hD hS hA (fun r u H locs hv hP hD hS => ?_)
  obtain ⟨ef, eu_⟩ := Prod.mk.inj hv
  rw [eu_] at hP hD
  refine cCells (cells' := S.1 + CM) (slots' := S.2.1 + SM) rfl rfl ?_
  have hKI2 := hKI
  refine lv_pop hx hb dL_law_844 rfl ?_
  refine lv_aload_n hx hb dL_law_845 rfl (lv_at hl 1 rfl) ?_
  refine lv_aload_n hx hb dL_law_846 rfl (lv_at hl 3 rfl) ?_
  refine lv_iload_n hx hb dL_law_847 rfl (lv_at hl 0 rfl) ?_
  refine lv_iconst (v := 1) hx hb dL_law_848 (by decide) ?_
  refine lv_iadd hx hb dL_law_849 ?_
  refine va_sld hx hb hX hbl hbA hS (hin 1 (by decide) (by decide)) dL_law_850 ?_
  refine wTop (v1 := .int a1) (congrArg Value.int e_1) ?_
  refine lv_aload_n hx hb dL_law_851 rfl (lv_at hl 3 rfl) ?_
  refine lv_iload_n hx hb dL_law_852 rfl (lv_at hl 0 rfl) ?_
  refine lv_iconst (v := 2) hx hb dL_law_853 (by decide) ?_
  refine lv_iadd hx hb dL_law_854 ?_
  refine va_sld hx hb hX hbl hbA hS (hin 2 (by decide) (by decide)) dL_law_855 ?_
  refine wTop (v1 := .int a2) (congrArg Value.int e_2) ?_
  obtain ⟨hpm, hMI2⟩ := m_text hMI a1 a2
  have bd3_ := ki_bd hKI2
  refine lGoR (w1 := fun u : MS => mW K m0 gm h1 g1 h2 g2 u) (wa := wsC K ad S) (wc := mW K m0 gm h1 g1 h2 g2 M) (va_runV (As := [.int a1, .int a2]) (rest := []) ⟨hx, hb, hml, hown, hts⟩ (c_X12_text l G K m0 gm h1 g1 h2 g2 M a1 a2 _) (cwV 2 hts (wGV t_ (mw (.methodLink RL 124 yX12_text) (List.mem_of_getElem? (i := 4) rfl)) (mw (.instanceMethod yX12_text) (List.mem_of_getElem? (i := 5) rfl)) (mw (.selects RX12 yX12_text yX12_text) (List.mem_of_getElem? (i := 6) rfl)) (mw (.initialized RX12) (List.mem_of_getElem? (i := 7) rfl)) j_X12_text) rfl rfl rfl (by decide +kernel) ⟨Nat.le_of_ble_eq_true rfl, Nat.le_of_ble_eq_true rfl⟩) (mPVm hK hE (pR hP) (dR hD) hpm) rfl rfl hl.1 rfl (lv_room (Nat.le_of_ble_eq_true rfl)) dL_law_856 ⟨by show S.1 + CM + 0 ≤ 600000; omega, by show S.2.1 + SM + 0 ≤ 7302249; omega⟩) hP hD hS hA (fun r2 u2 H locs hv2 hP hD hS => ?_)
  have eu2 : u2 = (f_X12_text M a1 a2).2 := congrArg Prod.snd hv2
  have er2 : r2 = (f_X12_text M a1 a2).1 := congrArg Prod.fst hv2
  rw [← eu2] at hMI2
  refine lv_pop hx hb dL_law_859 rfl ?_
  refine lv_goto (tgt := 1267) hx hb dL_law_860 (by decide) ?_
  have hRL2 : RQ S u2 := by
    rw [eu2]
    exact rl_text hRL hKI hMI a1 a2
  exact next S ad u2 H locs ls hRL2 hKI2 hMI2 hP hD hS (lv_sub hl [0, 1, 2, 3] rfl)
def e_law_27 : List Cond := [.methodLink RL 125 yX10_ballot, .instanceMethod yX10_ballot, .selects RX10 yX10_ballot yX10_ballot, .initialized RX10, .methodLink RL 128 yX12_ballot, .instanceMethod yX12_ballot, .selects RX12 yX12_ballot yX12_ballot, .initialized RX12]
def v_law_27 : List Cond := (e_law_27 ++ (v_Y10_ballot ++ (v_X12_ballot ++ [])))
theorem te_law_27 : GoodIn lw_tbl e_law_27 := wGc zc1060 (wGc zc1059 (wGc zc1058 (wGc zc759 (wGc zc1057 (wGc zc1056 (wGc zc1055 (wGc zc886 (wG0))))))))
theorem t_law_27 : GoodIn lw_tbl v_law_27 := wGa te_law_27 (wGa t_Y10_ballot (wGa t_X12_ballot (wG0)))
set_option maxHeartbeats 4000000 in
set_option maxRecDepth 100000 in
theorem law_27 {p : Program} {l : Launch} {e : Env} {s : State} {m : MethodId} {below : List Frame} {meth : Method} {c : Code} {b L : Nat} {xs : Nat → Int32} (C0 : lw_At p s m meth c b L xs) {G : va_G} {K : Nat → ClassId} (hK : va_K G vwCl (wTY K) s) (hE : wE s) {nt : Nat} (hN : zst nt (fun q : Nat => s.heap.size ≤ q) s s.heap) {m0 h1 h2 : Nat} {gm g1 g2 : Nat → Nat} {CM SM : Nat} (hCM : CM ≤ 10000) (hSM : SM ≤ 1000000) {i : Int32} (hin : ∀ j : Int32, 0 ≤ j.toInt → j.toInt ≤ 6 → vp_in (i + j) L) (next : lInv p l e s m below meth c b G K m0 gm h1 g1 h2 g2 CM SM 1267 i) : lInv p l e s m below meth c b G K m0 gm h1 g1 h2 g2 CM SM 863 i := by
  obtain ⟨hx, hb, hr, hml, hown, hts, hX, hbl, hlocks, hgv⟩ := id C0
  have hA : ∀ q : Nat, s.heap.size ≤ q → (fun q : Nat => s.heap.size ≤ q) q := fun _ h => h
  have hbA : ¬ (fun q : Nat => s.heap.size ≤ q) b := Nat.not_le.mpr hbl
  have t_ := t_law_27
  have hts := fun w (h : w ∈ v_law_27) => hts w (t_ w h).1
  have mw : ∀ w ∈ e_law_27, w ∈ v_law_27 := fun w h => List.mem_append_left _ h
  have j_Y10_ballot : ∀ w ∈ v_Y10_ballot, w ∈ v_law_27 := fun w h => List.mem_append_right _ (List.mem_append_left _ h)
  have j_X12_ballot : ∀ w ∈ v_X12_ballot, w ∈ v_law_27 := fun w h => List.mem_append_right _ (List.mem_append_right _ (List.mem_append_left _ h))
  intro S ad M H locs ls hRL hKI hMI hP hD hS hl
  have hk7 := ki7 hKI
  refine lv_aload_n hx hb dL_law_863 rfl (lv_at hl 2 rfl) ?_
  refine lv_aload_n hx hb dL_law_864 rfl (lv_at hl 3 rfl) ?_
  refine lv_iload_n hx hb dL_law_865 rfl (lv_at hl 0 rfl) ?_
  refine lv_iconst (v := 1) hx hb dL_law_866 (by decide) ?_
  refine lv_iadd hx hb dL_law_867 ?_
  refine va_sld hx hb hX hbl hbA hS (hin 1 (by decide) (by decide)) dL_law_868 ?_
  obtain ⟨a1, e_1⟩ : ∃ y : Int32, xs (i + 1).toNatClampNeg = y := ⟨_, rfl⟩
  refine wTop (v1 := .int a1) (congrArg Value.int e_1) ?_
  have bd0_ := ki_bd hKI
  have wf_ := ki_wf hKI
  refine lGoL (w1 := fun u : Cst => wsC K ad u) (wc := wsC K ad S) (wr := mW K m0 gm h1 g1 h2 g2 M) (va_runV (As := [.int a1]) (rest := []) ⟨hx, hb, hml, hown, hts⟩ (c_Y10_ballot l G K ad S 82 a1 _) (cwV 1 hts (wGV t_ (mw (.methodLink RL 125 yX10_ballot) (List.mem_of_getElem? (i := 0) rfl)) (mw (.instanceMethod yX10_ballot) (List.mem_of_getElem? (i := 1) rfl)) (mw (.selects RX10 yX10_ballot yX10_ballot) (List.mem_of_getElem? (i := 2) rfl)) (mw (.initialized RX10) (List.mem_of_getElem? (i := 3) rfl)) j_Y10_ballot) rfl rfl rfl (by decide +kernel) ⟨Nat.le_of_ble_eq_true rfl, Nat.le_of_ble_eq_true rfl⟩) (cPV hK hE (pL hP) (dL hD) 7 rfl (at_7 hk7) ⟨hk7, kp_ballot wf_ hk7 a1⟩) rfl rfl hl.1 rfl (lv_room (Nat.le_of_ble_eq_true rfl)) dL_law_869 ⟨by show S.1 + CM + 0 ≤ 600000; omega, by show S.2.1 + SM + 0 ≤ 7302249; omega⟩) hP hD hS hA (fun r u H locs hv hP hD hS => ?_)
  obtain ⟨ef, eu_⟩ := Prod.mk.inj hv
  rw [eu_] at hP hD
  refine cCells (cells' := S.1 + CM) (slots' := S.2.1 + SM) rfl rfl ?_
  have hKI2 := hKI
  refine lv_pop hx hb dL_law_872 rfl ?_
  refine lv_aload_n hx hb dL_law_873 rfl (lv_at hl 1 rfl) ?_
  refine lv_aload_n hx hb dL_law_874 rfl (lv_at hl 3 rfl) ?_
  refine lv_iload_n hx hb dL_law_875 rfl (lv_at hl 0 rfl) ?_
  refine lv_iconst (v := 1) hx hb dL_law_876 (by decide) ?_
  refine lv_iadd hx hb dL_law_877 ?_
  refine va_sld hx hb hX hbl hbA hS (hin 1 (by decide) (by decide)) dL_law_878 ?_
  refine wTop (v1 := .int a1) (congrArg Value.int e_1) ?_
  obtain ⟨hpm, hMI2⟩ := m_ballot hMI a1
  have bd3_ := ki_bd hKI2
  refine lGoR (w1 := fun u : MS => mW K m0 gm h1 g1 h2 g2 u) (wa := wsC K ad S) (wc := mW K m0 gm h1 g1 h2 g2 M) (va_runV (As := [.int a1]) (rest := []) ⟨hx, hb, hml, hown, hts⟩ (c_X12_ballot l G K m0 gm h1 g1 h2 g2 M a1 _) (cwV 1 hts (wGV t_ (mw (.methodLink RL 128 yX12_ballot) (List.mem_of_getElem? (i := 4) rfl)) (mw (.instanceMethod yX12_ballot) (List.mem_of_getElem? (i := 5) rfl)) (mw (.selects RX12 yX12_ballot yX12_ballot) (List.mem_of_getElem? (i := 6) rfl)) (mw (.initialized RX12) (List.mem_of_getElem? (i := 7) rfl)) j_X12_ballot) rfl rfl rfl (by decide +kernel) ⟨Nat.le_of_ble_eq_true rfl, Nat.le_of_ble_eq_true rfl⟩) (mPVm hK hE (pR hP) (dR hD) hpm) rfl rfl hl.1 rfl (lv_room (Nat.le_of_ble_eq_true rfl)) dL_law_879 ⟨by show S.1 + CM + 0 ≤ 600000; omega, by show S.2.1 + SM + 0 ≤ 7302249; omega⟩) hP hD hS hA (fun r2 u2 H locs hv2 hP hD hS => ?_)
  have eu2 : u2 = (f_X12_ballot M a1).2 := congrArg Prod.snd hv2
  have er2 : r2 = (f_X12_ballot M a1).1 := congrArg Prod.fst hv2
  rw [← eu2] at hMI2
  refine lv_pop hx hb dL_law_882 rfl ?_
  refine lv_goto (tgt := 1267) hx hb dL_law_883 (by decide) ?_
  have hRL2 : RQ S u2 := by
    rw [eu2]
    exact rl_ballot hRL hKI hMI a1
  exact next S ad u2 H locs ls hRL2 hKI2 hMI2 hP hD hS (lv_sub hl [0, 1, 2, 3] rfl)
