def e_law_14 : List Cond := [.methodLink RL 73 yX10_take, .instanceMethod yX10_take, .selects RX10 yX10_take yX10_take, .initialized RX10, .methodLink RL 76 yX12_take, .instanceMethod yX12_take, .selects RX12 yX12_take yX12_take, .initialized RX12]
def v_law_14 : List Cond := (e_law_14 ++ (v_Y10_take ++ (v_X12_take ++ [])))
theorem te_law_14 : GoodIn lw_tbl e_law_14 := wGc zc982 (wGc zc981 (wGc zc980 (wGc zc759 (wGc zc979 (wGc zc978 (wGc zc977 (wGc zc886 (wG0))))))))
theorem t_law_14 : GoodIn lw_tbl v_law_14 := wGa te_law_14 (wGa t_Y10_take (wGa t_X12_take (wG0)))
set_option maxHeartbeats 4000000 in
set_option maxRecDepth 100000 in
theorem law_14 {p : Program} {l : Launch} {e : Env} {s : State} {m : MethodId} {below : List Frame} {meth : Method} {c : Code} {b L : Nat} {xs : Nat → Int32} (C0 : lw_At p s m meth c b L xs) {G : va_G} {K : Nat → ClassId} (hK : va_K G vwCl (wTY K) s) (hE : wE s) {nt : Nat} (hN : zst nt (fun q : Nat => s.heap.size ≤ q) s s.heap) {m0 h1 h2 : Nat} {gm g1 g2 : Nat → Nat} {CM SM : Nat} (hCM : CM ≤ 10000) (hSM : SM ≤ 1000000) {i : Int32} (hin : ∀ j : Int32, 0 ≤ j.toInt → j.toInt ≤ 6 → vp_in (i + j) L) (next : lInv p l e s m below meth c b G K m0 gm h1 g1 h2 g2 CM SM 1267 i) : lInv p l e s m below meth c b G K m0 gm h1 g1 h2 g2 CM SM 574 i := by
  obtain ⟨hx, hb, hr, hml, hown, hts, hX, hbl, hlocks, hgv⟩ := id C0
  have hA : ∀ q : Nat, s.heap.size ≤ q → (fun q : Nat => s.heap.size ≤ q) q := fun _ h => h
  have hbA : ¬ (fun q : Nat => s.heap.size ≤ q) b := Nat.not_le.mpr hbl
  have t_ := t_law_14
  have hts := fun w (h : w ∈ v_law_14) => hts w (t_ w h).1
  have mw : ∀ w ∈ e_law_14, w ∈ v_law_14 := fun w h => List.mem_append_left _ h
  have j_Y10_take : ∀ w ∈ v_Y10_take, w ∈ v_law_14 := fun w h => List.mem_append_right _ (List.mem_append_left _ h)
  have j_X12_take : ∀ w ∈ v_X12_take, w ∈ v_law_14 := fun w h => List.mem_append_right _ (List.mem_append_right _ (List.mem_append_left _ h))
  intro S ad M H locs ls hRL hKI hMI hP hD hS hl
  have hk7 := ki7 hKI
  refine lv_aload_n hx hb dL_law_574 rfl (lv_at hl 2 rfl) ?_
  refine lv_aload_n hx hb dL_law_575 rfl (lv_at hl 3 rfl) ?_
  refine lv_iload_n hx hb dL_law_576 rfl (lv_at hl 0 rfl) ?_
  refine lv_iconst (v := 1) hx hb dL_law_577 (by decide) ?_
  refine lv_iadd hx hb dL_law_578 ?_
  refine va_sld hx hb hX hbl hbA hS (hin 1 (by decide) (by decide)) dL_law_579 ?_
  obtain ⟨a1, e_1⟩ : ∃ y : Int32, xs (i + 1).toNatClampNeg = y := ⟨_, rfl⟩
  refine wTop (v1 := .int a1) (congrArg Value.int e_1) ?_
  obtain ⟨v_, S2, ef, hp_, hKI2, en_⟩ := k_take hKI a1
  have bd_ := ki_bd hKI2
  refine lGoL (w1 := fun u : Cst × (Nat → Nat) => wsC K u.2 u.1) (wc := wsC K ad S) (wr := mW K m0 gm h1 g1 h2 g2 M) (va_runV (As := [.int a1]) (rest := []) ⟨hx, hb, hml, hown, hts⟩ (c_Y10_take l G K ad S 82 S2.1 S2.2.1 a1 _) (cwV 1 hts (wGV t_ (mw (.methodLink RL 73 yX10_take) (List.mem_of_getElem? (i := 0) rfl)) (mw (.instanceMethod yX10_take) (List.mem_of_getElem? (i := 1) rfl)) (mw (.selects RX10 yX10_take yX10_take) (List.mem_of_getElem? (i := 2) rfl)) (mw (.initialized RX10) (List.mem_of_getElem? (i := 3) rfl)) j_Y10_take) rfl rfl rfl (by decide +kernel) ⟨Nat.le_of_ble_eq_true rfl, Nat.le_of_ble_eq_true rfl⟩) (cPV hK hE (pL hP) (dL hD) 7 rfl (at_7 hk7) ⟨⟨en_.1.1, en_.1.2⟩, hk7, hp_ _ _ (Nat.le_refl _) (Nat.le_refl _)⟩) rfl rfl hl.1 rfl (lv_room (Nat.le_of_ble_eq_true rfl)) dL_law_580 ⟨by show S.1 + CM + (S2.1 - S.1) ≤ 600000; have := en_.1.1; omega, by show S.2.1 + SM + (S2.2.1 - S.2.1) ≤ 7302249; have := en_.1.2; omega⟩) hP hD hS hA (fun r u H locs hv hP hD hS => ?_)
  obtain ⟨S3, ad1⟩ := u
  obtain ⟨hv, -, ha⟩ := hv
  have hv : (r, S3) = (v_, S2) := hv.trans ef
  obtain ⟨rfl, rfl⟩ := Prod.mk.inj hv
  have ha82 : ad1 82 = ad 82 := ha 82 hk7.1
  have hP : va_P G vwCl (wsC K ad1 S3 ++ mW K m0 gm h1 g1 h2 g2 M) H := hP
  have hD : va_D (fun q : Nat => s.heap.size ≤ q) (wsC K ad1 S3 ++ mW K m0 gm h1 g1 h2 g2 M) := hD
  rw [← ha82] at hl
  refine cCells (cells' := S3.1 + CM) (slots' := S3.2.1 + SM) (by have := en_.1.1; omega) (by have := en_.1.2; omega) ?_
  refine lv_pop hx hb dL_law_583 rfl ?_
  refine lv_aload_n hx hb dL_law_584 rfl (lv_at hl 1 rfl) ?_
  refine lv_aload_n hx hb dL_law_585 rfl (lv_at hl 3 rfl) ?_
  refine lv_iload_n hx hb dL_law_586 rfl (lv_at hl 0 rfl) ?_
  refine lv_iconst (v := 1) hx hb dL_law_587 (by decide) ?_
  refine lv_iadd hx hb dL_law_588 ?_
  refine va_sld hx hb hX hbl hbA hS (hin 1 (by decide) (by decide)) dL_law_589 ?_
  refine wTop (v1 := .int a1) (congrArg Value.int e_1) ?_
  obtain ⟨hpm, hMI2⟩ := m_take hMI a1
  have bd3_ := ki_bd hKI2
  refine lGoR (w1 := fun u : MS => mW K m0 gm h1 g1 h2 g2 u) (wa := wsC K ad1 S3) (wc := mW K m0 gm h1 g1 h2 g2 M) (va_runV (As := [.int a1]) (rest := []) ⟨hx, hb, hml, hown, hts⟩ (c_X12_take l G K m0 gm h1 g1 h2 g2 M a1 _) (cwV 1 hts (wGV t_ (mw (.methodLink RL 76 yX12_take) (List.mem_of_getElem? (i := 4) rfl)) (mw (.instanceMethod yX12_take) (List.mem_of_getElem? (i := 5) rfl)) (mw (.selects RX12 yX12_take yX12_take) (List.mem_of_getElem? (i := 6) rfl)) (mw (.initialized RX12) (List.mem_of_getElem? (i := 7) rfl)) j_X12_take) rfl rfl rfl (by decide +kernel) ⟨Nat.le_of_ble_eq_true rfl, Nat.le_of_ble_eq_true rfl⟩) (mPVm hK hE (pR hP) (dR hD) hpm) rfl rfl hl.1 rfl (lv_room (Nat.le_of_ble_eq_true rfl)) dL_law_590 ⟨by show S3.1 + CM + 0 ≤ 600000; omega, by show S3.2.1 + SM + 0 ≤ 7302249; omega⟩) hP hD hS hA (fun r2 u2 H locs hv2 hP hD hS => ?_)
  have eu2 : u2 = (f_X12_take M a1).2 := congrArg Prod.snd hv2
  have er2 : r2 = (f_X12_take M a1).1 := congrArg Prod.fst hv2
  rw [← eu2] at hMI2
  refine lv_pop hx hb dL_law_593 rfl ?_
  refine lv_goto (tgt := 1267) hx hb dL_law_594 (by decide) ?_
  have hRL2 : RQ S3 u2 := by
    rw [eu2]
    exact rl_take hRL hKI hMI a1 ef
  exact next S3 ad1 u2 H locs ls hRL2 hKI2 hMI2 hP hD hS (lv_sub hl [0, 1, 2, 3] rfl)
def e_law_15 : List Cond := [.methodLink RL 77 yX10_move, .instanceMethod yX10_move, .selects RX10 yX10_move yX10_move, .initialized RX10, .methodLink RL 80 yX12_move, .instanceMethod yX12_move, .selects RX12 yX12_move yX12_move, .initialized RX12]
def v_law_15 : List Cond := (e_law_15 ++ (v_Y10_move ++ (v_X12_move ++ [])))
theorem te_law_15 : GoodIn lw_tbl e_law_15 := wGc zc988 (wGc zc987 (wGc zc986 (wGc zc759 (wGc zc985 (wGc zc984 (wGc zc983 (wGc zc886 (wG0))))))))
theorem t_law_15 : GoodIn lw_tbl v_law_15 := wGa te_law_15 (wGa t_Y10_move (wGa t_X12_move (wG0)))
set_option maxHeartbeats 4000000 in
set_option maxRecDepth 100000 in
theorem law_15 {p : Program} {l : Launch} {e : Env} {s : State} {m : MethodId} {below : List Frame} {meth : Method} {c : Code} {b L : Nat} {xs : Nat → Int32} (C0 : lw_At p s m meth c b L xs) {G : va_G} {K : Nat → ClassId} (hK : va_K G vwCl (wTY K) s) (hE : wE s) {nt : Nat} (hN : zst nt (fun q : Nat => s.heap.size ≤ q) s s.heap) {m0 h1 h2 : Nat} {gm g1 g2 : Nat → Nat} {CM SM : Nat} (hCM : CM ≤ 10000) (hSM : SM ≤ 1000000) {i : Int32} (hin : ∀ j : Int32, 0 ≤ j.toInt → j.toInt ≤ 6 → vp_in (i + j) L) (next : lInv p l e s m below meth c b G K m0 gm h1 g1 h2 g2 CM SM 1267 i) : lInv p l e s m below meth c b G K m0 gm h1 g1 h2 g2 CM SM 597 i := by
  obtain ⟨hx, hb, hr, hml, hown, hts, hX, hbl, hlocks, hgv⟩ := id C0
  have hA : ∀ q : Nat, s.heap.size ≤ q → (fun q : Nat => s.heap.size ≤ q) q := fun _ h => h
  have hbA : ¬ (fun q : Nat => s.heap.size ≤ q) b := Nat.not_le.mpr hbl
  have t_ := t_law_15
  have hts := fun w (h : w ∈ v_law_15) => hts w (t_ w h).1
  have mw : ∀ w ∈ e_law_15, w ∈ v_law_15 := fun w h => List.mem_append_left _ h
  have j_Y10_move : ∀ w ∈ v_Y10_move, w ∈ v_law_15 := fun w h => List.mem_append_right _ (List.mem_append_left _ h)
  have j_X12_move : ∀ w ∈ v_X12_move, w ∈ v_law_15 := fun w h => List.mem_append_right _ (List.mem_append_right _ (List.mem_append_left _ h))
  intro S ad M H locs ls hRL hKI hMI hP hD hS hl
  have hk7 := ki7 hKI
  refine lv_aload_n hx hb dL_law_597 rfl (lv_at hl 2 rfl) ?_
  refine lv_aload_n hx hb dL_law_598 rfl (lv_at hl 3 rfl) ?_
  refine lv_iload_n hx hb dL_law_599 rfl (lv_at hl 0 rfl) ?_
  refine lv_iconst (v := 1) hx hb dL_law_600 (by decide) ?_
  refine lv_iadd hx hb dL_law_601 ?_
  refine va_sld hx hb hX hbl hbA hS (hin 1 (by decide) (by decide)) dL_law_602 ?_
  obtain ⟨a1, e_1⟩ : ∃ y : Int32, xs (i + 1).toNatClampNeg = y := ⟨_, rfl⟩
  refine wTop (v1 := .int a1) (congrArg Value.int e_1) ?_
  obtain ⟨v_, S2, ef, hp_, hKI2, en_⟩ := k_move hKI a1
  have bd_ := ki_bd hKI2
  refine lGoL (w1 := fun u : Cst × (Nat → Nat) => wsC K u.2 u.1) (wc := wsC K ad S) (wr := mW K m0 gm h1 g1 h2 g2 M) (va_runV (As := [.int a1]) (rest := []) ⟨hx, hb, hml, hown, hts⟩ (c_Y10_move l G K ad S 82 S2.1 S2.2.1 a1 _) (cwV 1 hts (wGV t_ (mw (.methodLink RL 77 yX10_move) (List.mem_of_getElem? (i := 0) rfl)) (mw (.instanceMethod yX10_move) (List.mem_of_getElem? (i := 1) rfl)) (mw (.selects RX10 yX10_move yX10_move) (List.mem_of_getElem? (i := 2) rfl)) (mw (.initialized RX10) (List.mem_of_getElem? (i := 3) rfl)) j_Y10_move) rfl rfl rfl (by decide +kernel) ⟨Nat.le_of_ble_eq_true rfl, Nat.le_of_ble_eq_true rfl⟩) (cPV hK hE (pL hP) (dL hD) 7 rfl (at_7 hk7) ⟨⟨en_.1.1, en_.1.2⟩, hk7, hp_ _ _ (Nat.le_refl _) (Nat.le_refl _)⟩) rfl rfl hl.1 rfl (lv_room (Nat.le_of_ble_eq_true rfl)) dL_law_603 ⟨by show S.1 + CM + (S2.1 - S.1) ≤ 600000; have := en_.1.1; omega, by show S.2.1 + SM + (S2.2.1 - S.2.1) ≤ 7302249; have := en_.1.2; omega⟩) hP hD hS hA (fun r u H locs hv hP hD hS => ?_)
  obtain ⟨S3, ad1⟩ := u
  obtain ⟨hv, -, ha⟩ := hv
  have hv : (r, S3) = (v_, S2) := hv.trans ef
  obtain ⟨rfl, rfl⟩ := Prod.mk.inj hv
  have ha82 : ad1 82 = ad 82 := ha 82 hk7.1
  have hP : va_P G vwCl (wsC K ad1 S3 ++ mW K m0 gm h1 g1 h2 g2 M) H := hP
  have hD : va_D (fun q : Nat => s.heap.size ≤ q) (wsC K ad1 S3 ++ mW K m0 gm h1 g1 h2 g2 M) := hD
  rw [← ha82] at hl
  refine cCells (cells' := S3.1 + CM) (slots' := S3.2.1 + SM) (by have := en_.1.1; omega) (by have := en_.1.2; omega) ?_
  refine lv_pop hx hb dL_law_606 rfl ?_
  refine lv_aload_n hx hb dL_law_607 rfl (lv_at hl 1 rfl) ?_
  refine lv_aload_n hx hb dL_law_608 rfl (lv_at hl 3 rfl) ?_
  refine lv_iload_n hx hb dL_law_609 rfl (lv_at hl 0 rfl) ?_
  refine lv_iconst (v := 1) hx hb dL_law_610 (by decide) ?_
  refine lv_iadd hx hb dL_law_611 ?_
  refine va_sld hx hb hX hbl hbA hS (hin 1 (by decide) (by decide)) dL_law_612 ?_
  refine wTop (v1 := .int a1) (congrArg Value.int e_1) ?_
  obtain ⟨hpm, hMI2⟩ := m_move hMI a1
  have bd3_ := ki_bd hKI2
  refine lGoR (w1 := fun u : MS => mW K m0 gm h1 g1 h2 g2 u) (wa := wsC K ad1 S3) (wc := mW K m0 gm h1 g1 h2 g2 M) (va_runV (As := [.int a1]) (rest := []) ⟨hx, hb, hml, hown, hts⟩ (c_X12_move l G K m0 gm h1 g1 h2 g2 M a1 _) (cwV 1 hts (wGV t_ (mw (.methodLink RL 80 yX12_move) (List.mem_of_getElem? (i := 4) rfl)) (mw (.instanceMethod yX12_move) (List.mem_of_getElem? (i := 5) rfl)) (mw (.selects RX12 yX12_move yX12_move) (List.mem_of_getElem? (i := 6) rfl)) (mw (.initialized RX12) (List.mem_of_getElem? (i := 7) rfl)) j_X12_move) rfl rfl rfl (by decide +kernel) ⟨Nat.le_of_ble_eq_true rfl, Nat.le_of_ble_eq_true rfl⟩) (mPVm hK hE (pR hP) (dR hD) hpm) rfl rfl hl.1 rfl (lv_room (Nat.le_of_ble_eq_true rfl)) dL_law_613 ⟨by show S3.1 + CM + 0 ≤ 600000; omega, by show S3.2.1 + SM + 0 ≤ 7302249; omega⟩) hP hD hS hA (fun r2 u2 H locs hv2 hP hD hS => ?_)
  have eu2 : u2 = (f_X12_move M a1).2 := congrArg Prod.snd hv2
  have er2 : r2 = (f_X12_move M a1).1 := congrArg Prod.fst hv2
  rw [← eu2] at hMI2
  refine lv_pop hx hb dL_law_616 rfl ?_
  refine lv_goto (tgt := 1267) hx hb dL_law_617 (by decide) ?_
  have hRL2 : RQ S3 u2 := by
    rw [eu2]
    exact rl_move hRL hKI hMI a1 ef
  exact next S3 ad1 u2 H locs ls hRL2 hKI2 hMI2 hP hD hS (lv_sub hl [0, 1, 2, 3] rfl)
def e_law_16 : List Cond := [.methodLink RL 81 yX10_second, .instanceMethod yX10_second, .selects RX10 yX10_second yX10_second, .initialized RX10, .methodLink RL 84 yX12_second, .instanceMethod yX12_second, .selects RX12 yX12_second yX12_second, .initialized RX12]
def v_law_16 : List Cond := (e_law_16 ++ (v_Y10_second ++ (v_X12_second ++ [])))
theorem te_law_16 : GoodIn lw_tbl e_law_16 := wGc zc994 (wGc zc993 (wGc zc992 (wGc zc759 (wGc zc991 (wGc zc990 (wGc zc989 (wGc zc886 (wG0))))))))
theorem t_law_16 : GoodIn lw_tbl v_law_16 := wGa te_law_16 (wGa t_Y10_second (wGa t_X12_second (wG0)))
set_option maxHeartbeats 4000000 in
set_option maxRecDepth 100000 in
theorem law_16 {p : Program} {l : Launch} {e : Env} {s : State} {m : MethodId} {below : List Frame} {meth : Method} {c : Code} {b L : Nat} {xs : Nat → Int32} (C0 : lw_At p s m meth c b L xs) {G : va_G} {K : Nat → ClassId} (hK : va_K G vwCl (wTY K) s) (hE : wE s) {nt : Nat} (hN : zst nt (fun q : Nat => s.heap.size ≤ q) s s.heap) {m0 h1 h2 : Nat} {gm g1 g2 : Nat → Nat} {CM SM : Nat} (hCM : CM ≤ 10000) (hSM : SM ≤ 1000000) {i : Int32} (hin : ∀ j : Int32, 0 ≤ j.toInt → j.toInt ≤ 6 → vp_in (i + j) L) (next : lInv p l e s m below meth c b G K m0 gm h1 g1 h2 g2 CM SM 1267 i) : lInv p l e s m below meth c b G K m0 gm h1 g1 h2 g2 CM SM 620 i := by
  obtain ⟨hx, hb, hr, hml, hown, hts, hX, hbl, hlocks, hgv⟩ := id C0
  have hA : ∀ q : Nat, s.heap.size ≤ q → (fun q : Nat => s.heap.size ≤ q) q := fun _ h => h
  have hbA : ¬ (fun q : Nat => s.heap.size ≤ q) b := Nat.not_le.mpr hbl
  have t_ := t_law_16
  have hts := fun w (h : w ∈ v_law_16) => hts w (t_ w h).1
  have mw : ∀ w ∈ e_law_16, w ∈ v_law_16 := fun w h => List.mem_append_left _ h
  have j_Y10_second : ∀ w ∈ v_Y10_second, w ∈ v_law_16 := fun w h => List.mem_append_right _ (List.mem_append_left _ h)
  have j_X12_second : ∀ w ∈ v_X12_second, w ∈ v_law_16 := fun w h => List.mem_append_right _ (List.mem_append_right _ (List.mem_append_left _ h))
  intro S ad M H locs ls hRL hKI hMI hP hD hS hl
  have hk7 := ki7 hKI
  refine lv_aload_n hx hb dL_law_620 rfl (lv_at hl 2 rfl) ?_
  refine lv_aload_n hx hb dL_law_621 rfl (lv_at hl 3 rfl) ?_
  refine lv_iload_n hx hb dL_law_622 rfl (lv_at hl 0 rfl) ?_
  refine lv_iconst (v := 1) hx hb dL_law_623 (by decide) ?_
  refine lv_iadd hx hb dL_law_624 ?_
  refine va_sld hx hb hX hbl hbA hS (hin 1 (by decide) (by decide)) dL_law_625 ?_
  obtain ⟨a1, e_1⟩ : ∃ y : Int32, xs (i + 1).toNatClampNeg = y := ⟨_, rfl⟩
  refine wTop (v1 := .int a1) (congrArg Value.int e_1) ?_
  obtain ⟨v_, S2, ef, hp_, hKI2, en_⟩ := k_second hKI a1
  have bd_ := ki_bd hKI2
  refine lGoL (w1 := fun u : Cst × (Nat → Nat) => wsC K u.2 u.1) (wc := wsC K ad S) (wr := mW K m0 gm h1 g1 h2 g2 M) (va_runV (As := [.int a1]) (rest := []) ⟨hx, hb, hml, hown, hts⟩ (c_Y10_second l G K ad S 82 S2.1 S2.2.1 a1 _) (cwV 1 hts (wGV t_ (mw (.methodLink RL 81 yX10_second) (List.mem_of_getElem? (i := 0) rfl)) (mw (.instanceMethod yX10_second) (List.mem_of_getElem? (i := 1) rfl)) (mw (.selects RX10 yX10_second yX10_second) (List.mem_of_getElem? (i := 2) rfl)) (mw (.initialized RX10) (List.mem_of_getElem? (i := 3) rfl)) j_Y10_second) rfl rfl rfl (by decide +kernel) ⟨Nat.le_of_ble_eq_true rfl, Nat.le_of_ble_eq_true rfl⟩) (cPV hK hE (pL hP) (dL hD) 7 rfl (at_7 hk7) ⟨⟨en_.1.1, en_.1.2⟩, hk7, hp_ _ _ (Nat.le_refl _) (Nat.le_refl _)⟩) rfl rfl hl.1 rfl (lv_room (Nat.le_of_ble_eq_true rfl)) dL_law_626 ⟨by show S.1 + CM + (S2.1 - S.1) ≤ 600000; have := en_.1.1; omega, by show S.2.1 + SM + (S2.2.1 - S.2.1) ≤ 7302249; have := en_.1.2; omega⟩) hP hD hS hA (fun r u H locs hv hP hD hS => ?_)
  obtain ⟨S3, ad1⟩ := u
  obtain ⟨hv, -, ha⟩ := hv
  have hv : (r, S3) = (v_, S2) := hv.trans ef
  obtain ⟨rfl, rfl⟩ := Prod.mk.inj hv
  have ha82 : ad1 82 = ad 82 := ha 82 hk7.1
  have hP : va_P G vwCl (wsC K ad1 S3 ++ mW K m0 gm h1 g1 h2 g2 M) H := hP
  have hD : va_D (fun q : Nat => s.heap.size ≤ q) (wsC K ad1 S3 ++ mW K m0 gm h1 g1 h2 g2 M) := hD
  rw [← ha82] at hl
  refine cCells (cells' := S3.1 + CM) (slots' := S3.2.1 + SM) (by have := en_.1.1; omega) (by have := en_.1.2; omega) ?_
  refine lv_pop hx hb dL_law_629 rfl ?_
  refine lv_aload_n hx hb dL_law_630 rfl (lv_at hl 1 rfl) ?_
  refine lv_aload_n hx hb dL_law_631 rfl (lv_at hl 3 rfl) ?_
  refine lv_iload_n hx hb dL_law_632 rfl (lv_at hl 0 rfl) ?_
  refine lv_iconst (v := 1) hx hb dL_law_633 (by decide) ?_
  refine lv_iadd hx hb dL_law_634 ?_
  refine va_sld hx hb hX hbl hbA hS (hin 1 (by decide) (by decide)) dL_law_635 ?_
  refine wTop (v1 := .int a1) (congrArg Value.int e_1) ?_
  obtain ⟨hpm, hMI2⟩ := m_second hMI a1
  have bd3_ := ki_bd hKI2
  refine lGoR (w1 := fun u : MS => mW K m0 gm h1 g1 h2 g2 u) (wa := wsC K ad1 S3) (wc := mW K m0 gm h1 g1 h2 g2 M) (va_runV (As := [.int a1]) (rest := []) ⟨hx, hb, hml, hown, hts⟩ (c_X12_second l G K m0 gm h1 g1 h2 g2 M a1 _) (cwV 1 hts (wGV t_ (mw (.methodLink RL 84 yX12_second) (List.mem_of_getElem? (i := 4) rfl)) (mw (.instanceMethod yX12_second) (List.mem_of_getElem? (i := 5) rfl)) (mw (.selects RX12 yX12_second yX12_second) (List.mem_of_getElem? (i := 6) rfl)) (mw (.initialized RX12) (List.mem_of_getElem? (i := 7) rfl)) j_X12_second) rfl rfl rfl (by decide +kernel) ⟨Nat.le_of_ble_eq_true rfl, Nat.le_of_ble_eq_true rfl⟩) (mPVm hK hE (pR hP) (dR hD) hpm) rfl rfl hl.1 rfl (lv_room (Nat.le_of_ble_eq_true rfl)) dL_law_636 ⟨by show S3.1 + CM + 0 ≤ 600000; omega, by show S3.2.1 + SM + 0 ≤ 7302249; omega⟩) hP hD hS hA (fun r2 u2 H locs hv2 hP hD hS => ?_)
  have eu2 : u2 = (f_X12_second M a1).2 := congrArg Prod.snd hv2
  have er2 : r2 = (f_X12_second M a1).1 := congrArg Prod.fst hv2
  rw [← eu2] at hMI2
  refine lv_pop hx hb dL_law_639 rfl ?_
  refine lv_goto (tgt := 1267) hx hb dL_law_640 (by decide) ?_
  have hRL2 : RQ S3 u2 := by
    rw [eu2]
    exact rl_second hRL hKI hMI a1 ef
  exact next S3 ad1 u2 H locs ls hRL2 hKI2 hMI2 hP hD hS (lv_sub hl [0, 1, 2, 3] rfl)
def e_law_17 : List Cond := [.methodLink RL 85 yX10_vote, .instanceMethod yX10_vote, .selects RX10 yX10_vote yX10_vote, .initialized RX10, .methodLink RL 88 yX12_vote, .instanceMethod yX12_vote, .selects RX12 yX12_vote yX12_vote, .initialized RX12]
def v_law_17 : List Cond := (e_law_17 ++ (v_Y10_vote ++ (v_X12_vote ++ [])))
theorem te_law_17 : GoodIn lw_tbl e_law_17 := wGc zc1000 (wGc zc999 (wGc zc998 (wGc zc759 (wGc zc997 (wGc zc996 (wGc zc995 (wGc zc886 (wG0))))))))
theorem t_law_17 : GoodIn lw_tbl v_law_17 := wGa te_law_17 (wGa t_Y10_vote (wGa t_X12_vote (wG0)))
set_option maxHeartbeats 4000000 in
set_option maxRecDepth 100000 in
theorem law_17 {p : Program} {l : Launch} {e : Env} {s : State} {m : MethodId} {below : List Frame} {meth : Method} {c : Code} {b L : Nat} {xs : Nat → Int32} (C0 : lw_At p s m meth c b L xs) {G : va_G} {K : Nat → ClassId} (hK : va_K G vwCl (wTY K) s) (hE : wE s) {nt : Nat} (hN : zst nt (fun q : Nat => s.heap.size ≤ q) s s.heap) {m0 h1 h2 : Nat} {gm g1 g2 : Nat → Nat} {CM SM : Nat} (hCM : CM ≤ 10000) (hSM : SM ≤ 1000000) {i : Int32} (hin : ∀ j : Int32, 0 ≤ j.toInt → j.toInt ≤ 6 → vp_in (i + j) L) (next : lInv p l e s m below meth c b G K m0 gm h1 g1 h2 g2 CM SM 1267 i) : lInv p l e s m below meth c b G K m0 gm h1 g1 h2 g2 CM SM 643 i := by
  obtain ⟨hx, hb, hr, hml, hown, hts, hX, hbl, hlocks, hgv⟩ := id C0
  have hA : ∀ q : Nat, s.heap.size ≤ q → (fun q : Nat => s.heap.size ≤ q) q := fun _ h => h
  have hbA : ¬ (fun q : Nat => s.heap.size ≤ q) b := Nat.not_le.mpr hbl
  have t_ := t_law_17
  have hts := fun w (h : w ∈ v_law_17) => hts w (t_ w h).1
  have mw : ∀ w ∈ e_law_17, w ∈ v_law_17 := fun w h => List.mem_append_left _ h
  have j_Y10_vote : ∀ w ∈ v_Y10_vote, w ∈ v_law_17 := fun w h => List.mem_append_right _ (List.mem_append_left _ h)
  have j_X12_vote : ∀ w ∈ v_X12_vote, w ∈ v_law_17 := fun w h => List.mem_append_right _ (List.mem_append_right _ (List.mem_append_left _ h))
  intro S ad M H locs ls hRL hKI hMI hP hD hS hl
  have hk7 := ki7 hKI
  refine lv_aload_n hx hb dL_law_643 rfl (lv_at hl 2 rfl) ?_
  refine lv_aload_n hx hb dL_law_644 rfl (lv_at hl 3 rfl) ?_
  refine lv_iload_n hx hb dL_law_645 rfl (lv_at hl 0 rfl) ?_
  refine lv_iconst (v := 1) hx hb dL_law_646 (by decide) ?_
  refine lv_iadd hx hb dL_law_647 ?_
  refine va_sld hx hb hX hbl hbA hS (hin 1 (by decide) (by decide)) dL_law_648 ?_
  obtain ⟨a1, e_1⟩ : ∃ y : Int32, xs (i + 1).toNatClampNeg = y := ⟨_, rfl⟩
  refine wTop (v1 := .int a1) (congrArg Value.int e_1) ?_
  refine lv_aload_n hx hb dL_law_649 rfl (lv_at hl 3 rfl) ?_
  refine lv_iload_n hx hb dL_law_650 rfl (lv_at hl 0 rfl) ?_
  refine lv_iconst (v := 2) hx hb dL_law_651 (by decide) ?_
  refine lv_iadd hx hb dL_law_652 ?_
  refine va_sld hx hb hX hbl hbA hS (hin 2 (by decide) (by decide)) dL_law_653 ?_
  obtain ⟨a2, e_2⟩ : ∃ y : Int32, xs (i + 2).toNatClampNeg = y := ⟨_, rfl⟩
  refine wTop (v1 := .int a2) (congrArg Value.int e_2) ?_
  obtain ⟨v_, S2, ef, hp_, hKI2, en_⟩ := k_vote hKI a1 a2
  have bd_ := ki_bd hKI2
  refine lGoL (w1 := fun u : Cst × (Nat → Nat) => wsC K u.2 u.1) (wc := wsC K ad S) (wr := mW K m0 gm h1 g1 h2 g2 M) (va_runV (As := [.int a1, .int a2]) (rest := []) ⟨hx, hb, hml, hown, hts⟩ (c_Y10_vote l G K ad S 82 S2.1 S2.2.1 a1 a2 _) (cwV 2 hts (wGV t_ (mw (.methodLink RL 85 yX10_vote) (List.mem_of_getElem? (i := 0) rfl)) (mw (.instanceMethod yX10_vote) (List.mem_of_getElem? (i := 1) rfl)) (mw (.selects RX10 yX10_vote yX10_vote) (List.mem_of_getElem? (i := 2) rfl)) (mw (.initialized RX10) (List.mem_of_getElem? (i := 3) rfl)) j_Y10_vote) rfl rfl rfl (by decide +kernel) ⟨Nat.le_of_ble_eq_true rfl, Nat.le_of_ble_eq_true rfl⟩) (cPV hK hE (pL hP) (dL hD) 7 rfl (at_7 hk7) ⟨⟨en_.1.1, en_.1.2⟩, hk7, hp_ _ _ (Nat.le_refl _) (Nat.le_refl _)⟩) rfl rfl hl.1 rfl (lv_room (Nat.le_of_ble_eq_true rfl)) dL_law_654 ⟨by show S.1 + CM + (S2.1 - S.1) ≤ 600000; have := en_.1.1; omega, by show S.2.1 + SM + (S2.2.1 - S.2.1) ≤ 7302249; have := en_.1.2; omega⟩) hP hD hS hA (fun r u H locs hv hP hD hS => ?_)
  obtain ⟨S3, ad1⟩ := u
  obtain ⟨hv, -, ha⟩ := hv
  have hv : (r, S3) = (v_, S2) := hv.trans ef
  obtain ⟨rfl, rfl⟩ := Prod.mk.inj hv
  have ha82 : ad1 82 = ad 82 := ha 82 hk7.1
  have hP : va_P G vwCl (wsC K ad1 S3 ++ mW K m0 gm h1 g1 h2 g2 M) H := hP
  have hD : va_D (fun q : Nat => s.heap.size ≤ q) (wsC K ad1 S3 ++ mW K m0 gm h1 g1 h2 g2 M) := hD
  rw [← ha82] at hl
  refine cCells (cells' := S3.1 + CM) (slots' := S3.2.1 + SM) (by have := en_.1.1; omega) (by have := en_.1.2; omega) ?_
  refine lv_pop hx hb dL_law_657 rfl ?_
  refine lv_aload_n hx hb dL_law_658 rfl (lv_at hl 1 rfl) ?_
  refine lv_aload_n hx hb dL_law_659 rfl (lv_at hl 3 rfl) ?_
  refine lv_iload_n hx hb dL_law_660 rfl (lv_at hl 0 rfl) ?_
  refine lv_iconst (v := 1) hx hb dL_law_661 (by decide) ?_
  refine lv_iadd hx hb dL_law_662 ?_
  refine va_sld hx hb hX hbl hbA hS (hin 1 (by decide) (by decide)) dL_law_663 ?_
  refine wTop (v1 := .int a1) (congrArg Value.int e_1) ?_
  refine lv_aload_n hx hb dL_law_664 rfl (lv_at hl 3 rfl) ?_
  refine lv_iload_n hx hb dL_law_665 rfl (lv_at hl 0 rfl) ?_
  refine lv_iconst (v := 2) hx hb dL_law_666 (by decide) ?_
  refine lv_iadd hx hb dL_law_667 ?_
  refine va_sld hx hb hX hbl hbA hS (hin 2 (by decide) (by decide)) dL_law_668 ?_
  refine wTop (v1 := .int a2) (congrArg Value.int e_2) ?_
  obtain ⟨hpm, hMI2⟩ := m_vote hMI a1 a2
  have bd3_ := ki_bd hKI2
  refine lGoR (w1 := fun u : MS => mW K m0 gm h1 g1 h2 g2 u) (wa := wsC K ad1 S3) (wc := mW K m0 gm h1 g1 h2 g2 M) (va_runV (As := [.int a1, .int a2]) (rest := []) ⟨hx, hb, hml, hown, hts⟩ (c_X12_vote l G K m0 gm h1 g1 h2 g2 M a1 a2 _) (cwV 2 hts (wGV t_ (mw (.methodLink RL 88 yX12_vote) (List.mem_of_getElem? (i := 4) rfl)) (mw (.instanceMethod yX12_vote) (List.mem_of_getElem? (i := 5) rfl)) (mw (.selects RX12 yX12_vote yX12_vote) (List.mem_of_getElem? (i := 6) rfl)) (mw (.initialized RX12) (List.mem_of_getElem? (i := 7) rfl)) j_X12_vote) rfl rfl rfl (by decide +kernel) ⟨Nat.le_of_ble_eq_true rfl, Nat.le_of_ble_eq_true rfl⟩) (mPVm hK hE (pR hP) (dR hD) hpm) rfl rfl hl.1 rfl (lv_room (Nat.le_of_ble_eq_true rfl)) dL_law_669 ⟨by show S3.1 + CM + 0 ≤ 600000; omega, by show S3.2.1 + SM + 0 ≤ 7302249; omega⟩) hP hD hS hA (fun r2 u2 H locs hv2 hP hD hS => ?_)
  have eu2 : u2 = (f_X12_vote M a1 a2).2 := congrArg Prod.snd hv2
  have er2 : r2 = (f_X12_vote M a1 a2).1 := congrArg Prod.fst hv2
  rw [← eu2] at hMI2
  refine lv_pop hx hb dL_law_672 rfl ?_
  refine lv_goto (tgt := 1267) hx hb dL_law_673 (by decide) ?_
  have hRL2 : RQ S3 u2 := by
    rw [eu2]
    exact rl_vote hRL hKI hMI a1 a2 ef
  exact next S3 ad1 u2 H locs ls hRL2 hKI2 hMI2 hP hD hS (lv_sub hl [0, 1, 2, 3] rfl)
def e_law_18 : List Cond := [.methodLink RL 89 yX10_withdraw, .instanceMethod yX10_withdraw, .selects RX10 yX10_withdraw yX10_withdraw, .initialized RX10, .methodLink RL 92 yX12_withdraw, .instanceMethod yX12_withdraw, .selects RX12 yX12_withdraw yX12_withdraw, .initialized RX12]
def v_law_18 : List Cond := (e_law_18 ++ (v_Y10_withdraw ++ (v_X12_withdraw ++ [])))
theorem te_law_18 : GoodIn lw_tbl e_law_18 := wGc zc1006 (wGc zc1005 (wGc zc1004 (wGc zc759 (wGc zc1003 (wGc zc1002 (wGc zc1001 (wGc zc886 (wG0))))))))
theorem t_law_18 : GoodIn lw_tbl v_law_18 := wGa te_law_18 (wGa t_Y10_withdraw (wGa t_X12_withdraw (wG0)))
set_option maxHeartbeats 4000000 in
set_option maxRecDepth 100000 in
theorem law_18 {p : Program} {l : Launch} {e : Env} {s : State} {m : MethodId} {below : List Frame} {meth : Method} {c : Code} {b L : Nat} {xs : Nat → Int32} (C0 : lw_At p s m meth c b L xs) {G : va_G} {K : Nat → ClassId} (hK : va_K G vwCl (wTY K) s) (hE : wE s) {nt : Nat} (hN : zst nt (fun q : Nat => s.heap.size ≤ q) s s.heap) {m0 h1 h2 : Nat} {gm g1 g2 : Nat → Nat} {CM SM : Nat} (hCM : CM ≤ 10000) (hSM : SM ≤ 1000000) {i : Int32} (hin : ∀ j : Int32, 0 ≤ j.toInt → j.toInt ≤ 6 → vp_in (i + j) L) (next : lInv p l e s m below meth c b G K m0 gm h1 g1 h2 g2 CM SM 1267 i) : lInv p l e s m below meth c b G K m0 gm h1 g1 h2 g2 CM SM 676 i := by
  obtain ⟨hx, hb, hr, hml, hown, hts, hX, hbl, hlocks, hgv⟩ := id C0
  have hA : ∀ q : Nat, s.heap.size ≤ q → (fun q : Nat => s.heap.size ≤ q) q := fun _ h => h
  have hbA : ¬ (fun q : Nat => s.heap.size ≤ q) b := Nat.not_le.mpr hbl
  have t_ := t_law_18
  have hts := fun w (h : w ∈ v_law_18) => hts w (t_ w h).1
  have mw : ∀ w ∈ e_law_18, w ∈ v_law_18 := fun w h => List.mem_append_left _ h
  have j_Y10_withdraw : ∀ w ∈ v_Y10_withdraw, w ∈ v_law_18 := fun w h => List.mem_append_right _ (List.mem_append_left _ h)
  have j_X12_withdraw : ∀ w ∈ v_X12_withdraw, w ∈ v_law_18 := fun w h => List.mem_append_right _ (List.mem_append_right _ (List.mem_append_left _ h))
  intro S ad M H locs ls hRL hKI hMI hP hD hS hl
  have hk7 := ki7 hKI
  refine lv_aload_n hx hb dL_law_676 rfl (lv_at hl 2 rfl) ?_
  refine lv_aload_n hx hb dL_law_677 rfl (lv_at hl 3 rfl) ?_
  refine lv_iload_n hx hb dL_law_678 rfl (lv_at hl 0 rfl) ?_
  refine lv_iconst (v := 1) hx hb dL_law_679 (by decide) ?_
  refine lv_iadd hx hb dL_law_680 ?_
  refine va_sld hx hb hX hbl hbA hS (hin 1 (by decide) (by decide)) dL_law_681 ?_
  obtain ⟨a1, e_1⟩ : ∃ y : Int32, xs (i + 1).toNatClampNeg = y := ⟨_, rfl⟩
  refine wTop (v1 := .int a1) (congrArg Value.int e_1) ?_
  obtain ⟨v_, S2, ef, hp_, hKI2, en_⟩ := k_withdraw hKI a1
  have bd_ := ki_bd hKI2
  refine lGoL (w1 := fun u : Cst × (Nat → Nat) => wsC K u.2 u.1) (wc := wsC K ad S) (wr := mW K m0 gm h1 g1 h2 g2 M) (va_runV (As := [.int a1]) (rest := []) ⟨hx, hb, hml, hown, hts⟩ (c_Y10_withdraw l G K ad S 82 S2.1 S2.2.1 a1 _) (cwV 1 hts (wGV t_ (mw (.methodLink RL 89 yX10_withdraw) (List.mem_of_getElem? (i := 0) rfl)) (mw (.instanceMethod yX10_withdraw) (List.mem_of_getElem? (i := 1) rfl)) (mw (.selects RX10 yX10_withdraw yX10_withdraw) (List.mem_of_getElem? (i := 2) rfl)) (mw (.initialized RX10) (List.mem_of_getElem? (i := 3) rfl)) j_Y10_withdraw) rfl rfl rfl (by decide +kernel) ⟨Nat.le_of_ble_eq_true rfl, Nat.le_of_ble_eq_true rfl⟩) (cPV hK hE (pL hP) (dL hD) 7 rfl (at_7 hk7) ⟨⟨en_.1.1, en_.1.2⟩, hk7, hp_ _ _ (Nat.le_refl _) (Nat.le_refl _)⟩) rfl rfl hl.1 rfl (lv_room (Nat.le_of_ble_eq_true rfl)) dL_law_682 ⟨by show S.1 + CM + (S2.1 - S.1) ≤ 600000; have := en_.1.1; omega, by show S.2.1 + SM + (S2.2.1 - S.2.1) ≤ 7302249; have := en_.1.2; omega⟩) hP hD hS hA (fun r u H locs hv hP hD hS => ?_)
  obtain ⟨S3, ad1⟩ := u
  obtain ⟨hv, -, ha⟩ := hv
  have hv : (r, S3) = (v_, S2) := hv.trans ef
  obtain ⟨rfl, rfl⟩ := Prod.mk.inj hv
  have ha82 : ad1 82 = ad 82 := ha 82 hk7.1
  have hP : va_P G vwCl (wsC K ad1 S3 ++ mW K m0 gm h1 g1 h2 g2 M) H := hP
  have hD : va_D (fun q : Nat => s.heap.size ≤ q) (wsC K ad1 S3 ++ mW K m0 gm h1 g1 h2 g2 M) := hD
  rw [← ha82] at hl
  refine cCells (cells' := S3.1 + CM) (slots' := S3.2.1 + SM) (by have := en_.1.1; omega) (by have := en_.1.2; omega) ?_
  refine lv_pop hx hb dL_law_685 rfl ?_
  refine lv_aload_n hx hb dL_law_686 rfl (lv_at hl 1 rfl) ?_
  refine lv_aload_n hx hb dL_law_687 rfl (lv_at hl 3 rfl) ?_
  refine lv_iload_n hx hb dL_law_688 rfl (lv_at hl 0 rfl) ?_
  refine lv_iconst (v := 1) hx hb dL_law_689 (by decide) ?_
  refine lv_iadd hx hb dL_law_690 ?_
  refine va_sld hx hb hX hbl hbA hS (hin 1 (by decide) (by decide)) dL_law_691 ?_
  refine wTop (v1 := .int a1) (congrArg Value.int e_1) ?_
  obtain ⟨hpm, hMI2⟩ := m_withdraw hMI a1
  have bd3_ := ki_bd hKI2
  refine lGoR (w1 := fun u : MS => mW K m0 gm h1 g1 h2 g2 u) (wa := wsC K ad1 S3) (wc := mW K m0 gm h1 g1 h2 g2 M) (va_runV (As := [.int a1]) (rest := []) ⟨hx, hb, hml, hown, hts⟩ (c_X12_withdraw l G K m0 gm h1 g1 h2 g2 M a1 _) (cwV 1 hts (wGV t_ (mw (.methodLink RL 92 yX12_withdraw) (List.mem_of_getElem? (i := 4) rfl)) (mw (.instanceMethod yX12_withdraw) (List.mem_of_getElem? (i := 5) rfl)) (mw (.selects RX12 yX12_withdraw yX12_withdraw) (List.mem_of_getElem? (i := 6) rfl)) (mw (.initialized RX12) (List.mem_of_getElem? (i := 7) rfl)) j_X12_withdraw) rfl rfl rfl (by decide +kernel) ⟨Nat.le_of_ble_eq_true rfl, Nat.le_of_ble_eq_true rfl⟩) (mPVm hK hE (pR hP) (dR hD) hpm) rfl rfl hl.1 rfl (lv_room (Nat.le_of_ble_eq_true rfl)) dL_law_692 ⟨by show S3.1 + CM + 0 ≤ 600000; omega, by show S3.2.1 + SM + 0 ≤ 7302249; omega⟩) hP hD hS hA (fun r2 u2 H locs hv2 hP hD hS => ?_)
  have eu2 : u2 = (f_X12_withdraw M a1).2 := congrArg Prod.snd hv2
  have er2 : r2 = (f_X12_withdraw M a1).1 := congrArg Prod.fst hv2
  rw [← eu2] at hMI2
  refine lv_pop hx hb dL_law_695 rfl ?_
  refine lv_goto (tgt := 1267) hx hb dL_law_696 (by decide) ?_
  have hRL2 : RQ S3 u2 := by
    rw [eu2]
    exact rl_withdraw hRL hKI hMI a1 ef
  exact next S3 ad1 u2 H locs ls hRL2 hKI2 hMI2 hP hD hS (lv_sub hl [0, 1, 2, 3] rfl)
def e_law_19 : List Cond := [.methodLink RL 93 yX10_rule, .instanceMethod yX10_rule, .selects RX10 yX10_rule yX10_rule, .initialized RX10, .methodLink RL 96 yX12_rule, .instanceMethod yX12_rule, .selects RX12 yX12_rule yX12_rule, .initialized RX12]
def v_law_19 : List Cond := (e_law_19 ++ (v_Y10_rule ++ (v_X12_rule ++ [])))
theorem te_law_19 : GoodIn lw_tbl e_law_19 := wGc zc1012 (wGc zc1011 (wGc zc1010 (wGc zc759 (wGc zc1009 (wGc zc1008 (wGc zc1007 (wGc zc886 (wG0))))))))
theorem t_law_19 : GoodIn lw_tbl v_law_19 := wGa te_law_19 (wGa t_Y10_rule (wGa t_X12_rule (wG0)))
set_option maxHeartbeats 4000000 in
set_option maxRecDepth 100000 in
theorem law_19 {p : Program} {l : Launch} {e : Env} {s : State} {m : MethodId} {below : List Frame} {meth : Method} {c : Code} {b L : Nat} {xs : Nat → Int32} (C0 : lw_At p s m meth c b L xs) {G : va_G} {K : Nat → ClassId} (hK : va_K G vwCl (wTY K) s) (hE : wE s) {nt : Nat} (hN : zst nt (fun q : Nat => s.heap.size ≤ q) s s.heap) {m0 h1 h2 : Nat} {gm g1 g2 : Nat → Nat} {CM SM : Nat} (hCM : CM ≤ 10000) (hSM : SM ≤ 1000000) {i : Int32} (hin : ∀ j : Int32, 0 ≤ j.toInt → j.toInt ≤ 6 → vp_in (i + j) L) (next : lInv p l e s m below meth c b G K m0 gm h1 g1 h2 g2 CM SM 1267 i) : lInv p l e s m below meth c b G K m0 gm h1 g1 h2 g2 CM SM 699 i := by
  obtain ⟨hx, hb, hr, hml, hown, hts, hX, hbl, hlocks, hgv⟩ := id C0
  have hA : ∀ q : Nat, s.heap.size ≤ q → (fun q : Nat => s.heap.size ≤ q) q := fun _ h => h
  have hbA : ¬ (fun q : Nat => s.heap.size ≤ q) b := Nat.not_le.mpr hbl
  have t_ := t_law_19
  have hts := fun w (h : w ∈ v_law_19) => hts w (t_ w h).1
  have mw : ∀ w ∈ e_law_19, w ∈ v_law_19 := fun w h => List.mem_append_left _ h
  have j_Y10_rule : ∀ w ∈ v_Y10_rule, w ∈ v_law_19 := fun w h => List.mem_append_right _ (List.mem_append_left _ h)
  have j_X12_rule : ∀ w ∈ v_X12_rule, w ∈ v_law_19 := fun w h => List.mem_append_right _ (List.mem_append_right _ (List.mem_append_left _ h))
  intro S ad M H locs ls hRL hKI hMI hP hD hS hl
  have hk7 := ki7 hKI
  refine lv_aload_n hx hb dL_law_699 rfl (lv_at hl 2 rfl) ?_
  obtain ⟨v_, S2, ef, hp_, hKI2, en_⟩ := k_rule hKI
  have bd_ := ki_bd hKI2
  refine lGoL (w1 := fun u : Cst × (Nat → Nat) => wsC K u.2 u.1) (wc := wsC K ad S) (wr := mW K m0 gm h1 g1 h2 g2 M) (va_runV (As := []) (rest := []) ⟨hx, hb, hml, hown, hts⟩ (c_Y10_rule l G K ad S 82 S2.1 S2.2.1 _) (cwV 0 hts (wGV t_ (mw (.methodLink RL 93 yX10_rule) (List.mem_of_getElem? (i := 0) rfl)) (mw (.instanceMethod yX10_rule) (List.mem_of_getElem? (i := 1) rfl)) (mw (.selects RX10 yX10_rule yX10_rule) (List.mem_of_getElem? (i := 2) rfl)) (mw (.initialized RX10) (List.mem_of_getElem? (i := 3) rfl)) j_Y10_rule) rfl rfl rfl (by decide +kernel) ⟨Nat.le_of_ble_eq_true rfl, Nat.le_of_ble_eq_true rfl⟩) (cPV hK hE (pL hP) (dL hD) 7 rfl (at_7 hk7) ⟨⟨en_.1.1, en_.1.2⟩, hk7, hp_ _ _ (Nat.le_refl _) (Nat.le_refl _)⟩) rfl rfl hl.1 rfl (lv_room (Nat.le_of_ble_eq_true rfl)) dL_law_700 ⟨by show S.1 + CM + (S2.1 - S.1) ≤ 600000; have := en_.1.1; omega, by show S.2.1 + SM + (S2.2.1 - S.2.1) ≤ 7302249; have := en_.1.2; omega⟩) hP hD hS hA (fun r u H locs hv hP hD hS => ?_)
  obtain ⟨S3, ad1⟩ := u
  obtain ⟨hv, -, ha⟩ := hv
  have hv : (r, S3) = (v_, S2) := hv.trans ef
  obtain ⟨rfl, rfl⟩ := Prod.mk.inj hv
  have ha82 : ad1 82 = ad 82 := ha 82 hk7.1
  have hP : va_P G vwCl (wsC K ad1 S3 ++ mW K m0 gm h1 g1 h2 g2 M) H := hP
  have hD : va_D (fun q : Nat => s.heap.size ≤ q) (wsC K ad1 S3 ++ mW K m0 gm h1 g1 h2 g2 M) := hD
  rw [← ha82] at hl
  refine cCells (cells' := S3.1 + CM) (slots' := S3.2.1 + SM) (by have := en_.1.1; omega) (by have := en_.1.2; omega) ?_
  refine lv_pop hx hb dL_law_703 rfl ?_
  refine lv_aload_n hx hb dL_law_704 rfl (lv_at hl 1 rfl) ?_
  obtain ⟨hpm, hMI2⟩ := m_rule hMI
  have bd3_ := ki_bd hKI2
  refine lGoR (w1 := fun u : MS => mW K m0 gm h1 g1 h2 g2 u) (wa := wsC K ad1 S3) (wc := mW K m0 gm h1 g1 h2 g2 M) (va_runV (As := []) (rest := []) ⟨hx, hb, hml, hown, hts⟩ (c_X12_rule l G K m0 gm h1 g1 h2 g2 M _) (cwV 0 hts (wGV t_ (mw (.methodLink RL 96 yX12_rule) (List.mem_of_getElem? (i := 4) rfl)) (mw (.instanceMethod yX12_rule) (List.mem_of_getElem? (i := 5) rfl)) (mw (.selects RX12 yX12_rule yX12_rule) (List.mem_of_getElem? (i := 6) rfl)) (mw (.initialized RX12) (List.mem_of_getElem? (i := 7) rfl)) j_X12_rule) rfl rfl rfl (by decide +kernel) ⟨Nat.le_of_ble_eq_true rfl, Nat.le_of_ble_eq_true rfl⟩) (mPVm hK hE (pR hP) (dR hD) hpm) rfl rfl hl.1 rfl (lv_room (Nat.le_of_ble_eq_true rfl)) dL_law_705 ⟨by show S3.1 + CM + 0 ≤ 600000; omega, by show S3.2.1 + SM + 0 ≤ 7302249; omega⟩) hP hD hS hA (fun r2 u2 H locs hv2 hP hD hS => ?_)
  have eu2 : u2 = (f_X12_rule M).2 := congrArg Prod.snd hv2
  have er2 : r2 = (f_X12_rule M).1 := congrArg Prod.fst hv2
  rw [← eu2] at hMI2
  refine lv_pop hx hb dL_law_708 rfl ?_
  refine lv_goto (tgt := 1267) hx hb dL_law_709 (by decide) ?_
  have hRL2 : RQ S3 u2 := by
    rw [eu2]
    exact rl_rule hRL hKI hMI ef
  exact next S3 ad1 u2 H locs ls hRL2 hKI2 hMI2 hP hD hS (lv_sub hl [0, 1, 2, 3] rfl)
def e_law_20 : List Cond := [.methodLink RL 97 yX10_appeal, .instanceMethod yX10_appeal, .selects RX10 yX10_appeal yX10_appeal, .initialized RX10, .methodLink RL 100 yX12_appeal, .instanceMethod yX12_appeal, .selects RX12 yX12_appeal yX12_appeal, .initialized RX12]
def v_law_20 : List Cond := (e_law_20 ++ (v_Y10_appeal ++ (v_X12_appeal ++ [])))
theorem te_law_20 : GoodIn lw_tbl e_law_20 := wGc zc1018 (wGc zc1017 (wGc zc1016 (wGc zc759 (wGc zc1015 (wGc zc1014 (wGc zc1013 (wGc zc886 (wG0))))))))
theorem t_law_20 : GoodIn lw_tbl v_law_20 := wGa te_law_20 (wGa t_Y10_appeal (wGa t_X12_appeal (wG0)))
set_option maxHeartbeats 4000000 in
set_option maxRecDepth 100000 in
theorem law_20 {p : Program} {l : Launch} {e : Env} {s : State} {m : MethodId} {below : List Frame} {meth : Method} {c : Code} {b L : Nat} {xs : Nat → Int32} (C0 : lw_At p s m meth c b L xs) {G : va_G} {K : Nat → ClassId} (hK : va_K G vwCl (wTY K) s) (hE : wE s) {nt : Nat} (hN : zst nt (fun q : Nat => s.heap.size ≤ q) s s.heap) {m0 h1 h2 : Nat} {gm g1 g2 : Nat → Nat} {CM SM : Nat} (hCM : CM ≤ 10000) (hSM : SM ≤ 1000000) {i : Int32} (hin : ∀ j : Int32, 0 ≤ j.toInt → j.toInt ≤ 6 → vp_in (i + j) L) (next : lInv p l e s m below meth c b G K m0 gm h1 g1 h2 g2 CM SM 1267 i) : lInv p l e s m below meth c b G K m0 gm h1 g1 h2 g2 CM SM 712 i := by
  obtain ⟨hx, hb, hr, hml, hown, hts, hX, hbl, hlocks, hgv⟩ := id C0
  have hA : ∀ q : Nat, s.heap.size ≤ q → (fun q : Nat => s.heap.size ≤ q) q := fun _ h => h
  have hbA : ¬ (fun q : Nat => s.heap.size ≤ q) b := Nat.not_le.mpr hbl
  have t_ := t_law_20
  have hts := fun w (h : w ∈ v_law_20) => hts w (t_ w h).1
  have mw : ∀ w ∈ e_law_20, w ∈ v_law_20 := fun w h => List.mem_append_left _ h
  have j_Y10_appeal : ∀ w ∈ v_Y10_appeal, w ∈ v_law_20 := fun w h => List.mem_append_right _ (List.mem_append_left _ h)
  have j_X12_appeal : ∀ w ∈ v_X12_appeal, w ∈ v_law_20 := fun w h => List.mem_append_right _ (List.mem_append_right _ (List.mem_append_left _ h))
  intro S ad M H locs ls hRL hKI hMI hP hD hS hl
  have hk7 := ki7 hKI
  refine lv_aload_n hx hb dL_law_712 rfl (lv_at hl 2 rfl) ?_
  refine lv_aload_n hx hb dL_law_713 rfl (lv_at hl 3 rfl) ?_
  refine lv_iload_n hx hb dL_law_714 rfl (lv_at hl 0 rfl) ?_
  refine lv_iconst (v := 1) hx hb dL_law_715 (by decide) ?_
  refine lv_iadd hx hb dL_law_716 ?_
  refine va_sld hx hb hX hbl hbA hS (hin 1 (by decide) (by decide)) dL_law_717 ?_
  obtain ⟨a1, e_1⟩ : ∃ y : Int32, xs (i + 1).toNatClampNeg = y := ⟨_, rfl⟩
  refine wTop (v1 := .int a1) (congrArg Value.int e_1) ?_
  obtain ⟨v_, S2, ef, hp_, hKI2, en_⟩ := k_appeal hKI a1
  have bd_ := ki_bd hKI2
  refine lGoL (w1 := fun u : Cst × (Nat → Nat) => wsC K u.2 u.1) (wc := wsC K ad S) (wr := mW K m0 gm h1 g1 h2 g2 M) (va_runV (As := [.int a1]) (rest := []) ⟨hx, hb, hml, hown, hts⟩ (c_Y10_appeal l G K ad S 82 S2.1 S2.2.1 a1 _) (cwV 1 hts (wGV t_ (mw (.methodLink RL 97 yX10_appeal) (List.mem_of_getElem? (i := 0) rfl)) (mw (.instanceMethod yX10_appeal) (List.mem_of_getElem? (i := 1) rfl)) (mw (.selects RX10 yX10_appeal yX10_appeal) (List.mem_of_getElem? (i := 2) rfl)) (mw (.initialized RX10) (List.mem_of_getElem? (i := 3) rfl)) j_Y10_appeal) rfl rfl rfl (by decide +kernel) ⟨Nat.le_of_ble_eq_true rfl, Nat.le_of_ble_eq_true rfl⟩) (cPV hK hE (pL hP) (dL hD) 7 rfl (at_7 hk7) ⟨⟨en_.1.1, en_.1.2⟩, hk7, hp_ _ _ (Nat.le_refl _) (Nat.le_refl _)⟩) rfl rfl hl.1 rfl (lv_room (Nat.le_of_ble_eq_true rfl)) dL_law_718 ⟨by show S.1 + CM + (S2.1 - S.1) ≤ 600000; have := en_.1.1; omega, by show S.2.1 + SM + (S2.2.1 - S.2.1) ≤ 7302249; have := en_.1.2; omega⟩) hP hD hS hA (fun r u H locs hv hP hD hS => ?_)
  obtain ⟨S3, ad1⟩ := u
  obtain ⟨hv, -, ha⟩ := hv
  have hv : (r, S3) = (v_, S2) := hv.trans ef
  obtain ⟨rfl, rfl⟩ := Prod.mk.inj hv
  have ha82 : ad1 82 = ad 82 := ha 82 hk7.1
  have hP : va_P G vwCl (wsC K ad1 S3 ++ mW K m0 gm h1 g1 h2 g2 M) H := hP
  have hD : va_D (fun q : Nat => s.heap.size ≤ q) (wsC K ad1 S3 ++ mW K m0 gm h1 g1 h2 g2 M) := hD
  rw [← ha82] at hl
  refine cCells (cells' := S3.1 + CM) (slots' := S3.2.1 + SM) (by have := en_.1.1; omega) (by have := en_.1.2; omega) ?_
  refine lv_pop hx hb dL_law_721 rfl ?_
  refine lv_aload_n hx hb dL_law_722 rfl (lv_at hl 1 rfl) ?_
  refine lv_aload_n hx hb dL_law_723 rfl (lv_at hl 3 rfl) ?_
  refine lv_iload_n hx hb dL_law_724 rfl (lv_at hl 0 rfl) ?_
  refine lv_iconst (v := 1) hx hb dL_law_725 (by decide) ?_
  refine lv_iadd hx hb dL_law_726 ?_
  refine va_sld hx hb hX hbl hbA hS (hin 1 (by decide) (by decide)) dL_law_727 ?_
  refine wTop (v1 := .int a1) (congrArg Value.int e_1) ?_
  obtain ⟨hpm, hMI2⟩ := m_appeal hMI a1
  have bd3_ := ki_bd hKI2
  refine lGoR (w1 := fun u : MS => mW K m0 gm h1 g1 h2 g2 u) (wa := wsC K ad1 S3) (wc := mW K m0 gm h1 g1 h2 g2 M) (va_runV (As := [.int a1]) (rest := []) ⟨hx, hb, hml, hown, hts⟩ (c_X12_appeal l G K m0 gm h1 g1 h2 g2 M a1 _) (cwV 1 hts (wGV t_ (mw (.methodLink RL 100 yX12_appeal) (List.mem_of_getElem? (i := 4) rfl)) (mw (.instanceMethod yX12_appeal) (List.mem_of_getElem? (i := 5) rfl)) (mw (.selects RX12 yX12_appeal yX12_appeal) (List.mem_of_getElem? (i := 6) rfl)) (mw (.initialized RX12) (List.mem_of_getElem? (i := 7) rfl)) j_X12_appeal) rfl rfl rfl (by decide +kernel) ⟨Nat.le_of_ble_eq_true rfl, Nat.le_of_ble_eq_true rfl⟩) (mPVm hK hE (pR hP) (dR hD) hpm) rfl rfl hl.1 rfl (lv_room (Nat.le_of_ble_eq_true rfl)) dL_law_728 ⟨by show S3.1 + CM + 0 ≤ 600000; omega, by show S3.2.1 + SM + 0 ≤ 7302249; omega⟩) hP hD hS hA (fun r2 u2 H locs hv2 hP hD hS => ?_)
  have eu2 : u2 = (f_X12_appeal M a1).2 := congrArg Prod.snd hv2
  have er2 : r2 = (f_X12_appeal M a1).1 := congrArg Prod.fst hv2
  rw [← eu2] at hMI2
  refine lv_pop hx hb dL_law_731 rfl ?_
  refine lv_goto (tgt := 1267) hx hb dL_law_732 (by decide) ?_
  have hRL2 : RQ S3 u2 := by
    rw [eu2]
    exact rl_appeal hRL hKI hMI a1 ef
  exact next S3 ad1 u2 H locs ls hRL2 hKI2 hMI2 hP hD hS (lv_sub hl [0, 1, 2, 3] rfl)
