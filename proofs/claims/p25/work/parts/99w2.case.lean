def e_law_7 : List Cond := [.methodLink RL 43 yX10_floor, .instanceMethod yX10_floor, .selects RX10 yX10_floor yX10_floor, .initialized RX10, .methodLink RL 46 yX12_floor, .instanceMethod yX12_floor, .selects RX12 yX12_floor yX12_floor, .initialized RX12]
def v_law_7 : List Cond := (e_law_7 ++ (v_Y10_floor ++ (v_X12_floor ++ [])))
theorem te_law_7 : GoodIn lw_tbl e_law_7 := wGc zc940 (wGc zc939 (wGc zc938 (wGc zc759 (wGc zc937 (wGc zc936 (wGc zc935 (wGc zc886 (wG0))))))))
theorem t_law_7 : GoodIn lw_tbl v_law_7 := wGa te_law_7 (wGa t_Y10_floor (wGa t_X12_floor (wG0)))
set_option maxHeartbeats 4000000 in
set_option maxRecDepth 100000 in
theorem law_7 {p : Program} {l : Launch} {e : Env} {s : State} {m : MethodId} {below : List Frame} {meth : Method} {c : Code} {b L : Nat} {xs : Nat → Int32} (C0 : lw_At p s m meth c b L xs) {G : va_G} {K : Nat → ClassId} (hK : va_K G vwCl (wTY K) s) (hE : wE s) {nt : Nat} (hN : zst nt (fun q : Nat => s.heap.size ≤ q) s s.heap) {m0 h1 h2 : Nat} {gm g1 g2 : Nat → Nat} {CM SM : Nat} (hCM : CM ≤ 10000) (hSM : SM ≤ 1000000) {i : Int32} (hin : ∀ j : Int32, 0 ≤ j.toInt → j.toInt ≤ 6 → vp_in (i + j) L) (next : lInv p l e s m below meth c b G K m0 gm h1 g1 h2 g2 CM SM 1267 i) : lInv p l e s m below meth c b G K m0 gm h1 g1 h2 g2 CM SM 383 i := by
  obtain ⟨hx, hb, hr, hml, hown, hts, hX, hbl, hlocks, hgv⟩ := id C0
  have hA : ∀ q : Nat, s.heap.size ≤ q → (fun q : Nat => s.heap.size ≤ q) q := fun _ h => h
  have hbA : ¬ (fun q : Nat => s.heap.size ≤ q) b := Nat.not_le.mpr hbl
  have t_ := t_law_7
  have hts := fun w (h : w ∈ v_law_7) => hts w (t_ w h).1
  have mw : ∀ w ∈ e_law_7, w ∈ v_law_7 := fun w h => List.mem_append_left _ h
  have j_Y10_floor : ∀ w ∈ v_Y10_floor, w ∈ v_law_7 := fun w h => List.mem_append_right _ (List.mem_append_left _ h)
  have j_X12_floor : ∀ w ∈ v_X12_floor, w ∈ v_law_7 := fun w h => List.mem_append_right _ (List.mem_append_right _ (List.mem_append_left _ h))
  intro S ad M H locs ls hRL hKI hMI hP hD hS hl
  have hk7 := ki7 hKI
  refine lv_aload_n hx hb dL_law_383 rfl (lv_at hl 2 rfl) ?_
  refine lv_aload_n hx hb dL_law_384 rfl (lv_at hl 3 rfl) ?_
  refine lv_iload_n hx hb dL_law_385 rfl (lv_at hl 0 rfl) ?_
  refine lv_iconst (v := 1) hx hb dL_law_386 (by decide) ?_
  refine lv_iadd hx hb dL_law_387 ?_
  refine va_sld hx hb hX hbl hbA hS (hin 1 (by decide) (by decide)) dL_law_388 ?_
  obtain ⟨a1, e_1⟩ : ∃ y : Int32, xs (i + 1).toNatClampNeg = y := ⟨_, rfl⟩
  refine wTop (v1 := .int a1) (congrArg Value.int e_1) ?_
  obtain ⟨v_, S2, ef, hp_, hKI2, en_⟩ := k_floor hKI a1
  have bd_ := ki_bd hKI2
  refine lGoL (w1 := fun u : Cst × (Nat → Nat) => wsC K u.2 u.1) (wc := wsC K ad S) (wr := mW K m0 gm h1 g1 h2 g2 M) (va_runV (As := [.int a1]) (rest := []) ⟨hx, hb, hml, hown, hts⟩ (c_Y10_floor l G K ad S 82 S2.1 S2.2.1 a1 _) (cwV 1 hts (wGV t_ (mw (.methodLink RL 43 yX10_floor) (List.mem_of_getElem? (i := 0) rfl)) (mw (.instanceMethod yX10_floor) (List.mem_of_getElem? (i := 1) rfl)) (mw (.selects RX10 yX10_floor yX10_floor) (List.mem_of_getElem? (i := 2) rfl)) (mw (.initialized RX10) (List.mem_of_getElem? (i := 3) rfl)) j_Y10_floor) rfl rfl rfl (by decide +kernel) ⟨Nat.le_of_ble_eq_true rfl, Nat.le_of_ble_eq_true rfl⟩) (cPV hK hE (pL hP) (dL hD) 7 rfl (at_7 hk7) ⟨⟨en_.1.1, en_.1.2⟩, hk7, hp_ _ _ (Nat.le_refl _) (Nat.le_refl _)⟩) rfl rfl hl.1 rfl (lv_room (Nat.le_of_ble_eq_true rfl)) dL_law_389 ⟨by show S.1 + CM + (S2.1 - S.1) ≤ 600000; have := en_.1.1; omega, by show S.2.1 + SM + (S2.2.1 - S.2.1) ≤ 7302249; have := en_.1.2; omega⟩) hP hD hS hA (fun r u H locs hv hP hD hS => ?_)
  obtain ⟨S3, ad1⟩ := u
  obtain ⟨hv, -, ha⟩ := hv
  have hv : (r, S3) = (v_, S2) := hv.trans ef
  obtain ⟨rfl, rfl⟩ := Prod.mk.inj hv
  have ha82 : ad1 82 = ad 82 := ha 82 hk7.1
  have hP : va_P G vwCl (wsC K ad1 S3 ++ mW K m0 gm h1 g1 h2 g2 M) H := hP
  have hD : va_D (fun q : Nat => s.heap.size ≤ q) (wsC K ad1 S3 ++ mW K m0 gm h1 g1 h2 g2 M) := hD
  rw [← ha82] at hl
  refine cCells (cells' := S3.1 + CM) (slots' := S3.2.1 + SM) (by have := en_.1.1; omega) (by have := en_.1.2; omega) ?_
  refine lv_pop hx hb dL_law_392 rfl ?_
  refine lv_aload_n hx hb dL_law_393 rfl (lv_at hl 1 rfl) ?_
  refine lv_aload_n hx hb dL_law_394 rfl (lv_at hl 3 rfl) ?_
  refine lv_iload_n hx hb dL_law_395 rfl (lv_at hl 0 rfl) ?_
  refine lv_iconst (v := 1) hx hb dL_law_396 (by decide) ?_
  refine lv_iadd hx hb dL_law_397 ?_
  refine va_sld hx hb hX hbl hbA hS (hin 1 (by decide) (by decide)) dL_law_398 ?_
  refine wTop (v1 := .int a1) (congrArg Value.int e_1) ?_
  obtain ⟨hpm, hMI2⟩ := m_floor hMI a1
  have bd3_ := ki_bd hKI2
  refine lGoR (w1 := fun u : MS => mW K m0 gm h1 g1 h2 g2 u) (wa := wsC K ad1 S3) (wc := mW K m0 gm h1 g1 h2 g2 M) (va_runV (As := [.int a1]) (rest := []) ⟨hx, hb, hml, hown, hts⟩ (c_X12_floor l G K m0 gm h1 g1 h2 g2 M a1 _) (cwV 1 hts (wGV t_ (mw (.methodLink RL 46 yX12_floor) (List.mem_of_getElem? (i := 4) rfl)) (mw (.instanceMethod yX12_floor) (List.mem_of_getElem? (i := 5) rfl)) (mw (.selects RX12 yX12_floor yX12_floor) (List.mem_of_getElem? (i := 6) rfl)) (mw (.initialized RX12) (List.mem_of_getElem? (i := 7) rfl)) j_X12_floor) rfl rfl rfl (by decide +kernel) ⟨Nat.le_of_ble_eq_true rfl, Nat.le_of_ble_eq_true rfl⟩) (mPVm hK hE (pR hP) (dR hD) hpm) rfl rfl hl.1 rfl (lv_room (Nat.le_of_ble_eq_true rfl)) dL_law_399 ⟨by show S3.1 + CM + 0 ≤ 600000; omega, by show S3.2.1 + SM + 0 ≤ 7302249; omega⟩) hP hD hS hA (fun r2 u2 H locs hv2 hP hD hS => ?_)
  have eu2 : u2 = (f_X12_floor M a1).2 := congrArg Prod.snd hv2
  have er2 : r2 = (f_X12_floor M a1).1 := congrArg Prod.fst hv2
  rw [← eu2] at hMI2
  refine lv_pop hx hb dL_law_402 rfl ?_
  refine lv_goto (tgt := 1267) hx hb dL_law_403 (by decide) ?_
  have hRL2 : RQ S3 u2 := by
    rw [eu2]
    exact rl_floor hRL hKI hMI a1 ef
  exact next S3 ad1 u2 H locs ls hRL2 hKI2 hMI2 hP hD hS (lv_sub hl [0, 1, 2, 3] rfl)
def e_law_8 : List Cond := [.methodLink RL 47 yX10_cede, .instanceMethod yX10_cede, .selects RX10 yX10_cede yX10_cede, .initialized RX10, .methodLink RL 51 yX12_cede, .instanceMethod yX12_cede, .selects RX12 yX12_cede yX12_cede, .initialized RX12]
def v_law_8 : List Cond := (e_law_8 ++ (v_Y10_cede ++ (v_X12_cede ++ [])))
theorem te_law_8 : GoodIn lw_tbl e_law_8 := wGc zc946 (wGc zc945 (wGc zc944 (wGc zc759 (wGc zc943 (wGc zc942 (wGc zc941 (wGc zc886 (wG0))))))))
theorem t_law_8 : GoodIn lw_tbl v_law_8 := wGa te_law_8 (wGa t_Y10_cede (wGa t_X12_cede (wG0)))
set_option maxHeartbeats 4000000 in
set_option maxRecDepth 100000 in
theorem law_8 {p : Program} {l : Launch} {e : Env} {s : State} {m : MethodId} {below : List Frame} {meth : Method} {c : Code} {b L : Nat} {xs : Nat → Int32} (C0 : lw_At p s m meth c b L xs) {G : va_G} {K : Nat → ClassId} (hK : va_K G vwCl (wTY K) s) (hE : wE s) {nt : Nat} (hN : zst nt (fun q : Nat => s.heap.size ≤ q) s s.heap) {m0 h1 h2 : Nat} {gm g1 g2 : Nat → Nat} {CM SM : Nat} (hCM : CM ≤ 10000) (hSM : SM ≤ 1000000) {i : Int32} (hin : ∀ j : Int32, 0 ≤ j.toInt → j.toInt ≤ 6 → vp_in (i + j) L) (next : lInv p l e s m below meth c b G K m0 gm h1 g1 h2 g2 CM SM 1267 i) : lInv p l e s m below meth c b G K m0 gm h1 g1 h2 g2 CM SM 406 i := by
  obtain ⟨hx, hb, hr, hml, hown, hts, hX, hbl, hlocks, hgv⟩ := id C0
  have hA : ∀ q : Nat, s.heap.size ≤ q → (fun q : Nat => s.heap.size ≤ q) q := fun _ h => h
  have hbA : ¬ (fun q : Nat => s.heap.size ≤ q) b := Nat.not_le.mpr hbl
  have t_ := t_law_8
  have hts := fun w (h : w ∈ v_law_8) => hts w (t_ w h).1
  have mw : ∀ w ∈ e_law_8, w ∈ v_law_8 := fun w h => List.mem_append_left _ h
  have j_Y10_cede : ∀ w ∈ v_Y10_cede, w ∈ v_law_8 := fun w h => List.mem_append_right _ (List.mem_append_left _ h)
  have j_X12_cede : ∀ w ∈ v_X12_cede, w ∈ v_law_8 := fun w h => List.mem_append_right _ (List.mem_append_right _ (List.mem_append_left _ h))
  intro S ad M H locs ls hRL hKI hMI hP hD hS hl
  have hk7 := ki7 hKI
  refine lv_aload_n hx hb dL_law_406 rfl (lv_at hl 2 rfl) ?_
  obtain ⟨v_, S2, ef, hp_, hKI2, en_⟩ := k_cede hKI
  have bd_ := ki_bd hKI2
  refine lGoL (w1 := fun u : Cst × (Nat → Nat) => wsC K u.2 u.1) (wc := wsC K ad S) (wr := mW K m0 gm h1 g1 h2 g2 M) (va_runV (As := []) (rest := []) ⟨hx, hb, hml, hown, hts⟩ (c_Y10_cede l G K ad S 82 S2.1 S2.2.1 _) (cwV 0 hts (wGV t_ (mw (.methodLink RL 47 yX10_cede) (List.mem_of_getElem? (i := 0) rfl)) (mw (.instanceMethod yX10_cede) (List.mem_of_getElem? (i := 1) rfl)) (mw (.selects RX10 yX10_cede yX10_cede) (List.mem_of_getElem? (i := 2) rfl)) (mw (.initialized RX10) (List.mem_of_getElem? (i := 3) rfl)) j_Y10_cede) rfl rfl rfl (by decide +kernel) ⟨Nat.le_of_ble_eq_true rfl, Nat.le_of_ble_eq_true rfl⟩) (cPV hK hE (pL hP) (dL hD) 7 rfl (at_7 hk7) ⟨⟨en_.1.1, en_.1.2⟩, hk7, hp_ _ _ (Nat.le_refl _) (Nat.le_refl _)⟩) rfl rfl hl.1 rfl (lv_room (Nat.le_of_ble_eq_true rfl)) dL_law_407 ⟨by show S.1 + CM + (S2.1 - S.1) ≤ 600000; have := en_.1.1; omega, by show S.2.1 + SM + (S2.2.1 - S.2.1) ≤ 7302249; have := en_.1.2; omega⟩) hP hD hS hA (fun r u H locs hv hP hD hS => ?_)
  obtain ⟨S3, ad1⟩ := u
  obtain ⟨hv, -, ha⟩ := hv
  have hv : (r, S3) = (v_, S2) := hv.trans ef
  obtain ⟨rfl, rfl⟩ := Prod.mk.inj hv
  have ha82 : ad1 82 = ad 82 := ha 82 hk7.1
  have hP : va_P G vwCl (wsC K ad1 S3 ++ mW K m0 gm h1 g1 h2 g2 M) H := hP
  have hD : va_D (fun q : Nat => s.heap.size ≤ q) (wsC K ad1 S3 ++ mW K m0 gm h1 g1 h2 g2 M) := hD
  rw [← ha82] at hl
  refine cCells (cells' := S3.1 + CM) (slots' := S3.2.1 + SM) (by have := en_.1.1; omega) (by have := en_.1.2; omega) ?_
  refine lv_pop hx hb dL_law_410 rfl ?_
  refine lv_aload_n hx hb dL_law_411 rfl (lv_at hl 1 rfl) ?_
  obtain ⟨hpm, hMI2⟩ := m_cede hMI
  have bd3_ := ki_bd hKI2
  refine lGoR (w1 := fun u : MS => mW K m0 gm h1 g1 h2 g2 u) (wa := wsC K ad1 S3) (wc := mW K m0 gm h1 g1 h2 g2 M) (va_runV (As := []) (rest := []) ⟨hx, hb, hml, hown, hts⟩ (c_X12_cede l G K m0 gm h1 g1 h2 g2 M _) (cwV 0 hts (wGV t_ (mw (.methodLink RL 51 yX12_cede) (List.mem_of_getElem? (i := 4) rfl)) (mw (.instanceMethod yX12_cede) (List.mem_of_getElem? (i := 5) rfl)) (mw (.selects RX12 yX12_cede yX12_cede) (List.mem_of_getElem? (i := 6) rfl)) (mw (.initialized RX12) (List.mem_of_getElem? (i := 7) rfl)) j_X12_cede) rfl rfl rfl (by decide +kernel) ⟨Nat.le_of_ble_eq_true rfl, Nat.le_of_ble_eq_true rfl⟩) (mPVm hK hE (pR hP) (dR hD) hpm) rfl rfl hl.1 rfl (lv_room (Nat.le_of_ble_eq_true rfl)) dL_law_412 ⟨by show S3.1 + CM + 0 ≤ 600000; omega, by show S3.2.1 + SM + 0 ≤ 7302249; omega⟩) hP hD hS hA (fun r2 u2 H locs hv2 hP hD hS => ?_)
  have eu2 : u2 = (f_X12_cede M).2 := congrArg Prod.snd hv2
  have er2 : r2 = (f_X12_cede M).1 := congrArg Prod.fst hv2
  rw [← eu2] at hMI2
  refine lv_pop hx hb dL_law_415 rfl ?_
  refine lv_goto (tgt := 1267) hx hb dL_law_416 (by decide) ?_
  have hRL2 : RQ S3 u2 := by
    rw [eu2]
    exact rl_cede hRL hKI hMI ef
  exact next S3 ad1 u2 H locs ls hRL2 hKI2 hMI2 hP hD hS (lv_sub hl [0, 1, 2, 3] rfl)
def e_law_9 : List Cond := [.methodLink RL 52 yX10_debate, .instanceMethod yX10_debate, .selects RX10 yX10_debate yX10_debate, .initialized RX10, .methodLink RL 55 yX12_debate, .instanceMethod yX12_debate, .selects RX12 yX12_debate yX12_debate, .initialized RX12]
def v_law_9 : List Cond := (e_law_9 ++ (v_Y10_debate ++ (v_X12_debate ++ [])))
theorem te_law_9 : GoodIn lw_tbl e_law_9 := wGc zc952 (wGc zc951 (wGc zc950 (wGc zc759 (wGc zc949 (wGc zc948 (wGc zc947 (wGc zc886 (wG0))))))))
theorem t_law_9 : GoodIn lw_tbl v_law_9 := wGa te_law_9 (wGa t_Y10_debate (wGa t_X12_debate (wG0)))
set_option maxHeartbeats 4000000 in
set_option maxRecDepth 100000 in
theorem law_9 {p : Program} {l : Launch} {e : Env} {s : State} {m : MethodId} {below : List Frame} {meth : Method} {c : Code} {b L : Nat} {xs : Nat → Int32} (C0 : lw_At p s m meth c b L xs) {G : va_G} {K : Nat → ClassId} (hK : va_K G vwCl (wTY K) s) (hE : wE s) {nt : Nat} (hN : zst nt (fun q : Nat => s.heap.size ≤ q) s s.heap) {m0 h1 h2 : Nat} {gm g1 g2 : Nat → Nat} {CM SM : Nat} (hCM : CM ≤ 10000) (hSM : SM ≤ 1000000) {i : Int32} (hin : ∀ j : Int32, 0 ≤ j.toInt → j.toInt ≤ 6 → vp_in (i + j) L) (next : lInv p l e s m below meth c b G K m0 gm h1 g1 h2 g2 CM SM 1267 i) : lInv p l e s m below meth c b G K m0 gm h1 g1 h2 g2 CM SM 419 i := by
  obtain ⟨hx, hb, hr, hml, hown, hts, hX, hbl, hlocks, hgv⟩ := id C0
  have hA : ∀ q : Nat, s.heap.size ≤ q → (fun q : Nat => s.heap.size ≤ q) q := fun _ h => h
  have hbA : ¬ (fun q : Nat => s.heap.size ≤ q) b := Nat.not_le.mpr hbl
  have t_ := t_law_9
  have hts := fun w (h : w ∈ v_law_9) => hts w (t_ w h).1
  have mw : ∀ w ∈ e_law_9, w ∈ v_law_9 := fun w h => List.mem_append_left _ h
  have j_Y10_debate : ∀ w ∈ v_Y10_debate, w ∈ v_law_9 := fun w h => List.mem_append_right _ (List.mem_append_left _ h)
  have j_X12_debate : ∀ w ∈ v_X12_debate, w ∈ v_law_9 := fun w h => List.mem_append_right _ (List.mem_append_right _ (List.mem_append_left _ h))
  intro S ad M H locs ls hRL hKI hMI hP hD hS hl
  have hk7 := ki7 hKI
  refine lv_aload_n hx hb dL_law_419 rfl (lv_at hl 2 rfl) ?_
  refine lv_aload_n hx hb dL_law_420 rfl (lv_at hl 3 rfl) ?_
  refine lv_iload_n hx hb dL_law_421 rfl (lv_at hl 0 rfl) ?_
  refine lv_iconst (v := 1) hx hb dL_law_422 (by decide) ?_
  refine lv_iadd hx hb dL_law_423 ?_
  refine va_sld hx hb hX hbl hbA hS (hin 1 (by decide) (by decide)) dL_law_424 ?_
  obtain ⟨a1, e_1⟩ : ∃ y : Int32, xs (i + 1).toNatClampNeg = y := ⟨_, rfl⟩
  refine wTop (v1 := .int a1) (congrArg Value.int e_1) ?_
  obtain ⟨v_, S2, ef, hp_, hKI2, en_⟩ := k_debate hKI a1
  have bd_ := ki_bd hKI2
  refine lGoL (w1 := fun u : Cst × (Nat → Nat) => wsC K u.2 u.1) (wc := wsC K ad S) (wr := mW K m0 gm h1 g1 h2 g2 M) (va_runV (As := [.int a1]) (rest := []) ⟨hx, hb, hml, hown, hts⟩ (c_Y10_debate l G K ad S 82 S2.1 S2.2.1 a1 _) (cwV 1 hts (wGV t_ (mw (.methodLink RL 52 yX10_debate) (List.mem_of_getElem? (i := 0) rfl)) (mw (.instanceMethod yX10_debate) (List.mem_of_getElem? (i := 1) rfl)) (mw (.selects RX10 yX10_debate yX10_debate) (List.mem_of_getElem? (i := 2) rfl)) (mw (.initialized RX10) (List.mem_of_getElem? (i := 3) rfl)) j_Y10_debate) rfl rfl rfl (by decide +kernel) ⟨Nat.le_of_ble_eq_true rfl, Nat.le_of_ble_eq_true rfl⟩) (cPV hK hE (pL hP) (dL hD) 7 rfl (at_7 hk7) ⟨⟨en_.1.1, en_.1.2⟩, hk7, hp_ _ _ (Nat.le_refl _) (Nat.le_refl _)⟩) rfl rfl hl.1 rfl (lv_room (Nat.le_of_ble_eq_true rfl)) dL_law_425 ⟨by show S.1 + CM + (S2.1 - S.1) ≤ 600000; have := en_.1.1; omega, by show S.2.1 + SM + (S2.2.1 - S.2.1) ≤ 7302249; have := en_.1.2; omega⟩) hP hD hS hA (fun r u H locs hv hP hD hS => ?_)
  obtain ⟨S3, ad1⟩ := u
  obtain ⟨hv, -, ha⟩ := hv
  have hv : (r, S3) = (v_, S2) := hv.trans ef
  obtain ⟨rfl, rfl⟩ := Prod.mk.inj hv
  have ha82 : ad1 82 = ad 82 := ha 82 hk7.1
  have hP : va_P G vwCl (wsC K ad1 S3 ++ mW K m0 gm h1 g1 h2 g2 M) H := hP
  have hD : va_D (fun q : Nat => s.heap.size ≤ q) (wsC K ad1 S3 ++ mW K m0 gm h1 g1 h2 g2 M) := hD
  rw [← ha82] at hl
  refine cCells (cells' := S3.1 + CM) (slots' := S3.2.1 + SM) (by have := en_.1.1; omega) (by have := en_.1.2; omega) ?_
  refine lv_pop hx hb dL_law_428 rfl ?_
  refine lv_aload_n hx hb dL_law_429 rfl (lv_at hl 1 rfl) ?_
  refine lv_aload_n hx hb dL_law_430 rfl (lv_at hl 3 rfl) ?_
  refine lv_iload_n hx hb dL_law_431 rfl (lv_at hl 0 rfl) ?_
  refine lv_iconst (v := 1) hx hb dL_law_432 (by decide) ?_
  refine lv_iadd hx hb dL_law_433 ?_
  refine va_sld hx hb hX hbl hbA hS (hin 1 (by decide) (by decide)) dL_law_434 ?_
  refine wTop (v1 := .int a1) (congrArg Value.int e_1) ?_
  obtain ⟨hpm, hMI2⟩ := m_debate hMI a1
  have bd3_ := ki_bd hKI2
  refine lGoR (w1 := fun u : MS => mW K m0 gm h1 g1 h2 g2 u) (wa := wsC K ad1 S3) (wc := mW K m0 gm h1 g1 h2 g2 M) (va_runV (As := [.int a1]) (rest := []) ⟨hx, hb, hml, hown, hts⟩ (c_X12_debate l G K m0 gm h1 g1 h2 g2 M a1 _) (cwV 1 hts (wGV t_ (mw (.methodLink RL 55 yX12_debate) (List.mem_of_getElem? (i := 4) rfl)) (mw (.instanceMethod yX12_debate) (List.mem_of_getElem? (i := 5) rfl)) (mw (.selects RX12 yX12_debate yX12_debate) (List.mem_of_getElem? (i := 6) rfl)) (mw (.initialized RX12) (List.mem_of_getElem? (i := 7) rfl)) j_X12_debate) rfl rfl rfl (by decide +kernel) ⟨Nat.le_of_ble_eq_true rfl, Nat.le_of_ble_eq_true rfl⟩) (mPVm hK hE (pR hP) (dR hD) hpm) rfl rfl hl.1 rfl (lv_room (Nat.le_of_ble_eq_true rfl)) dL_law_435 ⟨by show S3.1 + CM + 0 ≤ 600000; omega, by show S3.2.1 + SM + 0 ≤ 7302249; omega⟩) hP hD hS hA (fun r2 u2 H locs hv2 hP hD hS => ?_)
  have eu2 : u2 = (f_X12_debate M a1).2 := congrArg Prod.snd hv2
  have er2 : r2 = (f_X12_debate M a1).1 := congrArg Prod.fst hv2
  rw [← eu2] at hMI2
  refine lv_pop hx hb dL_law_438 rfl ?_
  refine lv_goto (tgt := 1267) hx hb dL_law_439 (by decide) ?_
  have hRL2 : RQ S3 u2 := by
    rw [eu2]
    exact rl_debate hRL hKI hMI a1 ef
  exact next S3 ad1 u2 H locs ls hRL2 hKI2 hMI2 hP hD hS (lv_sub hl [0, 1, 2, 3] rfl)
def e_law_10 : List Cond := [.methodLink RL 56 yX10_draft, .instanceMethod yX10_draft, .selects RX10 yX10_draft yX10_draft, .initialized RX10, .methodLink RL 59 yX12_draft, .instanceMethod yX12_draft, .selects RX12 yX12_draft yX12_draft, .initialized RX12]
def v_law_10 : List Cond := (e_law_10 ++ (v_Y10_draft ++ (v_X12_draft ++ [])))
theorem te_law_10 : GoodIn lw_tbl e_law_10 := wGc zc958 (wGc zc957 (wGc zc956 (wGc zc759 (wGc zc955 (wGc zc954 (wGc zc953 (wGc zc886 (wG0))))))))
theorem t_law_10 : GoodIn lw_tbl v_law_10 := wGa te_law_10 (wGa t_Y10_draft (wGa t_X12_draft (wG0)))
set_option maxHeartbeats 4000000 in
set_option maxRecDepth 100000 in
theorem law_10 {p : Program} {l : Launch} {e : Env} {s : State} {m : MethodId} {below : List Frame} {meth : Method} {c : Code} {b L : Nat} {xs : Nat → Int32} (C0 : lw_At p s m meth c b L xs) {G : va_G} {K : Nat → ClassId} (hK : va_K G vwCl (wTY K) s) (hE : wE s) {nt : Nat} (hN : zst nt (fun q : Nat => s.heap.size ≤ q) s s.heap) {m0 h1 h2 : Nat} {gm g1 g2 : Nat → Nat} {CM SM : Nat} (hCM : CM ≤ 10000) (hSM : SM ≤ 1000000) {i : Int32} (hin : ∀ j : Int32, 0 ≤ j.toInt → j.toInt ≤ 6 → vp_in (i + j) L) (next : lInv p l e s m below meth c b G K m0 gm h1 g1 h2 g2 CM SM 1267 i) : lInv p l e s m below meth c b G K m0 gm h1 g1 h2 g2 CM SM 442 i := by
  obtain ⟨hx, hb, hr, hml, hown, hts, hX, hbl, hlocks, hgv⟩ := id C0
  have hA : ∀ q : Nat, s.heap.size ≤ q → (fun q : Nat => s.heap.size ≤ q) q := fun _ h => h
  have hbA : ¬ (fun q : Nat => s.heap.size ≤ q) b := Nat.not_le.mpr hbl
  have t_ := t_law_10
  have hts := fun w (h : w ∈ v_law_10) => hts w (t_ w h).1
  have mw : ∀ w ∈ e_law_10, w ∈ v_law_10 := fun w h => List.mem_append_left _ h
  have j_Y10_draft : ∀ w ∈ v_Y10_draft, w ∈ v_law_10 := fun w h => List.mem_append_right _ (List.mem_append_left _ h)
  have j_X12_draft : ∀ w ∈ v_X12_draft, w ∈ v_law_10 := fun w h => List.mem_append_right _ (List.mem_append_right _ (List.mem_append_left _ h))
  intro S ad M H locs ls hRL hKI hMI hP hD hS hl
  have hk7 := ki7 hKI
  refine lv_aload_n hx hb dL_law_442 rfl (lv_at hl 2 rfl) ?_
  refine lv_aload_n hx hb dL_law_443 rfl (lv_at hl 3 rfl) ?_
  refine lv_iload_n hx hb dL_law_444 rfl (lv_at hl 0 rfl) ?_
  refine lv_iconst (v := 1) hx hb dL_law_445 (by decide) ?_
  refine lv_iadd hx hb dL_law_446 ?_
  refine va_sld hx hb hX hbl hbA hS (hin 1 (by decide) (by decide)) dL_law_447 ?_
  obtain ⟨a1, e_1⟩ : ∃ y : Int32, xs (i + 1).toNatClampNeg = y := ⟨_, rfl⟩
  refine wTop (v1 := .int a1) (congrArg Value.int e_1) ?_
  obtain ⟨v_, S2, ef, hp_, hKI2, en_⟩ := k_draft hKI a1
  have bd_ := ki_bd hKI2
  refine lGoL (w1 := fun u : Cst × (Nat → Nat) => wsC K u.2 u.1) (wc := wsC K ad S) (wr := mW K m0 gm h1 g1 h2 g2 M) (va_runV (As := [.int a1]) (rest := []) ⟨hx, hb, hml, hown, hts⟩ (c_Y10_draft l G K ad S 82 S2.1 S2.2.1 a1 _) (cwV 1 hts (wGV t_ (mw (.methodLink RL 56 yX10_draft) (List.mem_of_getElem? (i := 0) rfl)) (mw (.instanceMethod yX10_draft) (List.mem_of_getElem? (i := 1) rfl)) (mw (.selects RX10 yX10_draft yX10_draft) (List.mem_of_getElem? (i := 2) rfl)) (mw (.initialized RX10) (List.mem_of_getElem? (i := 3) rfl)) j_Y10_draft) rfl rfl rfl (by decide +kernel) ⟨Nat.le_of_ble_eq_true rfl, Nat.le_of_ble_eq_true rfl⟩) (cPV hK hE (pL hP) (dL hD) 7 rfl (at_7 hk7) ⟨⟨en_.1.1, en_.1.2⟩, hk7, hp_ _ _ (Nat.le_refl _) (Nat.le_refl _)⟩) rfl rfl hl.1 rfl (lv_room (Nat.le_of_ble_eq_true rfl)) dL_law_448 ⟨by show S.1 + CM + (S2.1 - S.1) ≤ 600000; have := en_.1.1; omega, by show S.2.1 + SM + (S2.2.1 - S.2.1) ≤ 7302249; have := en_.1.2; omega⟩) hP hD hS hA (fun r u H locs hv hP hD hS => ?_)
  obtain ⟨S3, ad1⟩ := u
  obtain ⟨hv, -, ha⟩ := hv
  have hv : (r, S3) = (v_, S2) := hv.trans ef
  obtain ⟨rfl, rfl⟩ := Prod.mk.inj hv
  have ha82 : ad1 82 = ad 82 := ha 82 hk7.1
  have hP : va_P G vwCl (wsC K ad1 S3 ++ mW K m0 gm h1 g1 h2 g2 M) H := hP
  have hD : va_D (fun q : Nat => s.heap.size ≤ q) (wsC K ad1 S3 ++ mW K m0 gm h1 g1 h2 g2 M) := hD
  rw [← ha82] at hl
  refine cCells (cells' := S3.1 + CM) (slots' := S3.2.1 + SM) (by have := en_.1.1; omega) (by have := en_.1.2; omega) ?_
  refine lv_pop hx hb dL_law_451 rfl ?_
  refine lv_aload_n hx hb dL_law_452 rfl (lv_at hl 1 rfl) ?_
  refine lv_aload_n hx hb dL_law_453 rfl (lv_at hl 3 rfl) ?_
  refine lv_iload_n hx hb dL_law_454 rfl (lv_at hl 0 rfl) ?_
  refine lv_iconst (v := 1) hx hb dL_law_455 (by decide) ?_
  refine lv_iadd hx hb dL_law_456 ?_
  refine va_sld hx hb hX hbl hbA hS (hin 1 (by decide) (by decide)) dL_law_457 ?_
  refine wTop (v1 := .int a1) (congrArg Value.int e_1) ?_
  obtain ⟨hpm, hMI2⟩ := m_draft hMI a1
  have bd3_ := ki_bd hKI2
  refine lGoR (w1 := fun u : MS => mW K m0 gm h1 g1 h2 g2 u) (wa := wsC K ad1 S3) (wc := mW K m0 gm h1 g1 h2 g2 M) (va_runV (As := [.int a1]) (rest := []) ⟨hx, hb, hml, hown, hts⟩ (c_X12_draft l G K m0 gm h1 g1 h2 g2 M a1 _) (cwV 1 hts (wGV t_ (mw (.methodLink RL 59 yX12_draft) (List.mem_of_getElem? (i := 4) rfl)) (mw (.instanceMethod yX12_draft) (List.mem_of_getElem? (i := 5) rfl)) (mw (.selects RX12 yX12_draft yX12_draft) (List.mem_of_getElem? (i := 6) rfl)) (mw (.initialized RX12) (List.mem_of_getElem? (i := 7) rfl)) j_X12_draft) rfl rfl rfl (by decide +kernel) ⟨Nat.le_of_ble_eq_true rfl, Nat.le_of_ble_eq_true rfl⟩) (mPVm hK hE (pR hP) (dR hD) hpm) rfl rfl hl.1 rfl (lv_room (Nat.le_of_ble_eq_true rfl)) dL_law_458 ⟨by show S3.1 + CM + 0 ≤ 600000; omega, by show S3.2.1 + SM + 0 ≤ 7302249; omega⟩) hP hD hS hA (fun r2 u2 H locs hv2 hP hD hS => ?_)
  have eu2 : u2 = (f_X12_draft M a1).2 := congrArg Prod.snd hv2
  have er2 : r2 = (f_X12_draft M a1).1 := congrArg Prod.fst hv2
  rw [← eu2] at hMI2
  refine lv_pop hx hb dL_law_461 rfl ?_
  refine lv_goto (tgt := 1267) hx hb dL_law_462 (by decide) ?_
  have hRL2 : RQ S3 u2 := by
    rw [eu2]
    exact rl_draft hRL hKI hMI a1 ef
  exact next S3 ad1 u2 H locs ls hRL2 hKI2 hMI2 hP hD hS (lv_sub hl [0, 1, 2, 3] rfl)
def e_law_11 : List Cond := [.methodLink RL 60 yX10_span, .instanceMethod yX10_span, .selects RX10 yX10_span yX10_span, .initialized RX10, .methodLink RL 63 yX12_span, .instanceMethod yX12_span, .selects RX12 yX12_span yX12_span, .initialized RX12]
def v_law_11 : List Cond := (e_law_11 ++ (v_Y10_span ++ (v_X12_span ++ [])))
theorem te_law_11 : GoodIn lw_tbl e_law_11 := wGc zc964 (wGc zc963 (wGc zc962 (wGc zc759 (wGc zc961 (wGc zc960 (wGc zc959 (wGc zc886 (wG0))))))))
theorem t_law_11 : GoodIn lw_tbl v_law_11 := wGa te_law_11 (wGa t_Y10_span (wGa t_X12_span (wG0)))
set_option maxHeartbeats 4000000 in
set_option maxRecDepth 100000 in
theorem law_11 {p : Program} {l : Launch} {e : Env} {s : State} {m : MethodId} {below : List Frame} {meth : Method} {c : Code} {b L : Nat} {xs : Nat → Int32} (C0 : lw_At p s m meth c b L xs) {G : va_G} {K : Nat → ClassId} (hK : va_K G vwCl (wTY K) s) (hE : wE s) {nt : Nat} (hN : zst nt (fun q : Nat => s.heap.size ≤ q) s s.heap) {m0 h1 h2 : Nat} {gm g1 g2 : Nat → Nat} {CM SM : Nat} (hCM : CM ≤ 10000) (hSM : SM ≤ 1000000) {i : Int32} (hin : ∀ j : Int32, 0 ≤ j.toInt → j.toInt ≤ 6 → vp_in (i + j) L) (next : lInv p l e s m below meth c b G K m0 gm h1 g1 h2 g2 CM SM 1267 i) : lInv p l e s m below meth c b G K m0 gm h1 g1 h2 g2 CM SM 465 i := by
  obtain ⟨hx, hb, hr, hml, hown, hts, hX, hbl, hlocks, hgv⟩ := id C0
  have hA : ∀ q : Nat, s.heap.size ≤ q → (fun q : Nat => s.heap.size ≤ q) q := fun _ h => h
  have hbA : ¬ (fun q : Nat => s.heap.size ≤ q) b := Nat.not_le.mpr hbl
  have t_ := t_law_11
  have hts := fun w (h : w ∈ v_law_11) => hts w (t_ w h).1
  have mw : ∀ w ∈ e_law_11, w ∈ v_law_11 := fun w h => List.mem_append_left _ h
  have j_Y10_span : ∀ w ∈ v_Y10_span, w ∈ v_law_11 := fun w h => List.mem_append_right _ (List.mem_append_left _ h)
  have j_X12_span : ∀ w ∈ v_X12_span, w ∈ v_law_11 := fun w h => List.mem_append_right _ (List.mem_append_right _ (List.mem_append_left _ h))
  intro S ad M H locs ls hRL hKI hMI hP hD hS hl
  have hk7 := ki7 hKI
  refine lv_aload_n hx hb dL_law_465 rfl (lv_at hl 2 rfl) ?_
  refine lv_aload_n hx hb dL_law_466 rfl (lv_at hl 3 rfl) ?_
  refine lv_iload_n hx hb dL_law_467 rfl (lv_at hl 0 rfl) ?_
  refine lv_iconst (v := 1) hx hb dL_law_468 (by decide) ?_
  refine lv_iadd hx hb dL_law_469 ?_
  refine va_sld hx hb hX hbl hbA hS (hin 1 (by decide) (by decide)) dL_law_470 ?_
  obtain ⟨a1, e_1⟩ : ∃ y : Int32, xs (i + 1).toNatClampNeg = y := ⟨_, rfl⟩
  refine wTop (v1 := .int a1) (congrArg Value.int e_1) ?_
  refine lv_aload_n hx hb dL_law_471 rfl (lv_at hl 3 rfl) ?_
  refine lv_iload_n hx hb dL_law_472 rfl (lv_at hl 0 rfl) ?_
  refine lv_iconst (v := 2) hx hb dL_law_473 (by decide) ?_
  refine lv_iadd hx hb dL_law_474 ?_
  refine va_sld hx hb hX hbl hbA hS (hin 2 (by decide) (by decide)) dL_law_475 ?_
  obtain ⟨a2, e_2⟩ : ∃ y : Int32, xs (i + 2).toNatClampNeg = y := ⟨_, rfl⟩
  refine wTop (v1 := .int a2) (congrArg Value.int e_2) ?_
  obtain ⟨v_, S2, ef, hp_, hKI2, en_⟩ := k_span hKI a1 a2
  have bd_ := ki_bd hKI2
  refine lGoL (w1 := fun u : Cst × (Nat → Nat) => wsC K u.2 u.1) (wc := wsC K ad S) (wr := mW K m0 gm h1 g1 h2 g2 M) (va_runV (As := [.int a1, .int a2]) (rest := []) ⟨hx, hb, hml, hown, hts⟩ (c_Y10_span l G K ad S 82 S2.1 S2.2.1 a1 a2 _) (cwV 2 hts (wGV t_ (mw (.methodLink RL 60 yX10_span) (List.mem_of_getElem? (i := 0) rfl)) (mw (.instanceMethod yX10_span) (List.mem_of_getElem? (i := 1) rfl)) (mw (.selects RX10 yX10_span yX10_span) (List.mem_of_getElem? (i := 2) rfl)) (mw (.initialized RX10) (List.mem_of_getElem? (i := 3) rfl)) j_Y10_span) rfl rfl rfl (by decide +kernel) ⟨Nat.le_of_ble_eq_true rfl, Nat.le_of_ble_eq_true rfl⟩) (cPV hK hE (pL hP) (dL hD) 7 rfl (at_7 hk7) ⟨⟨en_.1.1, en_.1.2⟩, hk7, hp_ _ _ (Nat.le_refl _) (Nat.le_refl _)⟩) rfl rfl hl.1 rfl (lv_room (Nat.le_of_ble_eq_true rfl)) dL_law_476 ⟨by show S.1 + CM + (S2.1 - S.1) ≤ 600000; have := en_.1.1; omega, by show S.2.1 + SM + (S2.2.1 - S.2.1) ≤ 7302249; have := en_.1.2; omega⟩) hP hD hS hA (fun r u H locs hv hP hD hS => ?_)
  obtain ⟨S3, ad1⟩ := u
  obtain ⟨hv, -, ha⟩ := hv
  have hv : (r, S3) = (v_, S2) := hv.trans ef
  obtain ⟨rfl, rfl⟩ := Prod.mk.inj hv
  have ha82 : ad1 82 = ad 82 := ha 82 hk7.1
  have hP : va_P G vwCl (wsC K ad1 S3 ++ mW K m0 gm h1 g1 h2 g2 M) H := hP
  have hD : va_D (fun q : Nat => s.heap.size ≤ q) (wsC K ad1 S3 ++ mW K m0 gm h1 g1 h2 g2 M) := hD
  rw [← ha82] at hl
  refine cCells (cells' := S3.1 + CM) (slots' := S3.2.1 + SM) (by have := en_.1.1; omega) (by have := en_.1.2; omega) ?_
  refine lv_pop hx hb dL_law_479 rfl ?_
  refine lv_aload_n hx hb dL_law_480 rfl (lv_at hl 1 rfl) ?_
  refine lv_aload_n hx hb dL_law_481 rfl (lv_at hl 3 rfl) ?_
  refine lv_iload_n hx hb dL_law_482 rfl (lv_at hl 0 rfl) ?_
  refine lv_iconst (v := 1) hx hb dL_law_483 (by decide) ?_
  refine lv_iadd hx hb dL_law_484 ?_
  refine va_sld hx hb hX hbl hbA hS (hin 1 (by decide) (by decide)) dL_law_485 ?_
  refine wTop (v1 := .int a1) (congrArg Value.int e_1) ?_
  refine lv_aload_n hx hb dL_law_486 rfl (lv_at hl 3 rfl) ?_
  refine lv_iload_n hx hb dL_law_487 rfl (lv_at hl 0 rfl) ?_
  refine lv_iconst (v := 2) hx hb dL_law_488 (by decide) ?_
  refine lv_iadd hx hb dL_law_489 ?_
  refine va_sld hx hb hX hbl hbA hS (hin 2 (by decide) (by decide)) dL_law_490 ?_
  refine wTop (v1 := .int a2) (congrArg Value.int e_2) ?_
  obtain ⟨hpm, hMI2⟩ := m_span hMI a1 a2
  have bd3_ := ki_bd hKI2
  refine lGoR (w1 := fun u : MS => mW K m0 gm h1 g1 h2 g2 u) (wa := wsC K ad1 S3) (wc := mW K m0 gm h1 g1 h2 g2 M) (va_runV (As := [.int a1, .int a2]) (rest := []) ⟨hx, hb, hml, hown, hts⟩ (c_X12_span l G K m0 gm h1 g1 h2 g2 M a1 a2 _) (cwV 2 hts (wGV t_ (mw (.methodLink RL 63 yX12_span) (List.mem_of_getElem? (i := 4) rfl)) (mw (.instanceMethod yX12_span) (List.mem_of_getElem? (i := 5) rfl)) (mw (.selects RX12 yX12_span yX12_span) (List.mem_of_getElem? (i := 6) rfl)) (mw (.initialized RX12) (List.mem_of_getElem? (i := 7) rfl)) j_X12_span) rfl rfl rfl (by decide +kernel) ⟨Nat.le_of_ble_eq_true rfl, Nat.le_of_ble_eq_true rfl⟩) (mPVm hK hE (pR hP) (dR hD) hpm) rfl rfl hl.1 rfl (lv_room (Nat.le_of_ble_eq_true rfl)) dL_law_491 ⟨by show S3.1 + CM + 0 ≤ 600000; omega, by show S3.2.1 + SM + 0 ≤ 7302249; omega⟩) hP hD hS hA (fun r2 u2 H locs hv2 hP hD hS => ?_)
  have eu2 : u2 = (f_X12_span M a1 a2).2 := congrArg Prod.snd hv2
  have er2 : r2 = (f_X12_span M a1 a2).1 := congrArg Prod.fst hv2
  rw [← eu2] at hMI2
  refine lv_pop hx hb dL_law_494 rfl ?_
  refine lv_goto (tgt := 1267) hx hb dL_law_495 (by decide) ?_
  have hRL2 : RQ S3 u2 := by
    rw [eu2]
    exact rl_span hRL hKI hMI a1 a2 ef
  exact next S3 ad1 u2 H locs ls hRL2 hKI2 hMI2 hP hD hS (lv_sub hl [0, 1, 2, 3] rfl)
def e_law_12 : List Cond := [.methodLink RL 64 yX10_word, .instanceMethod yX10_word, .selects RX10 yX10_word yX10_word, .initialized RX10, .methodLink RL 68 yX12_word, .instanceMethod yX12_word, .selects RX12 yX12_word yX12_word, .initialized RX12]
def v_law_12 : List Cond := (e_law_12 ++ (v_Y10_word ++ (v_X12_word ++ [])))
theorem te_law_12 : GoodIn lw_tbl e_law_12 := wGc zc970 (wGc zc969 (wGc zc968 (wGc zc759 (wGc zc967 (wGc zc966 (wGc zc965 (wGc zc886 (wG0))))))))
theorem t_law_12 : GoodIn lw_tbl v_law_12 := wGa te_law_12 (wGa t_Y10_word (wGa t_X12_word (wG0)))
set_option maxHeartbeats 4000000 in
set_option maxRecDepth 100000 in
theorem law_12 {p : Program} {l : Launch} {e : Env} {s : State} {m : MethodId} {below : List Frame} {meth : Method} {c : Code} {b L : Nat} {xs : Nat → Int32} (C0 : lw_At p s m meth c b L xs) {G : va_G} {K : Nat → ClassId} (hK : va_K G vwCl (wTY K) s) (hE : wE s) {nt : Nat} (hN : zst nt (fun q : Nat => s.heap.size ≤ q) s s.heap) {m0 h1 h2 : Nat} {gm g1 g2 : Nat → Nat} {CM SM : Nat} (hCM : CM ≤ 10000) (hSM : SM ≤ 1000000) {i : Int32} (hin : ∀ j : Int32, 0 ≤ j.toInt → j.toInt ≤ 6 → vp_in (i + j) L) (next : lInv p l e s m below meth c b G K m0 gm h1 g1 h2 g2 CM SM 1267 i) : lInv p l e s m below meth c b G K m0 gm h1 g1 h2 g2 CM SM 498 i := by
  obtain ⟨hx, hb, hr, hml, hown, hts, hX, hbl, hlocks, hgv⟩ := id C0
  have hA : ∀ q : Nat, s.heap.size ≤ q → (fun q : Nat => s.heap.size ≤ q) q := fun _ h => h
  have hbA : ¬ (fun q : Nat => s.heap.size ≤ q) b := Nat.not_le.mpr hbl
  have t_ := t_law_12
  have hts := fun w (h : w ∈ v_law_12) => hts w (t_ w h).1
  have mw : ∀ w ∈ e_law_12, w ∈ v_law_12 := fun w h => List.mem_append_left _ h
  have j_Y10_word : ∀ w ∈ v_Y10_word, w ∈ v_law_12 := fun w h => List.mem_append_right _ (List.mem_append_left _ h)
  have j_X12_word : ∀ w ∈ v_X12_word, w ∈ v_law_12 := fun w h => List.mem_append_right _ (List.mem_append_right _ (List.mem_append_left _ h))
  intro S ad M H locs ls hRL hKI hMI hP hD hS hl
  have hk7 := ki7 hKI
  refine lv_aload_n hx hb dL_law_498 rfl (lv_at hl 2 rfl) ?_
  refine lv_aload_n hx hb dL_law_499 rfl (lv_at hl 3 rfl) ?_
  refine lv_iload_n hx hb dL_law_500 rfl (lv_at hl 0 rfl) ?_
  refine lv_iconst (v := 1) hx hb dL_law_501 (by decide) ?_
  refine lv_iadd hx hb dL_law_502 ?_
  refine va_sld hx hb hX hbl hbA hS (hin 1 (by decide) (by decide)) dL_law_503 ?_
  obtain ⟨a1, e_1⟩ : ∃ y : Int32, xs (i + 1).toNatClampNeg = y := ⟨_, rfl⟩
  refine wTop (v1 := .int a1) (congrArg Value.int e_1) ?_
  refine lv_aload_n hx hb dL_law_504 rfl (lv_at hl 3 rfl) ?_
  refine lv_iload_n hx hb dL_law_505 rfl (lv_at hl 0 rfl) ?_
  refine lv_iconst (v := 2) hx hb dL_law_506 (by decide) ?_
  refine lv_iadd hx hb dL_law_507 ?_
  refine va_sld hx hb hX hbl hbA hS (hin 2 (by decide) (by decide)) dL_law_508 ?_
  obtain ⟨a2, e_2⟩ : ∃ y : Int32, xs (i + 2).toNatClampNeg = y := ⟨_, rfl⟩
  refine wTop (v1 := .int a2) (congrArg Value.int e_2) ?_
  refine lv_aload_n hx hb dL_law_509 rfl (lv_at hl 3 rfl) ?_
  refine lv_iload_n hx hb dL_law_510 rfl (lv_at hl 0 rfl) ?_
  refine lv_iconst (v := 3) hx hb dL_law_511 (by decide) ?_
  refine lv_iadd hx hb dL_law_512 ?_
  refine va_sld hx hb hX hbl hbA hS (hin 3 (by decide) (by decide)) dL_law_513 ?_
  obtain ⟨a3, e_3⟩ : ∃ y : Int32, xs (i + 3).toNatClampNeg = y := ⟨_, rfl⟩
  refine wTop (v1 := .int a3) (congrArg Value.int e_3) ?_
  refine lv_aload_n hx hb dL_law_514 rfl (lv_at hl 3 rfl) ?_
  refine lv_iload_n hx hb dL_law_515 rfl (lv_at hl 0 rfl) ?_
  refine lv_iconst (v := 4) hx hb dL_law_516 (by decide) ?_
  refine lv_iadd hx hb dL_law_517 ?_
  refine va_sld hx hb hX hbl hbA hS (hin 4 (by decide) (by decide)) dL_law_518 ?_
  obtain ⟨a4, e_4⟩ : ∃ y : Int32, xs (i + 4).toNatClampNeg = y := ⟨_, rfl⟩
  refine wTop (v1 := .int a4) (congrArg Value.int e_4) ?_
  obtain ⟨v_, S2, ef, hp_, hKI2, en_⟩ := k_word hKI a1 a2 a3 a4
  have bd_ := ki_bd hKI2
  refine lGoL (w1 := fun u : Cst × (Nat → Nat) => wsC K u.2 u.1) (wc := wsC K ad S) (wr := mW K m0 gm h1 g1 h2 g2 M) (va_runV (As := [.int a1, .int a2, .int a3, .int a4]) (rest := []) ⟨hx, hb, hml, hown, hts⟩ (c_Y10_word l G K ad S 82 S2.1 S2.2.1 a1 a2 a3 a4 _) (cwV 4 hts (wGV t_ (mw (.methodLink RL 64 yX10_word) (List.mem_of_getElem? (i := 0) rfl)) (mw (.instanceMethod yX10_word) (List.mem_of_getElem? (i := 1) rfl)) (mw (.selects RX10 yX10_word yX10_word) (List.mem_of_getElem? (i := 2) rfl)) (mw (.initialized RX10) (List.mem_of_getElem? (i := 3) rfl)) j_Y10_word) rfl rfl rfl (by decide +kernel) ⟨Nat.le_of_ble_eq_true rfl, Nat.le_of_ble_eq_true rfl⟩) (cPV hK hE (pL hP) (dL hD) 7 rfl (at_7 hk7) ⟨⟨en_.1.1, en_.1.2⟩, hk7, hp_ _ _ (Nat.le_refl _) (Nat.le_refl _)⟩) rfl rfl hl.1 rfl (lv_room (Nat.le_of_ble_eq_true rfl)) dL_law_519 ⟨by show S.1 + CM + (S2.1 - S.1) ≤ 600000; have := en_.1.1; omega, by show S.2.1 + SM + (S2.2.1 - S.2.1) ≤ 7302249; have := en_.1.2; omega⟩) hP hD hS hA (fun r u H locs hv hP hD hS => ?_)
  obtain ⟨S3, ad1⟩ := u
  obtain ⟨hv, -, ha⟩ := hv
  have hv : (r, S3) = (v_, S2) := hv.trans ef
  obtain ⟨rfl, rfl⟩ := Prod.mk.inj hv
  have ha82 : ad1 82 = ad 82 := ha 82 hk7.1
  have hP : va_P G vwCl (wsC K ad1 S3 ++ mW K m0 gm h1 g1 h2 g2 M) H := hP
  have hD : va_D (fun q : Nat => s.heap.size ≤ q) (wsC K ad1 S3 ++ mW K m0 gm h1 g1 h2 g2 M) := hD
  rw [← ha82] at hl
  refine cCells (cells' := S3.1 + CM) (slots' := S3.2.1 + SM) (by have := en_.1.1; omega) (by have := en_.1.2; omega) ?_
  refine lv_pop hx hb dL_law_522 rfl ?_
  refine lv_aload_n hx hb dL_law_523 rfl (lv_at hl 1 rfl) ?_
  refine lv_aload_n hx hb dL_law_524 rfl (lv_at hl 3 rfl) ?_
  refine lv_iload_n hx hb dL_law_525 rfl (lv_at hl 0 rfl) ?_
  refine lv_iconst (v := 1) hx hb dL_law_526 (by decide) ?_
  refine lv_iadd hx hb dL_law_527 ?_
  refine va_sld hx hb hX hbl hbA hS (hin 1 (by decide) (by decide)) dL_law_528 ?_
  refine wTop (v1 := .int a1) (congrArg Value.int e_1) ?_
  refine lv_aload_n hx hb dL_law_529 rfl (lv_at hl 3 rfl) ?_
  refine lv_iload_n hx hb dL_law_530 rfl (lv_at hl 0 rfl) ?_
  refine lv_iconst (v := 2) hx hb dL_law_531 (by decide) ?_
  refine lv_iadd hx hb dL_law_532 ?_
  refine va_sld hx hb hX hbl hbA hS (hin 2 (by decide) (by decide)) dL_law_533 ?_
  refine wTop (v1 := .int a2) (congrArg Value.int e_2) ?_
  refine lv_aload_n hx hb dL_law_534 rfl (lv_at hl 3 rfl) ?_
  refine lv_iload_n hx hb dL_law_535 rfl (lv_at hl 0 rfl) ?_
  refine lv_iconst (v := 3) hx hb dL_law_536 (by decide) ?_
  refine lv_iadd hx hb dL_law_537 ?_
  refine va_sld hx hb hX hbl hbA hS (hin 3 (by decide) (by decide)) dL_law_538 ?_
  refine wTop (v1 := .int a3) (congrArg Value.int e_3) ?_
  refine lv_aload_n hx hb dL_law_539 rfl (lv_at hl 3 rfl) ?_
  refine lv_iload_n hx hb dL_law_540 rfl (lv_at hl 0 rfl) ?_
  refine lv_iconst (v := 4) hx hb dL_law_541 (by decide) ?_
  refine lv_iadd hx hb dL_law_542 ?_
  refine va_sld hx hb hX hbl hbA hS (hin 4 (by decide) (by decide)) dL_law_543 ?_
  refine wTop (v1 := .int a4) (congrArg Value.int e_4) ?_
  obtain ⟨hpm, hMI2⟩ := m_word hMI a1 a2 a3 a4
  have bd3_ := ki_bd hKI2
  refine lGoR (w1 := fun u : MS => mW K m0 gm h1 g1 h2 g2 u) (wa := wsC K ad1 S3) (wc := mW K m0 gm h1 g1 h2 g2 M) (va_runV (As := [.int a1, .int a2, .int a3, .int a4]) (rest := []) ⟨hx, hb, hml, hown, hts⟩ (c_X12_word l G K m0 gm h1 g1 h2 g2 M a1 a2 a3 a4 _) (cwV 4 hts (wGV t_ (mw (.methodLink RL 68 yX12_word) (List.mem_of_getElem? (i := 4) rfl)) (mw (.instanceMethod yX12_word) (List.mem_of_getElem? (i := 5) rfl)) (mw (.selects RX12 yX12_word yX12_word) (List.mem_of_getElem? (i := 6) rfl)) (mw (.initialized RX12) (List.mem_of_getElem? (i := 7) rfl)) j_X12_word) rfl rfl rfl (by decide +kernel) ⟨Nat.le_of_ble_eq_true rfl, Nat.le_of_ble_eq_true rfl⟩) (mPVm hK hE (pR hP) (dR hD) hpm) rfl rfl hl.1 rfl (lv_room (Nat.le_of_ble_eq_true rfl)) dL_law_544 ⟨by show S3.1 + CM + 0 ≤ 600000; omega, by show S3.2.1 + SM + 0 ≤ 7302249; omega⟩) hP hD hS hA (fun r2 u2 H locs hv2 hP hD hS => ?_)
  have eu2 : u2 = (f_X12_word M a1 a2 a3 a4).2 := congrArg Prod.snd hv2
  have er2 : r2 = (f_X12_word M a1 a2 a3 a4).1 := congrArg Prod.fst hv2
  rw [← eu2] at hMI2
  refine lv_pop hx hb dL_law_547 rfl ?_
  refine lv_goto (tgt := 1267) hx hb dL_law_548 (by decide) ?_
  have hRL2 : RQ S3 u2 := by
    rw [eu2]
    exact rl_word hRL hKI hMI a1 a2 a3 a4 ef
  exact next S3 ad1 u2 H locs ls hRL2 hKI2 hMI2 hP hD hS (lv_sub hl [0, 1, 2, 3] rfl)
def e_law_13 : List Cond := [.methodLink RL 69 yX10_lay, .instanceMethod yX10_lay, .selects RX10 yX10_lay yX10_lay, .initialized RX10, .methodLink RL 72 yX12_lay, .instanceMethod yX12_lay, .selects RX12 yX12_lay yX12_lay, .initialized RX12]
def v_law_13 : List Cond := (e_law_13 ++ (v_Y10_lay ++ (v_X12_lay ++ [])))
theorem te_law_13 : GoodIn lw_tbl e_law_13 := wGc zc976 (wGc zc975 (wGc zc974 (wGc zc759 (wGc zc973 (wGc zc972 (wGc zc971 (wGc zc886 (wG0))))))))
theorem t_law_13 : GoodIn lw_tbl v_law_13 := wGa te_law_13 (wGa t_Y10_lay (wGa t_X12_lay (wG0)))
set_option maxHeartbeats 4000000 in
set_option maxRecDepth 100000 in
theorem law_13 {p : Program} {l : Launch} {e : Env} {s : State} {m : MethodId} {below : List Frame} {meth : Method} {c : Code} {b L : Nat} {xs : Nat → Int32} (C0 : lw_At p s m meth c b L xs) {G : va_G} {K : Nat → ClassId} (hK : va_K G vwCl (wTY K) s) (hE : wE s) {nt : Nat} (hN : zst nt (fun q : Nat => s.heap.size ≤ q) s s.heap) {m0 h1 h2 : Nat} {gm g1 g2 : Nat → Nat} {CM SM : Nat} (hCM : CM ≤ 10000) (hSM : SM ≤ 1000000) {i : Int32} (hin : ∀ j : Int32, 0 ≤ j.toInt → j.toInt ≤ 6 → vp_in (i + j) L) (next : lInv p l e s m below meth c b G K m0 gm h1 g1 h2 g2 CM SM 1267 i) : lInv p l e s m below meth c b G K m0 gm h1 g1 h2 g2 CM SM 551 i := by
  obtain ⟨hx, hb, hr, hml, hown, hts, hX, hbl, hlocks, hgv⟩ := id C0
  have hA : ∀ q : Nat, s.heap.size ≤ q → (fun q : Nat => s.heap.size ≤ q) q := fun _ h => h
  have hbA : ¬ (fun q : Nat => s.heap.size ≤ q) b := Nat.not_le.mpr hbl
  have t_ := t_law_13
  have hts := fun w (h : w ∈ v_law_13) => hts w (t_ w h).1
  have mw : ∀ w ∈ e_law_13, w ∈ v_law_13 := fun w h => List.mem_append_left _ h
  have j_Y10_lay : ∀ w ∈ v_Y10_lay, w ∈ v_law_13 := fun w h => List.mem_append_right _ (List.mem_append_left _ h)
  have j_X12_lay : ∀ w ∈ v_X12_lay, w ∈ v_law_13 := fun w h => List.mem_append_right _ (List.mem_append_right _ (List.mem_append_left _ h))
  intro S ad M H locs ls hRL hKI hMI hP hD hS hl
  have hk7 := ki7 hKI
  refine lv_aload_n hx hb dL_law_551 rfl (lv_at hl 2 rfl) ?_
  refine lv_aload_n hx hb dL_law_552 rfl (lv_at hl 3 rfl) ?_
  refine lv_iload_n hx hb dL_law_553 rfl (lv_at hl 0 rfl) ?_
  refine lv_iconst (v := 1) hx hb dL_law_554 (by decide) ?_
  refine lv_iadd hx hb dL_law_555 ?_
  refine va_sld hx hb hX hbl hbA hS (hin 1 (by decide) (by decide)) dL_law_556 ?_
  obtain ⟨a1, e_1⟩ : ∃ y : Int32, xs (i + 1).toNatClampNeg = y := ⟨_, rfl⟩
  refine wTop (v1 := .int a1) (congrArg Value.int e_1) ?_
  obtain ⟨v_, S2, ef, hp_, hKI2, en_⟩ := k_lay hKI a1
  have bd_ := ki_bd hKI2
  refine lGoL (w1 := fun u : Cst × (Nat → Nat) => wsC K u.2 u.1) (wc := wsC K ad S) (wr := mW K m0 gm h1 g1 h2 g2 M) (va_runV (As := [.int a1]) (rest := []) ⟨hx, hb, hml, hown, hts⟩ (c_Y10_lay l G K ad S 82 S2.1 S2.2.1 a1 _) (cwV 1 hts (wGV t_ (mw (.methodLink RL 69 yX10_lay) (List.mem_of_getElem? (i := 0) rfl)) (mw (.instanceMethod yX10_lay) (List.mem_of_getElem? (i := 1) rfl)) (mw (.selects RX10 yX10_lay yX10_lay) (List.mem_of_getElem? (i := 2) rfl)) (mw (.initialized RX10) (List.mem_of_getElem? (i := 3) rfl)) j_Y10_lay) rfl rfl rfl (by decide +kernel) ⟨Nat.le_of_ble_eq_true rfl, Nat.le_of_ble_eq_true rfl⟩) (cPV hK hE (pL hP) (dL hD) 7 rfl (at_7 hk7) ⟨⟨en_.1.1, en_.1.2⟩, hk7, hp_ _ _ (Nat.le_refl _) (Nat.le_refl _)⟩) rfl rfl hl.1 rfl (lv_room (Nat.le_of_ble_eq_true rfl)) dL_law_557 ⟨by show S.1 + CM + (S2.1 - S.1) ≤ 600000; have := en_.1.1; omega, by show S.2.1 + SM + (S2.2.1 - S.2.1) ≤ 7302249; have := en_.1.2; omega⟩) hP hD hS hA (fun r u H locs hv hP hD hS => ?_)
  obtain ⟨S3, ad1⟩ := u
  obtain ⟨hv, -, ha⟩ := hv
  have hv : (r, S3) = (v_, S2) := hv.trans ef
  obtain ⟨rfl, rfl⟩ := Prod.mk.inj hv
  have ha82 : ad1 82 = ad 82 := ha 82 hk7.1
  have hP : va_P G vwCl (wsC K ad1 S3 ++ mW K m0 gm h1 g1 h2 g2 M) H := hP
  have hD : va_D (fun q : Nat => s.heap.size ≤ q) (wsC K ad1 S3 ++ mW K m0 gm h1 g1 h2 g2 M) := hD
  rw [← ha82] at hl
  refine cCells (cells' := S3.1 + CM) (slots' := S3.2.1 + SM) (by have := en_.1.1; omega) (by have := en_.1.2; omega) ?_
  refine lv_pop hx hb dL_law_560 rfl ?_
  refine lv_aload_n hx hb dL_law_561 rfl (lv_at hl 1 rfl) ?_
  refine lv_aload_n hx hb dL_law_562 rfl (lv_at hl 3 rfl) ?_
  refine lv_iload_n hx hb dL_law_563 rfl (lv_at hl 0 rfl) ?_
  refine lv_iconst (v := 1) hx hb dL_law_564 (by decide) ?_
  refine lv_iadd hx hb dL_law_565 ?_
  refine va_sld hx hb hX hbl hbA hS (hin 1 (by decide) (by decide)) dL_law_566 ?_
  refine wTop (v1 := .int a1) (congrArg Value.int e_1) ?_
  obtain ⟨hpm, hMI2⟩ := m_lay hMI a1
  have bd3_ := ki_bd hKI2
  refine lGoR (w1 := fun u : MS => mW K m0 gm h1 g1 h2 g2 u) (wa := wsC K ad1 S3) (wc := mW K m0 gm h1 g1 h2 g2 M) (va_runV (As := [.int a1]) (rest := []) ⟨hx, hb, hml, hown, hts⟩ (c_X12_lay l G K m0 gm h1 g1 h2 g2 M a1 _) (cwV 1 hts (wGV t_ (mw (.methodLink RL 72 yX12_lay) (List.mem_of_getElem? (i := 4) rfl)) (mw (.instanceMethod yX12_lay) (List.mem_of_getElem? (i := 5) rfl)) (mw (.selects RX12 yX12_lay yX12_lay) (List.mem_of_getElem? (i := 6) rfl)) (mw (.initialized RX12) (List.mem_of_getElem? (i := 7) rfl)) j_X12_lay) rfl rfl rfl (by decide +kernel) ⟨Nat.le_of_ble_eq_true rfl, Nat.le_of_ble_eq_true rfl⟩) (mPVm hK hE (pR hP) (dR hD) hpm) rfl rfl hl.1 rfl (lv_room (Nat.le_of_ble_eq_true rfl)) dL_law_567 ⟨by show S3.1 + CM + 0 ≤ 600000; omega, by show S3.2.1 + SM + 0 ≤ 7302249; omega⟩) hP hD hS hA (fun r2 u2 H locs hv2 hP hD hS => ?_)
  have eu2 : u2 = (f_X12_lay M a1).2 := congrArg Prod.snd hv2
  have er2 : r2 = (f_X12_lay M a1).1 := congrArg Prod.fst hv2
  rw [← eu2] at hMI2
  refine lv_pop hx hb dL_law_570 rfl ?_
  refine lv_goto (tgt := 1267) hx hb dL_law_571 (by decide) ?_
  have hRL2 : RQ S3 u2 := by
    rw [eu2]
    exact rl_lay hRL hKI hMI a1 ef
  exact next S3 ad1 u2 H locs ls hRL2 hKI2 hMI2 hP hD hS (lv_sub hl [0, 1, 2, 3] rfl)
