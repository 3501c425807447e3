def e_law_28 : List Cond := [.methodLink RL 129 yX10_desk, .instanceMethod yX10_desk, .selects RX10 yX10_desk yX10_desk, .initialized RX10, .methodLink RL 132 yX12_desk, .instanceMethod yX12_desk, .selects RX12 yX12_desk yX12_desk, .initialized RX12]
def v_law_28 : List Cond := (e_law_28 ++ (v_Y10_desk ++ (v_X12_desk ++ [])))
theorem te_law_28 : GoodIn lw_tbl e_law_28 := wGc zc1066 (wGc zc1065 (wGc zc1064 (wGc zc759 (wGc zc1063 (wGc zc1062 (wGc zc1061 (wGc zc886 (wG0))))))))
theorem t_law_28 : GoodIn lw_tbl v_law_28 := wGa te_law_28 (wGa t_Y10_desk (wGa t_X12_desk (wG0)))
set_option maxHeartbeats 4000000 in
set_option maxRecDepth 100000 in
theorem law_28 {p : Program} {l : Launch} {e : Env} {s : State} {m : MethodId} {below : List Frame} {meth : Method} {c : Code} {b L : Nat} {xs : Nat → Int32} (C0 : lw_At p s m meth c b L xs) {G : va_G} {K : Nat → ClassId} (hK : va_K G vwCl (wTY K) s) (hE : wE s) {nt : Nat} (hN : zst nt (fun q : Nat => s.heap.size ≤ q) s s.heap) {m0 h1 h2 : Nat} {gm g1 g2 : Nat → Nat} {CM SM : Nat} (hCM : CM ≤ 10000) (hSM : SM ≤ 1000000) {i : Int32} (hin : ∀ j : Int32, 0 ≤ j.toInt → j.toInt ≤ 6 → vp_in (i + j) L) (next : lInv p l e s m below meth c b G K m0 gm h1 g1 h2 g2 CM SM 1267 i) : lInv p l e s m below meth c b G K m0 gm h1 g1 h2 g2 CM SM 886 i := by
  obtain ⟨hx, hb, hr, hml, hown, hts, hX, hbl, hlocks, hgv⟩ := id C0
  have hA : ∀ q : Nat, s.heap.size ≤ q → (fun q : Nat => s.heap.size ≤ q) q := fun _ h => h
  have hbA : ¬ (fun q : Nat => s.heap.size ≤ q) b := Nat.not_le.mpr hbl
  have t_ := t_law_28
  have hts := fun w (h : w ∈ v_law_28) => hts w (t_ w h).1
  have mw : ∀ w ∈ e_law_28, w ∈ v_law_28 := fun w h => List.mem_append_left _ h
  have j_Y10_desk : ∀ w ∈ v_Y10_desk, w ∈ v_law_28 := fun w h => List.mem_append_right _ (List.mem_append_left _ h)
  have j_X12_desk : ∀ w ∈ v_X12_desk, w ∈ v_law_28 := fun w h => List.mem_append_right _ (List.mem_append_right _ (List.mem_append_left _ h))
  intro S ad M H locs ls hRL hKI hMI hP hD hS hl
  have hk7 := ki7 hKI
  refine lv_aload_n hx hb dL_law_886 rfl (lv_at hl 2 rfl) ?_
  refine lv_aload_n hx hb dL_law_887 rfl (lv_at hl 3 rfl) ?_
  refine lv_iload_n hx hb dL_law_888 rfl (lv_at hl 0 rfl) ?_
  refine lv_iconst (v := 1) hx hb dL_law_889 (by decide) ?_
  refine lv_iadd hx hb dL_law_890 ?_
  refine va_sld hx hb hX hbl hbA hS (hin 1 (by decide) (by decide)) dL_law_891 ?_
  obtain ⟨a1, e_1⟩ : ∃ y : Int32, xs (i + 1).toNatClampNeg = y := ⟨_, rfl⟩
  refine wTop (v1 := .int a1) (congrArg Value.int e_1) ?_
  refine lv_aload_n hx hb dL_law_892 rfl (lv_at hl 3 rfl) ?_
  refine lv_iload_n hx hb dL_law_893 rfl (lv_at hl 0 rfl) ?_
  refine lv_iconst (v := 2) hx hb dL_law_894 (by decide) ?_
  refine lv_iadd hx hb dL_law_895 ?_
  refine va_sld hx hb hX hbl hbA hS (hin 2 (by decide) (by decide)) dL_law_896 ?_
  obtain ⟨a2, e_2⟩ : ∃ y : Int32, xs (i + 2).toNatClampNeg = y := ⟨_, rfl⟩
  refine wTop (v1 := .int a2) (congrArg Value.int e_2) ?_
  have bd0_ := ki_bd hKI
  have wf_ := ki_wf hKI
  refine lGoL (w1 := fun u : Cst => wsC K ad u) (wc := wsC K ad S) (wr := mW K m0 gm h1 g1 h2 g2 M) (va_runV (As := [.int a1, .int a2]) (rest := []) ⟨hx, hb, hml, hown, hts⟩ (c_Y10_desk l G K ad S 82 a1 a2 _) (cwV 2 hts (wGV t_ (mw (.methodLink RL 129 yX10_desk) (List.mem_of_getElem? (i := 0) rfl)) (mw (.instanceMethod yX10_desk) (List.mem_of_getElem? (i := 1) rfl)) (mw (.selects RX10 yX10_desk yX10_desk) (List.mem_of_getElem? (i := 2) rfl)) (mw (.initialized RX10) (List.mem_of_getElem? (i := 3) rfl)) j_Y10_desk) rfl rfl rfl (by decide +kernel) ⟨Nat.le_of_ble_eq_true rfl, Nat.le_of_ble_eq_true rfl⟩) (cPV hK hE (pL hP) (dL hD) 7 rfl (at_7 hk7) ⟨hk7, kp_desk wf_ hk7 a1 a2⟩) rfl rfl hl.1 rfl (lv_room (Nat.le_of_ble_eq_true rfl)) dL_law_897 ⟨by show S.1 + CM + 0 ≤ 600000; omega, by show S.2.1 + SM + 0 ≤ 7302249; omega⟩) hP hD hS hA (fun r u H locs hv hP hD hS => ?_)
  obtain ⟨ef, eu_⟩ := Prod.mk.inj hv
  rw [eu_] at hP hD
  refine cCells (cells' := S.1 + CM) (slots' := S.2.1 + SM) rfl rfl ?_
  have hKI2 := hKI
  refine lv_pop hx hb dL_law_900 rfl ?_
  refine lv_aload_n hx hb dL_law_901 rfl (lv_at hl 1 rfl) ?_
  refine lv_aload_n hx hb dL_law_902 rfl (lv_at hl 3 rfl) ?_
  refine lv_iload_n hx hb dL_law_903 rfl (lv_at hl 0 rfl) ?_
  refine lv_iconst (v := 1) hx hb dL_law_904 (by decide) ?_
  refine lv_iadd hx hb dL_law_905 ?_
  refine va_sld hx hb hX hbl hbA hS (hin 1 (by decide) (by decide)) dL_law_906 ?_
  refine wTop (v1 := .int a1) (congrArg Value.int e_1) ?_
  refine lv_aload_n hx hb dL_law_907 rfl (lv_at hl 3 rfl) ?_
  refine lv_iload_n hx hb dL_law_908 rfl (lv_at hl 0 rfl) ?_
  refine lv_iconst (v := 2) hx hb dL_law_909 (by decide) ?_
  refine lv_iadd hx hb dL_law_910 ?_
  refine va_sld hx hb hX hbl hbA hS (hin 2 (by decide) (by decide)) dL_law_911 ?_
  refine wTop (v1 := .int a2) (congrArg Value.int e_2) ?_
  obtain ⟨hpm, hMI2⟩ := m_desk hMI a1 a2
  have bd3_ := ki_bd hKI2
  refine lGoR (w1 := fun u : MS => mW K m0 gm h1 g1 h2 g2 u) (wa := wsC K ad S) (wc := mW K m0 gm h1 g1 h2 g2 M) (va_runV (As := [.int a1, .int a2]) (rest := []) ⟨hx, hb, hml, hown, hts⟩ (c_X12_desk l G K m0 gm h1 g1 h2 g2 M a1 a2 _) (cwV 2 hts (wGV t_ (mw (.methodLink RL 132 yX12_desk) (List.mem_of_getElem? (i := 4) rfl)) (mw (.instanceMethod yX12_desk) (List.mem_of_getElem? (i := 5) rfl)) (mw (.selects RX12 yX12_desk yX12_desk) (List.mem_of_getElem? (i := 6) rfl)) (mw (.initialized RX12) (List.mem_of_getElem? (i := 7) rfl)) j_X12_desk) rfl rfl rfl (by decide +kernel) ⟨Nat.le_of_ble_eq_true rfl, Nat.le_of_ble_eq_true rfl⟩) (mPVm hK hE (pR hP) (dR hD) hpm) rfl rfl hl.1 rfl (lv_room (Nat.le_of_ble_eq_true rfl)) dL_law_912 ⟨by show S.1 + CM + 0 ≤ 600000; omega, by show S.2.1 + SM + 0 ≤ 7302249; omega⟩) hP hD hS hA (fun r2 u2 H locs hv2 hP hD hS => ?_)
  have eu2 : u2 = (f_X12_desk M a1 a2).2 := congrArg Prod.snd hv2
  have er2 : r2 = (f_X12_desk M a1 a2).1 := congrArg Prod.fst hv2
  rw [← eu2] at hMI2
  refine lv_pop hx hb dL_law_915 rfl ?_
  refine lv_goto (tgt := 1267) hx hb dL_law_916 (by decide) ?_
  have hRL2 : RQ S u2 := by
    rw [eu2]
    exact rl_desk hRL hKI hMI a1 a2
  exact next S ad u2 H locs ls hRL2 hKI2 hMI2 hP hD hS (lv_sub hl [0, 1, 2, 3] rfl)
def e_law_29 : List Cond := [.methodLink RL 133 yX10_lying, .instanceMethod yX10_lying, .selects RX10 yX10_lying yX10_lying, .initialized RX10, .methodLink RL 136 yX12_lying, .instanceMethod yX12_lying, .selects RX12 yX12_lying yX12_lying, .initialized RX12]
def v_law_29 : List Cond := (e_law_29 ++ (v_Y10_lying ++ (v_X12_lying ++ [])))
theorem te_law_29 : GoodIn lw_tbl e_law_29 := wGc zc1072 (wGc zc1071 (wGc zc1070 (wGc zc759 (wGc zc1069 (wGc zc1068 (wGc zc1067 (wGc zc886 (wG0))))))))
theorem t_law_29 : GoodIn lw_tbl v_law_29 := wGa te_law_29 (wGa t_Y10_lying (wGa t_X12_lying (wG0)))
set_option maxHeartbeats 4000000 in
set_option maxRecDepth 100000 in
theorem law_29 {p : Program} {l : Launch} {e : Env} {s : State} {m : MethodId} {below : List Frame} {meth : Method} {c : Code} {b L : Nat} {xs : Nat → Int32} (C0 : lw_At p s m meth c b L xs) {G : va_G} {K : Nat → ClassId} (hK : va_K G vwCl (wTY K) s) (hE : wE s) {nt : Nat} (hN : zst nt (fun q : Nat => s.heap.size ≤ q) s s.heap) {m0 h1 h2 : Nat} {gm g1 g2 : Nat → Nat} {CM SM : Nat} (hCM : CM ≤ 10000) (hSM : SM ≤ 1000000) {i : Int32} (hin : ∀ j : Int32, 0 ≤ j.toInt → j.toInt ≤ 6 → vp_in (i + j) L) (next : lInv p l e s m below meth c b G K m0 gm h1 g1 h2 g2 CM SM 1267 i) : lInv p l e s m below meth c b G K m0 gm h1 g1 h2 g2 CM SM 919 i := by
  obtain ⟨hx, hb, hr, hml, hown, hts, hX, hbl, hlocks, hgv⟩ := id C0
  have hA : ∀ q : Nat, s.heap.size ≤ q → (fun q : Nat => s.heap.size ≤ q) q := fun _ h => h
  have hbA : ¬ (fun q : Nat => s.heap.size ≤ q) b := Nat.not_le.mpr hbl
  have t_ := t_law_29
  have hts := fun w (h : w ∈ v_law_29) => hts w (t_ w h).1
  have mw : ∀ w ∈ e_law_29, w ∈ v_law_29 := fun w h => List.mem_append_left _ h
  have j_Y10_lying : ∀ w ∈ v_Y10_lying, w ∈ v_law_29 := fun w h => List.mem_append_right _ (List.mem_append_left _ h)
  have j_X12_lying : ∀ w ∈ v_X12_lying, w ∈ v_law_29 := fun w h => List.mem_append_right _ (List.mem_append_right _ (List.mem_append_left _ h))
  intro S ad M H locs ls hRL hKI hMI hP hD hS hl
  have hk7 := ki7 hKI
  refine lv_aload_n hx hb dL_law_919 rfl (lv_at hl 2 rfl) ?_
  refine lv_aload_n hx hb dL_law_920 rfl (lv_at hl 3 rfl) ?_
  refine lv_iload_n hx hb dL_law_921 rfl (lv_at hl 0 rfl) ?_
  refine lv_iconst (v := 1) hx hb dL_law_922 (by decide) ?_
  refine lv_iadd hx hb dL_law_923 ?_
  refine va_sld hx hb hX hbl hbA hS (hin 1 (by decide) (by decide)) dL_law_924 ?_
  obtain ⟨a1, e_1⟩ : ∃ y : Int32, xs (i + 1).toNatClampNeg = y := ⟨_, rfl⟩
  refine wTop (v1 := .int a1) (congrArg Value.int e_1) ?_
  refine lv_aload_n hx hb dL_law_925 rfl (lv_at hl 3 rfl) ?_
  refine lv_iload_n hx hb dL_law_926 rfl (lv_at hl 0 rfl) ?_
  refine lv_iconst (v := 2) hx hb dL_law_927 (by decide) ?_
  refine lv_iadd hx hb dL_law_928 ?_
  refine va_sld hx hb hX hbl hbA hS (hin 2 (by decide) (by decide)) dL_law_929 ?_
  obtain ⟨a2, e_2⟩ : ∃ y : Int32, xs (i + 2).toNatClampNeg = y := ⟨_, rfl⟩
  refine wTop (v1 := .int a2) (congrArg Value.int e_2) ?_
  have bd0_ := ki_bd hKI
  have wf_ := ki_wf hKI
  refine lGoL (w1 := fun u : Cst => wsC K ad u) (wc := wsC K ad S) (wr := mW K m0 gm h1 g1 h2 g2 M) (va_runV (As := [.int a1, .int a2]) (rest := []) ⟨hx, hb, hml, hown, hts⟩ (c_Y10_lying l G K ad S 82 a1 a2 _) (cwV 2 hts (wGV t_ (mw (.methodLink RL 133 yX10_lying) (List.mem_of_getElem? (i := 0) rfl)) (mw (.instanceMethod yX10_lying) (List.mem_of_getElem? (i := 1) rfl)) (mw (.selects RX10 yX10_lying yX10_lying) (List.mem_of_getElem? (i := 2) rfl)) (mw (.initialized RX10) (List.mem_of_getElem? (i := 3) rfl)) j_Y10_lying) rfl rfl rfl (by decide +kernel) ⟨Nat.le_of_ble_eq_true rfl, Nat.le_of_ble_eq_true rfl⟩) (cPV hK hE (pL hP) (dL hD) 7 rfl (at_7 hk7) ⟨hk7, kp_lying wf_ hk7 a1 a2⟩) rfl rfl hl.1 rfl (lv_room (Nat.le_of_ble_eq_true rfl)) dL_law_930 ⟨by show S.1 + CM + 0 ≤ 600000; omega, by show S.2.1 + SM + 0 ≤ 7302249; omega⟩) hP hD hS hA (fun r u H locs hv hP hD hS => ?_)
  obtain ⟨ef, eu_⟩ := Prod.mk.inj hv
  rw [eu_] at hP hD
  refine cCells (cells' := S.1 + CM) (slots' := S.2.1 + SM) rfl rfl ?_
  have hKI2 := hKI
  refine lv_pop hx hb dL_law_933 rfl ?_
  refine lv_aload_n hx hb dL_law_934 rfl (lv_at hl 1 rfl) ?_
  refine lv_aload_n hx hb dL_law_935 rfl (lv_at hl 3 rfl) ?_
  refine lv_iload_n hx hb dL_law_936 rfl (lv_at hl 0 rfl) ?_
  refine lv_iconst (v := 1) hx hb dL_law_937 (by decide) ?_
  refine lv_iadd hx hb dL_law_938 ?_
  refine va_sld hx hb hX hbl hbA hS (hin 1 (by decide) (by decide)) dL_law_939 ?_
  refine wTop (v1 := .int a1) (congrArg Value.int e_1) ?_
  refine lv_aload_n hx hb dL_law_940 rfl (lv_at hl 3 rfl) ?_
  refine lv_iload_n hx hb dL_law_941 rfl (lv_at hl 0 rfl) ?_
  refine lv_iconst (v := 2) hx hb dL_law_942 (by decide) ?_
  refine lv_iadd hx hb dL_law_943 ?_
  refine va_sld hx hb hX hbl hbA hS (hin 2 (by decide) (by decide)) dL_law_944 ?_
  refine wTop (v1 := .int a2) (congrArg Value.int e_2) ?_
  obtain ⟨hpm, hMI2⟩ := m_lying hMI a1 a2
  have bd3_ := ki_bd hKI2
  refine lGoR (w1 := fun u : MS => mW K m0 gm h1 g1 h2 g2 u) (wa := wsC K ad S) (wc := mW K m0 gm h1 g1 h2 g2 M) (va_runV (As := [.int a1, .int a2]) (rest := []) ⟨hx, hb, hml, hown, hts⟩ (c_X12_lying l G K m0 gm h1 g1 h2 g2 M a1 a2 _) (cwV 2 hts (wGV t_ (mw (.methodLink RL 136 yX12_lying) (List.mem_of_getElem? (i := 4) rfl)) (mw (.instanceMethod yX12_lying) (List.mem_of_getElem? (i := 5) rfl)) (mw (.selects RX12 yX12_lying yX12_lying) (List.mem_of_getElem? (i := 6) rfl)) (mw (.initialized RX12) (List.mem_of_getElem? (i := 7) rfl)) j_X12_lying) rfl rfl rfl (by decide +kernel) ⟨Nat.le_of_ble_eq_true rfl, Nat.le_of_ble_eq_true rfl⟩) (mPVm hK hE (pR hP) (dR hD) hpm) rfl rfl hl.1 rfl (lv_room (Nat.le_of_ble_eq_true rfl)) dL_law_945 ⟨by show S.1 + CM + 0 ≤ 600000; omega, by show S.2.1 + SM + 0 ≤ 7302249; omega⟩) hP hD hS hA (fun r2 u2 H locs hv2 hP hD hS => ?_)
  have eu2 : u2 = (f_X12_lying M a1 a2).2 := congrArg Prod.snd hv2
  have er2 : r2 = (f_X12_lying M a1 a2).1 := congrArg Prod.fst hv2
  rw [← eu2] at hMI2
  refine lv_pop hx hb dL_law_948 rfl ?_
  refine lv_goto (tgt := 1267) hx hb dL_law_949 (by decide) ?_
  have hRL2 : RQ S u2 := by
    rw [eu2]
    exact rl_lying hRL hKI hMI a1 a2
  exact next S ad u2 H locs ls hRL2 hKI2 hMI2 hP hD hS (lv_sub hl [0, 1, 2, 3] rfl)
def e_law_30 : List Cond := [.methodLink RL 137 yX10_result, .instanceMethod yX10_result, .selects RX10 yX10_result yX10_result, .initialized RX10, .methodLink RL 140 yX12_result, .instanceMethod yX12_result, .selects RX12 yX12_result yX12_result, .initialized RX12]
def v_law_30 : List Cond := (e_law_30 ++ (v_Y10_result ++ (v_X12_result ++ [])))
theorem te_law_30 : GoodIn lw_tbl e_law_30 := wGc zc1078 (wGc zc1077 (wGc zc1076 (wGc zc759 (wGc zc1075 (wGc zc1074 (wGc zc1073 (wGc zc886 (wG0))))))))
theorem t_law_30 : GoodIn lw_tbl v_law_30 := wGa te_law_30 (wGa t_Y10_result (wGa t_X12_result (wG0)))
set_option maxHeartbeats 4000000 in
set_option maxRecDepth 100000 in
theorem law_30 {p : Program} {l : Launch} {e : Env} {s : State} {m : MethodId} {below : List Frame} {meth : Method} {c : Code} {b L : Nat} {xs : Nat → Int32} (C0 : lw_At p s m meth c b L xs) {G : va_G} {K : Nat → ClassId} (hK : va_K G vwCl (wTY K) s) (hE : wE s) {nt : Nat} (hN : zst nt (fun q : Nat => s.heap.size ≤ q) s s.heap) {m0 h1 h2 : Nat} {gm g1 g2 : Nat → Nat} {CM SM : Nat} (hCM : CM ≤ 10000) (hSM : SM ≤ 1000000) {i : Int32} (hin : ∀ j : Int32, 0 ≤ j.toInt → j.toInt ≤ 6 → vp_in (i + j) L) (next : lInv p l e s m below meth c b G K m0 gm h1 g1 h2 g2 CM SM 1267 i) : lInv p l e s m below meth c b G K m0 gm h1 g1 h2 g2 CM SM 952 i := by
  obtain ⟨hx, hb, hr, hml, hown, hts, hX, hbl, hlocks, hgv⟩ := id C0
  have hA : ∀ q : Nat, s.heap.size ≤ q → (fun q : Nat => s.heap.size ≤ q) q := fun _ h => h
  have hbA : ¬ (fun q : Nat => s.heap.size ≤ q) b := Nat.not_le.mpr hbl
  have t_ := t_law_30
  have hts := fun w (h : w ∈ v_law_30) => hts w (t_ w h).1
  have mw : ∀ w ∈ e_law_30, w ∈ v_law_30 := fun w h => List.mem_append_left _ h
  have j_Y10_result : ∀ w ∈ v_Y10_result, w ∈ v_law_30 := fun w h => List.mem_append_right _ (List.mem_append_left _ h)
  have j_X12_result : ∀ w ∈ v_X12_result, w ∈ v_law_30 := fun w h => List.mem_append_right _ (List.mem_append_right _ (List.mem_append_left _ h))
  intro S ad M H locs ls hRL hKI hMI hP hD hS hl
  have hk7 := ki7 hKI
  refine lv_aload_n hx hb dL_law_952 rfl (lv_at hl 2 rfl) ?_
  refine lv_aload_n hx hb dL_law_953 rfl (lv_at hl 3 rfl) ?_
  refine lv_iload_n hx hb dL_law_954 rfl (lv_at hl 0 rfl) ?_
  refine lv_iconst (v := 1) hx hb dL_law_955 (by decide) ?_
  refine lv_iadd hx hb dL_law_956 ?_
  refine va_sld hx hb hX hbl hbA hS (hin 1 (by decide) (by decide)) dL_law_957 ?_
  obtain ⟨a1, e_1⟩ : ∃ y : Int32, xs (i + 1).toNatClampNeg = y := ⟨_, rfl⟩
  refine wTop (v1 := .int a1) (congrArg Value.int e_1) ?_
  refine lv_aload_n hx hb dL_law_958 rfl (lv_at hl 3 rfl) ?_
  refine lv_iload_n hx hb dL_law_959 rfl (lv_at hl 0 rfl) ?_
  refine lv_iconst (v := 2) hx hb dL_law_960 (by decide) ?_
  refine lv_iadd hx hb dL_law_961 ?_
  refine va_sld hx hb hX hbl hbA hS (hin 2 (by decide) (by decide)) dL_law_962 ?_
  obtain ⟨a2, e_2⟩ : ∃ y : Int32, xs (i + 2).toNatClampNeg = y := ⟨_, rfl⟩
  refine wTop (v1 := .int a2) (congrArg Value.int e_2) ?_
  have bd0_ := ki_bd hKI
  have wf_ := ki_wf hKI
  refine lGoL (w1 := fun u : Cst => wsC K ad u) (wc := wsC K ad S) (wr := mW K m0 gm h1 g1 h2 g2 M) (va_runV (As := [.int a1, .int a2]) (rest := []) ⟨hx, hb, hml, hown, hts⟩ (c_Y10_result l G K ad S 82 a1 a2 _) (cwV 2 hts (wGV t_ (mw (.methodLink RL 137 yX10_result) (List.mem_of_getElem? (i := 0) rfl)) (mw (.instanceMethod yX10_result) (List.mem_of_getElem? (i := 1) rfl)) (mw (.selects RX10 yX10_result yX10_result) (List.mem_of_getElem? (i := 2) rfl)) (mw (.initialized RX10) (List.mem_of_getElem? (i := 3) rfl)) j_Y10_result) rfl rfl rfl (by decide +kernel) ⟨Nat.le_of_ble_eq_true rfl, Nat.le_of_ble_eq_true rfl⟩) (cPV hK hE (pL hP) (dL hD) 7 rfl (at_7 hk7) ⟨hk7, kp_result wf_ hk7 a1 a2⟩) rfl rfl hl.1 rfl (lv_room (Nat.le_of_ble_eq_true rfl)) dL_law_963 ⟨by show S.1 + CM + 0 ≤ 600000; omega, by show S.2.1 + SM + 0 ≤ 7302249; omega⟩) hP hD hS hA (fun r u H locs hv hP hD hS => ?_)
  obtain ⟨ef, eu_⟩ := Prod.mk.inj hv
  rw [eu_] at hP hD
  refine cCells (cells' := S.1 + CM) (slots' := S.2.1 + SM) rfl rfl ?_
  have hKI2 := hKI
  refine lv_pop hx hb dL_law_966 rfl ?_
  refine lv_aload_n hx hb dL_law_967 rfl (lv_at hl 1 rfl) ?_
  refine lv_aload_n hx hb dL_law_968 rfl (lv_at hl 3 rfl) ?_
  refine lv_iload_n hx hb dL_law_969 rfl (lv_at hl 0 rfl) ?_
  refine lv_iconst (v := 1) hx hb dL_law_970 (by decide) ?_
  refine lv_iadd hx hb dL_law_971 ?_
  refine va_sld hx hb hX hbl hbA hS (hin 1 (by decide) (by decide)) dL_law_972 ?_
  refine wTop (v1 := .int a1) (congrArg Value.int e_1) ?_
  refine lv_aload_n hx hb dL_law_973 rfl (lv_at hl 3 rfl) ?_
  refine lv_iload_n hx hb dL_law_974 rfl (lv_at hl 0 rfl) ?_
  refine lv_iconst (v := 2) hx hb dL_law_975 (by decide) ?_
  refine lv_iadd hx hb dL_law_976 ?_
  refine va_sld hx hb hX hbl hbA hS (hin 2 (by decide) (by decide)) dL_law_977 ?_
  refine wTop (v1 := .int a2) (congrArg Value.int e_2) ?_
  obtain ⟨hpm, hMI2⟩ := m_result hMI a1 a2
  have bd3_ := ki_bd hKI2
  refine lGoR (w1 := fun u : MS => mW K m0 gm h1 g1 h2 g2 u) (wa := wsC K ad S) (wc := mW K m0 gm h1 g1 h2 g2 M) (va_runV (As := [.int a1, .int a2]) (rest := []) ⟨hx, hb, hml, hown, hts⟩ (c_X12_result l G K m0 gm h1 g1 h2 g2 M a1 a2 _) (cwV 2 hts (wGV t_ (mw (.methodLink RL 140 yX12_result) (List.mem_of_getElem? (i := 4) rfl)) (mw (.instanceMethod yX12_result) (List.mem_of_getElem? (i := 5) rfl)) (mw (.selects RX12 yX12_result yX12_result) (List.mem_of_getElem? (i := 6) rfl)) (mw (.initialized RX12) (List.mem_of_getElem? (i := 7) rfl)) j_X12_result) rfl rfl rfl (by decide +kernel) ⟨Nat.le_of_ble_eq_true rfl, Nat.le_of_ble_eq_true rfl⟩) (mPVm hK hE (pR hP) (dR hD) hpm) rfl rfl hl.1 rfl (lv_room (Nat.le_of_ble_eq_true rfl)) dL_law_978 ⟨by show S.1 + CM + 0 ≤ 600000; omega, by show S.2.1 + SM + 0 ≤ 7302249; omega⟩) hP hD hS hA (fun r2 u2 H locs hv2 hP hD hS => ?_)
  have eu2 : u2 = (f_X12_result M a1 a2).2 := congrArg Prod.snd hv2
  have er2 : r2 = (f_X12_result M a1 a2).1 := congrArg Prod.fst hv2
  rw [← eu2] at hMI2
  refine lv_pop hx hb dL_law_981 rfl ?_
  refine lv_goto (tgt := 1267) hx hb dL_law_982 (by decide) ?_
  have hRL2 : RQ S u2 := by
    rw [eu2]
    exact rl_result hRL hKI hMI a1 a2
  exact next S ad u2 H locs ls hRL2 hKI2 hMI2 hP hD hS (lv_sub hl [0, 1, 2, 3] rfl)
def e_law_31 : List Cond := [.methodLink RL 141 yX10_count, .instanceMethod yX10_count, .selects RX10 yX10_count yX10_count, .initialized RX10, .methodLink RL 144 yX12_count, .instanceMethod yX12_count, .selects RX12 yX12_count yX12_count, .initialized RX12]
def v_law_31 : List Cond := (e_law_31 ++ (v_Y10_count ++ (v_X12_count ++ [])))
theorem te_law_31 : GoodIn lw_tbl e_law_31 := wGc zc1084 (wGc zc1083 (wGc zc1082 (wGc zc759 (wGc zc1081 (wGc zc1080 (wGc zc1079 (wGc zc886 (wG0))))))))
theorem t_law_31 : GoodIn lw_tbl v_law_31 := wGa te_law_31 (wGa t_Y10_count (wGa t_X12_count (wG0)))
set_option maxHeartbeats 4000000 in
set_option maxRecDepth 100000 in
theorem law_31 {p : Program} {l : Launch} {e : Env} {s : State} {m : MethodId} {below : List Frame} {meth : Method} {c : Code} {b L : Nat} {xs : Nat → Int32} (C0 : lw_At p s m meth c b L xs) {G : va_G} {K : Nat → ClassId} (hK : va_K G vwCl (wTY K) s) (hE : wE s) {nt : Nat} (hN : zst nt (fun q : Nat => s.heap.size ≤ q) s s.heap) {m0 h1 h2 : Nat} {gm g1 g2 : Nat → Nat} {CM SM : Nat} (hCM : CM ≤ 10000) (hSM : SM ≤ 1000000) {i : Int32} (hin : ∀ j : Int32, 0 ≤ j.toInt → j.toInt ≤ 6 → vp_in (i + j) L) (next : lInv p l e s m below meth c b G K m0 gm h1 g1 h2 g2 CM SM 1267 i) : lInv p l e s m below meth c b G K m0 gm h1 g1 h2 g2 CM SM 985 i := by
  obtain ⟨hx, hb, hr, hml, hown, hts, hX, hbl, hlocks, hgv⟩ := id C0
  have hA : ∀ q : Nat, s.heap.size ≤ q → (fun q : Nat => s.heap.size ≤ q) q := fun _ h => h
  have hbA : ¬ (fun q : Nat => s.heap.size ≤ q) b := Nat.not_le.mpr hbl
  have t_ := t_law_31
  have hts := fun w (h : w ∈ v_law_31) => hts w (t_ w h).1
  have mw : ∀ w ∈ e_law_31, w ∈ v_law_31 := fun w h => List.mem_append_left _ h
  have j_Y10_count : ∀ w ∈ v_Y10_count, w ∈ v_law_31 := fun w h => List.mem_append_right _ (List.mem_append_left _ h)
  have j_X12_count : ∀ w ∈ v_X12_count, w ∈ v_law_31 := fun w h => List.mem_append_right _ (List.mem_append_right _ (List.mem_append_left _ h))
  intro S ad M H locs ls hRL hKI hMI hP hD hS hl
  have hk7 := ki7 hKI
  refine lv_aload_n hx hb dL_law_985 rfl (lv_at hl 2 rfl) ?_
  refine lv_aload_n hx hb dL_law_986 rfl (lv_at hl 3 rfl) ?_
  refine lv_iload_n hx hb dL_law_987 rfl (lv_at hl 0 rfl) ?_
  refine lv_iconst (v := 1) hx hb dL_law_988 (by decide) ?_
  refine lv_iadd hx hb dL_law_989 ?_
  refine va_sld hx hb hX hbl hbA hS (hin 1 (by decide) (by decide)) dL_law_990 ?_
  obtain ⟨a1, e_1⟩ : ∃ y : Int32, xs (i + 1).toNatClampNeg = y := ⟨_, rfl⟩
  refine wTop (v1 := .int a1) (congrArg Value.int e_1) ?_
  have bd0_ := ki_bd hKI
  have wf_ := ki_wf hKI
  refine lGoL (w1 := fun u : Cst => wsC K ad u) (wc := wsC K ad S) (wr := mW K m0 gm h1 g1 h2 g2 M) (va_runV (As := [.int a1]) (rest := []) ⟨hx, hb, hml, hown, hts⟩ (c_Y10_count l G K ad S 82 a1 _) (cwV 1 hts (wGV t_ (mw (.methodLink RL 141 yX10_count) (List.mem_of_getElem? (i := 0) rfl)) (mw (.instanceMethod yX10_count) (List.mem_of_getElem? (i := 1) rfl)) (mw (.selects RX10 yX10_count yX10_count) (List.mem_of_getElem? (i := 2) rfl)) (mw (.initialized RX10) (List.mem_of_getElem? (i := 3) rfl)) j_Y10_count) rfl rfl rfl (by decide +kernel) ⟨Nat.le_of_ble_eq_true rfl, Nat.le_of_ble_eq_true rfl⟩) (cPV hK hE (pL hP) (dL hD) 7 rfl (at_7 hk7) ⟨hk7, kp_count wf_ hk7 a1⟩) rfl rfl hl.1 rfl (lv_room (Nat.le_of_ble_eq_true rfl)) dL_law_991 ⟨by show S.1 + CM + 0 ≤ 600000; omega, by show S.2.1 + SM + 0 ≤ 7302249; omega⟩) hP hD hS hA (fun r u H locs hv hP hD hS => ?_)
  obtain ⟨ef, eu_⟩ := Prod.mk.inj hv
  rw [eu_] at hP hD
  refine cCells (cells' := S.1 + CM) (slots' := S.2.1 + SM) rfl rfl ?_
  have hKI2 := hKI
  refine lv_pop hx hb dL_law_994 rfl ?_
  refine lv_aload_n hx hb dL_law_995 rfl (lv_at hl 1 rfl) ?_
  refine lv_aload_n hx hb dL_law_996 rfl (lv_at hl 3 rfl) ?_
  refine lv_iload_n hx hb dL_law_997 rfl (lv_at hl 0 rfl) ?_
  refine lv_iconst (v := 1) hx hb dL_law_998 (by decide) ?_
  refine lv_iadd hx hb dL_law_999 ?_
  refine va_sld hx hb hX hbl hbA hS (hin 1 (by decide) (by decide)) dL_law_1000 ?_
  refine wTop (v1 := .int a1) (congrArg Value.int e_1) ?_
  obtain ⟨hpm, hMI2⟩ := m_count hMI a1
  have bd3_ := ki_bd hKI2
  refine lGoR (w1 := fun u : MS => mW K m0 gm h1 g1 h2 g2 u) (wa := wsC K ad S) (wc := mW K m0 gm h1 g1 h2 g2 M) (va_runV (As := [.int a1]) (rest := []) ⟨hx, hb, hml, hown, hts⟩ (c_X12_count l G K m0 gm h1 g1 h2 g2 M a1 _) (cwV 1 hts (wGV t_ (mw (.methodLink RL 144 yX12_count) (List.mem_of_getElem? (i := 4) rfl)) (mw (.instanceMethod yX12_count) (List.mem_of_getElem? (i := 5) rfl)) (mw (.selects RX12 yX12_count yX12_count) (List.mem_of_getElem? (i := 6) rfl)) (mw (.initialized RX12) (List.mem_of_getElem? (i := 7) rfl)) j_X12_count) rfl rfl rfl (by decide +kernel) ⟨Nat.le_of_ble_eq_true rfl, Nat.le_of_ble_eq_true rfl⟩) (mPVm hK hE (pR hP) (dR hD) hpm) rfl rfl hl.1 rfl (lv_room (Nat.le_of_ble_eq_true rfl)) dL_law_1001 ⟨by show S.1 + CM + 0 ≤ 600000; omega, by show S.2.1 + SM + 0 ≤ 7302249; omega⟩) hP hD hS hA (fun r2 u2 H locs hv2 hP hD hS => ?_)
  have eu2 : u2 = (f_X12_count M a1).2 := congrArg Prod.snd hv2
  have er2 : r2 = (f_X12_count M a1).1 := congrArg Prod.fst hv2
  rw [← eu2] at hMI2
  refine lv_pop hx hb dL_law_1004 rfl ?_
  refine lv_goto (tgt := 1267) hx hb dL_law_1005 (by decide) ?_
  have hRL2 : RQ S u2 := by
    rw [eu2]
    exact rl_count hRL hKI hMI a1
  exact next S ad u2 H locs ls hRL2 hKI2 hMI2 hP hD hS (lv_sub hl [0, 1, 2, 3] rfl)
def e_law_32 : List Cond := [.methodLink RL 145 yX10_seat, .instanceMethod yX10_seat, .selects RX10 yX10_seat yX10_seat, .initialized RX10, .methodLink RL 148 yX12_seat, .instanceMethod yX12_seat, .selects RX12 yX12_seat yX12_seat, .initialized RX12]
def v_law_32 : List Cond := (e_law_32 ++ (v_Y10_seat ++ (v_X12_seat ++ [])))
theorem te_law_32 : GoodIn lw_tbl e_law_32 := wGc zc1090 (wGc zc1089 (wGc zc1088 (wGc zc759 (wGc zc1087 (wGc zc1086 (wGc zc1085 (wGc zc886 (wG0))))))))
theorem t_law_32 : GoodIn lw_tbl v_law_32 := wGa te_law_32 (wGa t_Y10_seat (wGa t_X12_seat (wG0)))
set_option maxHeartbeats 4000000 in
set_option maxRecDepth 100000 in
theorem law_32 {p : Program} {l : Launch} {e : Env} {s : State} {m : MethodId} {below : List Frame} {meth : Method} {c : Code} {b L : Nat} {xs : Nat → Int32} (C0 : lw_At p s m meth c b L xs) {G : va_G} {K : Nat → ClassId} (hK : va_K G vwCl (wTY K) s) (hE : wE s) {nt : Nat} (hN : zst nt (fun q : Nat => s.heap.size ≤ q) s s.heap) {m0 h1 h2 : Nat} {gm g1 g2 : Nat → Nat} {CM SM : Nat} (hCM : CM ≤ 10000) (hSM : SM ≤ 1000000) {i : Int32} (hin : ∀ j : Int32, 0 ≤ j.toInt → j.toInt ≤ 6 → vp_in (i + j) L) (next : lInv p l e s m below meth c b G K m0 gm h1 g1 h2 g2 CM SM 1267 i) : lInv p l e s m below meth c b G K m0 gm h1 g1 h2 g2 CM SM 1008 i := by
  obtain ⟨hx, hb, hr, hml, hown, hts, hX, hbl, hlocks, hgv⟩ := id C0
  have hA : ∀ q : Nat, s.heap.size ≤ q → (fun q : Nat => s.heap.size ≤ q) q := fun _ h => h
  have hbA : ¬ (fun q : Nat => s.heap.size ≤ q) b := Nat.not_le.mpr hbl
  have t_ := t_law_32
  have hts := fun w (h : w ∈ v_law_32) => hts w (t_ w h).1
  have mw : ∀ w ∈ e_law_32, w ∈ v_law_32 := fun w h => List.mem_append_left _ h
  have j_Y10_seat : ∀ w ∈ v_Y10_seat, w ∈ v_law_32 := fun w h => List.mem_append_right _ (List.mem_append_left _ h)
  have j_X12_seat : ∀ w ∈ v_X12_seat, w ∈ v_law_32 := fun w h => List.mem_append_right _ (List.mem_append_right _ (List.mem_append_left _ h))
  intro S ad M H locs ls hRL hKI hMI hP hD hS hl
  have hk7 := ki7 hKI
  refine lv_aload_n hx hb dL_law_1008 rfl (lv_at hl 2 rfl) ?_
  refine lv_aload_n hx hb dL_law_1009 rfl (lv_at hl 3 rfl) ?_
  refine lv_iload_n hx hb dL_law_1010 rfl (lv_at hl 0 rfl) ?_
  refine lv_iconst (v := 1) hx hb dL_law_1011 (by decide) ?_
  refine lv_iadd hx hb dL_law_1012 ?_
  refine va_sld hx hb hX hbl hbA hS (hin 1 (by decide) (by decide)) dL_law_1013 ?_
  obtain ⟨a1, e_1⟩ : ∃ y : Int32, xs (i + 1).toNatClampNeg = y := ⟨_, rfl⟩
  refine wTop (v1 := .int a1) (congrArg Value.int e_1) ?_
  have bd0_ := ki_bd hKI
  have wf_ := ki_wf hKI
  refine lGoL (w1 := fun u : Cst => wsC K ad u) (wc := wsC K ad S) (wr := mW K m0 gm h1 g1 h2 g2 M) (va_runV (As := [.int a1]) (rest := []) ⟨hx, hb, hml, hown, hts⟩ (c_Y10_seat l G K ad S 82 a1 _) (cwV 1 hts (wGV t_ (mw (.methodLink RL 145 yX10_seat) (List.mem_of_getElem? (i := 0) rfl)) (mw (.instanceMethod yX10_seat) (List.mem_of_getElem? (i := 1) rfl)) (mw (.selects RX10 yX10_seat yX10_seat) (List.mem_of_getElem? (i := 2) rfl)) (mw (.initialized RX10) (List.mem_of_getElem? (i := 3) rfl)) j_Y10_seat) rfl rfl rfl (by decide +kernel) ⟨Nat.le_of_ble_eq_true rfl, Nat.le_of_ble_eq_true rfl⟩) (cPV hK hE (pL hP) (dL hD) 7 rfl (at_7 hk7) ⟨hk7, kp_seat wf_ hk7 a1⟩) rfl rfl hl.1 rfl (lv_room (Nat.le_of_ble_eq_true rfl)) dL_law_1014 ⟨by show S.1 + CM + 0 ≤ 600000; omega, by show S.2.1 + SM + 0 ≤ 7302249; omega⟩) hP hD hS hA (fun r u H locs hv hP hD hS => ?_)
  obtain ⟨ef, eu_⟩ := Prod.mk.inj hv
  rw [eu_] at hP hD
  refine cCells (cells' := S.1 + CM) (slots' := S.2.1 + SM) rfl rfl ?_
  have hKI2 := hKI
  refine lv_pop hx hb dL_law_1017 rfl ?_
  refine lv_aload_n hx hb dL_law_1018 rfl (lv_at hl 1 rfl) ?_
  refine lv_aload_n hx hb dL_law_1019 rfl (lv_at hl 3 rfl) ?_
  refine lv_iload_n hx hb dL_law_1020 rfl (lv_at hl 0 rfl) ?_
  refine lv_iconst (v := 1) hx hb dL_law_1021 (by decide) ?_
  refine lv_iadd hx hb dL_law_1022 ?_
  refine va_sld hx hb hX hbl hbA hS (hin 1 (by decide) (by decide)) dL_law_1023 ?_
  refine wTop (v1 := .int a1) (congrArg Value.int e_1) ?_
  obtain ⟨hpm, hMI2⟩ := m_seat hMI a1
  have bd3_ := ki_bd hKI2
  refine lGoR (w1 := fun u : MS => mW K m0 gm h1 g1 h2 g2 u) (wa := wsC K ad S) (wc := mW K m0 gm h1 g1 h2 g2 M) (va_runV (As := [.int a1]) (rest := []) ⟨hx, hb, hml, hown, hts⟩ (c_X12_seat l G K m0 gm h1 g1 h2 g2 M a1 _) (cwV 1 hts (wGV t_ (mw (.methodLink RL 148 yX12_seat) (List.mem_of_getElem? (i := 4) rfl)) (mw (.instanceMethod yX12_seat) (List.mem_of_getElem? (i := 5) rfl)) (mw (.selects RX12 yX12_seat yX12_seat) (List.mem_of_getElem? (i := 6) rfl)) (mw (.initialized RX12) (List.mem_of_getElem? (i := 7) rfl)) j_X12_seat) rfl rfl rfl (by decide +kernel) ⟨Nat.le_of_ble_eq_true rfl, Nat.le_of_ble_eq_true rfl⟩) (mPVm hK hE (pR hP) (dR hD) hpm) rfl rfl hl.1 rfl (lv_room (Nat.le_of_ble_eq_true rfl)) dL_law_1024 ⟨by show S.1 + CM + 0 ≤ 600000; omega, by show S.2.1 + SM + 0 ≤ 7302249; omega⟩) hP hD hS hA (fun r2 u2 H locs hv2 hP hD hS => ?_)
  have eu2 : u2 = (f_X12_seat M a1).2 := congrArg Prod.snd hv2
  have er2 : r2 = (f_X12_seat M a1).1 := congrArg Prod.fst hv2
  rw [← eu2] at hMI2
  refine lv_pop hx hb dL_law_1027 rfl ?_
  refine lv_goto (tgt := 1267) hx hb dL_law_1028 (by decide) ?_
  have hRL2 : RQ S u2 := by
    rw [eu2]
    exact rl_seat hRL hKI hMI a1
  exact next S ad u2 H locs ls hRL2 hKI2 hMI2 hP hD hS (lv_sub hl [0, 1, 2, 3] rfl)
def e_law_33 : List Cond := [.methodLink RL 149 yX10_journal, .instanceMethod yX10_journal, .selects RX10 yX10_journal yX10_journal, .initialized RX10, .methodLink RL 152 yX12_journal, .instanceMethod yX12_journal, .selects RX12 yX12_journal yX12_journal, .initialized RX12]
def v_law_33 : List Cond := (e_law_33 ++ (v_Y10_journal ++ (v_X12_journal ++ [])))
theorem te_law_33 : GoodIn lw_tbl e_law_33 := wGc zc1096 (wGc zc1095 (wGc zc1094 (wGc zc759 (wGc zc1093 (wGc zc1092 (wGc zc1091 (wGc zc886 (wG0))))))))
theorem t_law_33 : GoodIn lw_tbl v_law_33 := wGa te_law_33 (wGa t_Y10_journal (wGa t_X12_journal (wG0)))
set_option maxHeartbeats 4000000 in
set_option maxRecDepth 100000 in
theorem law_33 {p : Program} {l : Launch} {e : Env} {s : State} {m : MethodId} {below : List Frame} {meth : Method} {c : Code} {b L : Nat} {xs : Nat → Int32} (C0 : lw_At p s m meth c b L xs) {G : va_G} {K : Nat → ClassId} (hK : va_K G vwCl (wTY K) s) (hE : wE s) {nt : Nat} (hN : zst nt (fun q : Nat => s.heap.size ≤ q) s s.heap) {m0 h1 h2 : Nat} {gm g1 g2 : Nat → Nat} {CM SM : Nat} (hCM : CM ≤ 10000) (hSM : SM ≤ 1000000) {i : Int32} (hin : ∀ j : Int32, 0 ≤ j.toInt → j.toInt ≤ 6 → vp_in (i + j) L) (next : lInv p l e s m below meth c b G K m0 gm h1 g1 h2 g2 CM SM 1267 i) : lInv p l e s m below meth c b G K m0 gm h1 g1 h2 g2 CM SM 1031 i := by
  obtain ⟨hx, hb, hr, hml, hown, hts, hX, hbl, hlocks, hgv⟩ := id C0
  have hA : ∀ q : Nat, s.heap.size ≤ q → (fun q : Nat => s.heap.size ≤ q) q := fun _ h => h
  have hbA : ¬ (fun q : Nat => s.heap.size ≤ q) b := Nat.not_le.mpr hbl
  have t_ := t_law_33
  have hts := fun w (h : w ∈ v_law_33) => hts w (t_ w h).1
  have mw : ∀ w ∈ e_law_33, w ∈ v_law_33 := fun w h => List.mem_append_left _ h
  have j_Y10_journal : ∀ w ∈ v_Y10_journal, w ∈ v_law_33 := fun w h => List.mem_append_right _ (List.mem_append_left _ h)
  have j_X12_journal : ∀ w ∈ v_X12_journal, w ∈ v_law_33 := fun w h => List.mem_append_right _ (List.mem_append_right _ (List.mem_append_left _ h))
  intro S ad M H locs ls hRL hKI hMI hP hD hS hl
  have hk7 := ki7 hKI
  refine lv_aload_n hx hb dL_law_1031 rfl (lv_at hl 2 rfl) ?_
  refine lv_aload_n hx hb dL_law_1032 rfl (lv_at hl 3 rfl) ?_
  refine lv_iload_n hx hb dL_law_1033 rfl (lv_at hl 0 rfl) ?_
  refine lv_iconst (v := 1) hx hb dL_law_1034 (by decide) ?_
  refine lv_iadd hx hb dL_law_1035 ?_
  refine va_sld hx hb hX hbl hbA hS (hin 1 (by decide) (by decide)) dL_law_1036 ?_
  obtain ⟨a1, e_1⟩ : ∃ y : Int32, xs (i + 1).toNatClampNeg = y := ⟨_, rfl⟩
  refine wTop (v1 := .int a1) (congrArg Value.int e_1) ?_
  refine lv_aload_n hx hb dL_law_1037 rfl (lv_at hl 3 rfl) ?_
  refine lv_iload_n hx hb dL_law_1038 rfl (lv_at hl 0 rfl) ?_
  refine lv_iconst (v := 2) hx hb dL_law_1039 (by decide) ?_
  refine lv_iadd hx hb dL_law_1040 ?_
  refine va_sld hx hb hX hbl hbA hS (hin 2 (by decide) (by decide)) dL_law_1041 ?_
  obtain ⟨a2, e_2⟩ : ∃ y : Int32, xs (i + 2).toNatClampNeg = y := ⟨_, rfl⟩
  refine wTop (v1 := .int a2) (congrArg Value.int e_2) ?_
  have bd0_ := ki_bd hKI
  have wf_ := ki_wf hKI
  refine lGoL (w1 := fun u : Cst => wsC K ad u) (wc := wsC K ad S) (wr := mW K m0 gm h1 g1 h2 g2 M) (va_runV (As := [.int a1, .int a2]) (rest := []) ⟨hx, hb, hml, hown, hts⟩ (c_Y10_journal l G K ad S 82 a1 a2 _) (cwV 2 hts (wGV t_ (mw (.methodLink RL 149 yX10_journal) (List.mem_of_getElem? (i := 0) rfl)) (mw (.instanceMethod yX10_journal) (List.mem_of_getElem? (i := 1) rfl)) (mw (.selects RX10 yX10_journal yX10_journal) (List.mem_of_getElem? (i := 2) rfl)) (mw (.initialized RX10) (List.mem_of_getElem? (i := 3) rfl)) j_Y10_journal) rfl rfl rfl (by decide +kernel) ⟨Nat.le_of_ble_eq_true rfl, Nat.le_of_ble_eq_true rfl⟩) (cPV hK hE (pL hP) (dL hD) 7 rfl (at_7 hk7) ⟨hk7, kp_journal wf_ hk7 a1 a2⟩) rfl rfl hl.1 rfl (lv_room (Nat.le_of_ble_eq_true rfl)) dL_law_1042 ⟨by show S.1 + CM + 0 ≤ 600000; omega, by show S.2.1 + SM + 0 ≤ 7302249; omega⟩) hP hD hS hA (fun r u H locs hv hP hD hS => ?_)
  obtain ⟨ef, eu_⟩ := Prod.mk.inj hv
  rw [eu_] at hP hD
  refine cCells (cells' := S.1 + CM) (slots' := S.2.1 + SM) rfl rfl ?_
  have hKI2 := hKI
  refine lv_pop hx hb dL_law_1045 rfl ?_
  refine lv_aload_n hx hb dL_law_1046 rfl (lv_at hl 1 rfl) ?_
  refine lv_aload_n hx hb dL_law_1047 rfl (lv_at hl 3 rfl) ?_
  refine lv_iload_n hx hb dL_law_1048 rfl (lv_at hl 0 rfl) ?_
  refine lv_iconst (v := 1) hx hb dL_law_1049 (by decide) ?_
  refine lv_iadd hx hb dL_law_1050 ?_
  refine va_sld hx hb hX hbl hbA hS (hin 1 (by decide) (by decide)) dL_law_1051 ?_
  refine wTop (v1 := .int a1) (congrArg Value.int e_1) ?_
  refine lv_aload_n hx hb dL_law_1052 rfl (lv_at hl 3 rfl) ?_
  refine lv_iload_n hx hb dL_law_1053 rfl (lv_at hl 0 rfl) ?_
  refine lv_iconst (v := 2) hx hb dL_law_1054 (by decide) ?_
  refine lv_iadd hx hb dL_law_1055 ?_
  refine va_sld hx hb hX hbl hbA hS (hin 2 (by decide) (by decide)) dL_law_1056 ?_
  refine wTop (v1 := .int a2) (congrArg Value.int e_2) ?_
  obtain ⟨hpm, hMI2⟩ := m_journal hMI a1 a2
  have bd3_ := ki_bd hKI2
  refine lGoR (w1 := fun u : MS => mW K m0 gm h1 g1 h2 g2 u) (wa := wsC K ad S) (wc := mW K m0 gm h1 g1 h2 g2 M) (va_runV (As := [.int a1, .int a2]) (rest := []) ⟨hx, hb, hml, hown, hts⟩ (c_X12_journal l G K m0 gm h1 g1 h2 g2 M a1 a2 _) (cwV 2 hts (wGV t_ (mw (.methodLink RL 152 yX12_journal) (List.mem_of_getElem? (i := 4) rfl)) (mw (.instanceMethod yX12_journal) (List.mem_of_getElem? (i := 5) rfl)) (mw (.selects RX12 yX12_journal yX12_journal) (List.mem_of_getElem? (i := 6) rfl)) (mw (.initialized RX12) (List.mem_of_getElem? (i := 7) rfl)) j_X12_journal) rfl rfl rfl (by decide +kernel) ⟨Nat.le_of_ble_eq_true rfl, Nat.le_of_ble_eq_true rfl⟩) (mPVm hK hE (pR hP) (dR hD) hpm) rfl rfl hl.1 rfl (lv_room (Nat.le_of_ble_eq_true rfl)) dL_law_1057 ⟨by show S.1 + CM + 0 ≤ 600000; omega, by show S.2.1 + SM + 0 ≤ 7302249; omega⟩) hP hD hS hA (fun r2 u2 H locs hv2 hP hD hS => ?_)
  have eu2 : u2 = (f_X12_journal M a1 a2).2 := congrArg Prod.snd hv2
  have er2 : r2 = (f_X12_journal M a1 a2).1 := congrArg Prod.fst hv2
  rw [← eu2] at hMI2
  refine lv_pop hx hb dL_law_1060 rfl ?_
  refine lv_goto (tgt := 1267) hx hb dL_law_1061 (by decide) ?_
  have hRL2 : RQ S u2 := by
    rw [eu2]
    exact rl_journal hRL hKI hMI a1 a2
  exact next S ad u2 H locs ls hRL2 hKI2 hMI2 hP hD hS (lv_sub hl [0, 1, 2, 3] rfl)
def e_law_34 : List Cond := [.methodLink RL 153 yX10_before, .instanceMethod yX10_before, .selects RX10 yX10_before yX10_before, .initialized RX10, .methodLink RL 157 yX12_before, .instanceMethod yX12_before, .selects RX12 yX12_before yX12_before, .initialized RX12]
def v_law_34 : List Cond := (e_law_34 ++ (v_Y10_before ++ (v_X12_before ++ [])))
theorem te_law_34 : GoodIn lw_tbl e_law_34 := wGc zc1102 (wGc zc1101 (wGc zc1100 (wGc zc759 (wGc zc1099 (wGc zc1098 (wGc zc1097 (wGc zc886 (wG0))))))))
theorem t_law_34 : GoodIn lw_tbl v_law_34 := wGa te_law_34 (wGa t_Y10_before (wGa t_X12_before (wG0)))
set_option maxHeartbeats 4000000 in
set_option maxRecDepth 100000 in
theorem law_34 {p : Program} {l : Launch} {e : Env} {s : State} {m : MethodId} {below : List Frame} {meth : Method} {c : Code} {b L : Nat} {xs : Nat → Int32} (C0 : lw_At p s m meth c b L xs) {G : va_G} {K : Nat → ClassId} (hK : va_K G vwCl (wTY K) s) (hE : wE s) {nt : Nat} (hN : zst nt (fun q : Nat => s.heap.size ≤ q) s s.heap) {m0 h1 h2 : Nat} {gm g1 g2 : Nat → Nat} {CM SM : Nat} (hCM : CM ≤ 10000) (hSM : SM ≤ 1000000) {i : Int32} (hin : ∀ j : Int32, 0 ≤ j.toInt → j.toInt ≤ 6 → vp_in (i + j) L) (next : lInv p l e s m below meth c b G K m0 gm h1 g1 h2 g2 CM SM 1267 i) : lInv p l e s m below meth c b G K m0 gm h1 g1 h2 g2 CM SM 1064 i := by
  obtain ⟨hx, hb, hr, hml, hown, hts, hX, hbl, hlocks, hgv⟩ := id C0
  have hA : ∀ q : Nat, s.heap.size ≤ q → (fun q : Nat => s.heap.size ≤ q) q := fun _ h => h
  have hbA : ¬ (fun q : Nat => s.heap.size ≤ q) b := Nat.not_le.mpr hbl
  have t_ := t_law_34
  have hts := fun w (h : w ∈ v_law_34) => hts w (t_ w h).1
  have mw : ∀ w ∈ e_law_34, w ∈ v_law_34 := fun w h => List.mem_append_left _ h
  have j_Y10_before : ∀ w ∈ v_Y10_before, w ∈ v_law_34 := fun w h => List.mem_append_right _ (List.mem_append_left _ h)
  have j_X12_before : ∀ w ∈ v_X12_before, w ∈ v_law_34 := fun w h => List.mem_append_right _ (List.mem_append_right _ (List.mem_append_left _ h))
  intro S ad M H locs ls hRL hKI hMI hP hD hS hl
  have hk7 := ki7 hKI
  refine lv_aload_n hx hb dL_law_1064 rfl (lv_at hl 2 rfl) ?_
  refine lv_aload_n hx hb dL_law_1065 rfl (lv_at hl 3 rfl) ?_
  refine lv_iload_n hx hb dL_law_1066 rfl (lv_at hl 0 rfl) ?_
  refine lv_iconst (v := 1) hx hb dL_law_1067 (by decide) ?_
  refine lv_iadd hx hb dL_law_1068 ?_
  refine va_sld hx hb hX hbl hbA hS (hin 1 (by decide) (by decide)) dL_law_1069 ?_
  obtain ⟨a1, e_1⟩ : ∃ y : Int32, xs (i + 1).toNatClampNeg = y := ⟨_, rfl⟩
  refine wTop (v1 := .int a1) (congrArg Value.int e_1) ?_
  refine lv_aload_n hx hb dL_law_1070 rfl (lv_at hl 3 rfl) ?_
  refine lv_iload_n hx hb dL_law_1071 rfl (lv_at hl 0 rfl) ?_
  refine lv_iconst (v := 2) hx hb dL_law_1072 (by decide) ?_
  refine lv_iadd hx hb dL_law_1073 ?_
  refine va_sld hx hb hX hbl hbA hS (hin 2 (by decide) (by decide)) dL_law_1074 ?_
  obtain ⟨a2, e_2⟩ : ∃ y : Int32, xs (i + 2).toNatClampNeg = y := ⟨_, rfl⟩
  refine wTop (v1 := .int a2) (congrArg Value.int e_2) ?_
  refine lv_aload_n hx hb dL_law_1075 rfl (lv_at hl 3 rfl) ?_
  refine lv_iload_n hx hb dL_law_1076 rfl (lv_at hl 0 rfl) ?_
  refine lv_iconst (v := 3) hx hb dL_law_1077 (by decide) ?_
  refine lv_iadd hx hb dL_law_1078 ?_
  refine va_sld hx hb hX hbl hbA hS (hin 3 (by decide) (by decide)) dL_law_1079 ?_
  obtain ⟨a3, e_3⟩ : ∃ y : Int32, xs (i + 3).toNatClampNeg = y := ⟨_, rfl⟩
  refine wTop (v1 := .int a3) (congrArg Value.int e_3) ?_
  obtain ⟨v_, S2, ef, hp_, hKI2, en_⟩ := k_before hKI a1 a2 a3
  have bd_ := ki_bd hKI2
  refine lGoL (w1 := fun u : Cst × (Nat → Nat) => wsC K u.2 u.1) (wc := wsC K ad S) (wr := mW K m0 gm h1 g1 h2 g2 M) (va_runV (As := [.int a1, .int a2, .int a3]) (rest := []) ⟨hx, hb, hml, hown, hts⟩ (c_Y10_before l G K ad S 82 S2.1 S2.2.1 a1 a2 a3 _) (cwV 3 hts (wGV t_ (mw (.methodLink RL 153 yX10_before) (List.mem_of_getElem? (i := 0) rfl)) (mw (.instanceMethod yX10_before) (List.mem_of_getElem? (i := 1) rfl)) (mw (.selects RX10 yX10_before yX10_before) (List.mem_of_getElem? (i := 2) rfl)) (mw (.initialized RX10) (List.mem_of_getElem? (i := 3) rfl)) j_Y10_before) rfl rfl rfl (by decide +kernel) ⟨Nat.le_of_ble_eq_true rfl, Nat.le_of_ble_eq_true rfl⟩) (cPV hK hE (pL hP) (dL hD) 7 rfl (at_7 hk7) ⟨⟨en_.1.1, en_.1.2⟩, hk7, hp_ _ _ (Nat.le_refl _) (Nat.le_refl _)⟩) rfl rfl hl.1 rfl (lv_room (Nat.le_of_ble_eq_true rfl)) dL_law_1080 ⟨by show S.1 + CM + (S2.1 - S.1) ≤ 600000; have := en_.1.1; omega, by show S.2.1 + SM + (S2.2.1 - S.2.1) ≤ 7302249; have := en_.1.2; omega⟩) hP hD hS hA (fun r u H locs hv hP hD hS => ?_)
  obtain ⟨S3, ad1⟩ := u
  obtain ⟨hv, -, ha⟩ := hv
  have hv : (r, S3) = (v_, S2) := hv.trans ef
  obtain ⟨rfl, rfl⟩ := Prod.mk.inj hv
  have ha82 : ad1 82 = ad 82 := ha 82 hk7.1
  have hP : va_P G vwCl (wsC K ad1 S3 ++ mW K m0 gm h1 g1 h2 g2 M) H := hP
  have hD : va_D (fun q : Nat => s.heap.size ≤ q) (wsC K ad1 S3 ++ mW K m0 gm h1 g1 h2 g2 M) := hD
  rw [← ha82] at hl
  refine cCells (cells' := S3.1 + CM) (slots' := S3.2.1 + SM) (by have := en_.1.1; omega) (by have := en_.1.2; omega) ?_
  refine lv_pop hx hb dL_law_1083 rfl ?_
  refine lv_aload_n hx hb dL_law_1084 rfl (lv_at hl 1 rfl) ?_
  refine lv_aload_n hx hb dL_law_1085 rfl (lv_at hl 3 rfl) ?_
  refine lv_iload_n hx hb dL_law_1086 rfl (lv_at hl 0 rfl) ?_
  refine lv_iconst (v := 1) hx hb dL_law_1087 (by decide) ?_
  refine lv_iadd hx hb dL_law_1088 ?_
  refine va_sld hx hb hX hbl hbA hS (hin 1 (by decide) (by decide)) dL_law_1089 ?_
  refine wTop (v1 := .int a1) (congrArg Value.int e_1) ?_
  refine lv_aload_n hx hb dL_law_1090 rfl (lv_at hl 3 rfl) ?_
  refine lv_iload_n hx hb dL_law_1091 rfl (lv_at hl 0 rfl) ?_
  refine lv_iconst (v := 2) hx hb dL_law_1092 (by decide) ?_
  refine lv_iadd hx hb dL_law_1093 ?_
  refine va_sld hx hb hX hbl hbA hS (hin 2 (by decide) (by decide)) dL_law_1094 ?_
  refine wTop (v1 := .int a2) (congrArg Value.int e_2) ?_
  refine lv_aload_n hx hb dL_law_1095 rfl (lv_at hl 3 rfl) ?_
  refine lv_iload_n hx hb dL_law_1096 rfl (lv_at hl 0 rfl) ?_
  refine lv_iconst (v := 3) hx hb dL_law_1097 (by decide) ?_
  refine lv_iadd hx hb dL_law_1098 ?_
  refine va_sld hx hb hX hbl hbA hS (hin 3 (by decide) (by decide)) dL_law_1099 ?_
  refine wTop (v1 := .int a3) (congrArg Value.int e_3) ?_
  obtain ⟨hpm, hMI2⟩ := m_before hMI a1 a2 a3
  have bd3_ := ki_bd hKI2
  refine lGoR (w1 := fun u : MS => mW K m0 gm h1 g1 h2 g2 u) (wa := wsC K ad1 S3) (wc := mW K m0 gm h1 g1 h2 g2 M) (va_runV (As := [.int a1, .int a2, .int a3]) (rest := []) ⟨hx, hb, hml, hown, hts⟩ (c_X12_before l G K m0 gm h1 g1 h2 g2 M a1 a2 a3 _) (cwV 3 hts (wGV t_ (mw (.methodLink RL 157 yX12_before) (List.mem_of_getElem? (i := 4) rfl)) (mw (.instanceMethod yX12_before) (List.mem_of_getElem? (i := 5) rfl)) (mw (.selects RX12 yX12_before yX12_before) (List.mem_of_getElem? (i := 6) rfl)) (mw (.initialized RX12) (List.mem_of_getElem? (i := 7) rfl)) j_X12_before) rfl rfl rfl (by decide +kernel) ⟨Nat.le_of_ble_eq_true rfl, Nat.le_of_ble_eq_true rfl⟩) (mPVm hK hE (pR hP) (dR hD) hpm) rfl rfl hl.1 rfl (lv_room (Nat.le_of_ble_eq_true rfl)) dL_law_1100 ⟨by show S3.1 + CM + 0 ≤ 600000; omega, by show S3.2.1 + SM + 0 ≤ 7302249; omega⟩) hP hD hS hA (fun r2 u2 H locs hv2 hP hD hS => ?_)
  have eu2 : u2 = (f_X12_before M a1 a2 a3).2 := congrArg Prod.snd hv2
  have er2 : r2 = (f_X12_before M a1 a2 a3).1 := congrArg Prod.fst hv2
  rw [← eu2] at hMI2
  refine lv_pop hx hb dL_law_1103 rfl ?_
  refine lv_goto (tgt := 1267) hx hb dL_law_1104 (by decide) ?_
  have hRL2 : RQ S3 u2 := by
    rw [eu2]
    exact rl_before hRL hKI hMI a1 a2 a3 ef
  exact next S3 ad1 u2 H locs ls hRL2 hKI2 hMI2 hP hD hS (lv_sub hl [0, 1, 2, 3] rfl)
