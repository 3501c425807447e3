def e_law_35 : List Cond := [.methodLink RL 158 yX10_again, .instanceMethod yX10_again, .selects RX10 yX10_again yX10_again, .initialized RX10, .methodLink RL 161 yX12_again, .instanceMethod yX12_again, .selects RX12 yX12_again yX12_again, .initialized RX12]
def v_law_35 : List Cond := (e_law_35 ++ (v_Y10_again ++ (v_X12_again ++ [])))
theorem te_law_35 : GoodIn lw_tbl e_law_35 := wGc zc1108 (wGc zc1107 (wGc zc1106 (wGc zc759 (wGc zc1105 (wGc zc1104 (wGc zc1103 (wGc zc886 (wG0))))))))
theorem t_law_35 : GoodIn lw_tbl v_law_35 := wGa te_law_35 (wGa t_Y10_again (wGa t_X12_again (wG0)))
set_option maxHeartbeats 4000000 in
set_option maxRecDepth 100000 in
theorem law_35 {p : Program} {l : Launch} {e : Env} {s : State} {m : MethodId} {below : List Frame} {meth : Method} {c : Code} {b L : Nat} {xs : Nat → Int32} (C0 : lw_At p s m meth c b L xs) {G : va_G} {K : Nat → ClassId} (hK : va_K G vwCl (wTY K) s) (hE : wE s) {nt : Nat} (hN : zst nt (fun q : Nat => s.heap.size ≤ q) s s.heap) {m0 h1 h2 : Nat} {gm g1 g2 : Nat → Nat} {CM SM : Nat} (hCM : CM ≤ 10000) (hSM : SM ≤ 1000000) {i : Int32} (hin : ∀ j : Int32, 0 ≤ j.toInt → j.toInt ≤ 6 → vp_in (i + j) L) (next : lInv p l e s m below meth c b G K m0 gm h1 g1 h2 g2 CM SM 1267 i) : lInv p l e s m below meth c b G K m0 gm h1 g1 h2 g2 CM SM 1107 i := by
  obtain ⟨hx, hb, hr, hml, hown, hts, hX, hbl, hlocks, hgv⟩ := id C0
  have hA : ∀ q : Nat, s.heap.size ≤ q → (fun q : Nat => s.heap.size ≤ q) q := fun _ h => h
  have hbA : ¬ (fun q : Nat => s.heap.size ≤ q) b := Nat.not_le.mpr hbl
  have t_ := t_law_35
  have hts := fun w (h : w ∈ v_law_35) => hts w (t_ w h).1
  have mw : ∀ w ∈ e_law_35, w ∈ v_law_35 := fun w h => List.mem_append_left _ h
  have j_Y10_again : ∀ w ∈ v_Y10_again, w ∈ v_law_35 := fun w h => List.mem_append_right _ (List.mem_append_left _ h)
  have j_X12_again : ∀ w ∈ v_X12_again, w ∈ v_law_35 := fun w h => List.mem_append_right _ (List.mem_append_right _ (List.mem_append_left _ h))
  intro S ad M H locs ls hRL hKI hMI hP hD hS hl
  have hk7 := ki7 hKI
  refine lv_aload_n hx hb dL_law_1107 rfl (lv_at hl 2 rfl) ?_
  obtain ⟨v_, S2, ef, hp_, hKI2, en_⟩ := k_again hKI
  have bd_ := ki_bd hKI2
  refine lGoL (w1 := fun u : Cst × (Nat → Nat) => wsC K u.2 u.1) (wc := wsC K ad S) (wr := mW K m0 gm h1 g1 h2 g2 M) (va_runV (As := []) (rest := []) ⟨hx, hb, hml, hown, hts⟩ (c_Y10_again l G K ad S 82 S2.1 S2.2.1 _) (cwV 0 hts (wGV t_ (mw (.methodLink RL 158 yX10_again) (List.mem_of_getElem? (i := 0) rfl)) (mw (.instanceMethod yX10_again) (List.mem_of_getElem? (i := 1) rfl)) (mw (.selects RX10 yX10_again yX10_again) (List.mem_of_getElem? (i := 2) rfl)) (mw (.initialized RX10) (List.mem_of_getElem? (i := 3) rfl)) j_Y10_again) rfl rfl rfl (by decide +kernel) ⟨Nat.le_of_ble_eq_true rfl, Nat.le_of_ble_eq_true rfl⟩) (cPV hK hE (pL hP) (dL hD) 7 rfl (at_7 hk7) ⟨⟨en_.1.1, en_.1.2⟩, hk7, hp_ _ _ (Nat.le_refl _) (Nat.le_refl _)⟩) rfl rfl hl.1 rfl (lv_room (Nat.le_of_ble_eq_true rfl)) dL_law_1108 ⟨by show S.1 + CM + (S2.1 - S.1) ≤ 600000; have := en_.1.1; omega, by show S.2.1 + SM + (S2.2.1 - S.2.1) ≤ 7302249; have := en_.1.2; omega⟩) hP hD hS hA (fun r u H locs hv hP hD hS => ?_)
  obtain ⟨S3, ad1⟩ := u
  obtain ⟨hv, -, ha⟩ := hv
  have hv : (r, S3) = (v_, S2) := hv.trans ef
  obtain ⟨rfl, rfl⟩ := Prod.mk.inj hv
  have ha82 : ad1 82 = ad 82 := ha 82 hk7.1
  have hP : va_P G vwCl (wsC K ad1 S3 ++ mW K m0 gm h1 g1 h2 g2 M) H := hP
  have hD : va_D (fun q : Nat => s.heap.size ≤ q) (wsC K ad1 S3 ++ mW K m0 gm h1 g1 h2 g2 M) := hD
  rw [← ha82] at hl
  refine cCells (cells' := S3.1 + CM) (slots' := S3.2.1 + SM) (by have := en_.1.1; omega) (by have := en_.1.2; omega) ?_
  refine lv_pop hx hb dL_law_1111 rfl ?_
  refine lv_aload_n hx hb dL_law_1112 rfl (lv_at hl 1 rfl) ?_
  obtain ⟨hpm, hMI2⟩ := m_again hMI
  have bd3_ := ki_bd hKI2
  refine lGoR (w1 := fun u : MS => mW K m0 gm h1 g1 h2 g2 u) (wa := wsC K ad1 S3) (wc := mW K m0 gm h1 g1 h2 g2 M) (va_runV (As := []) (rest := []) ⟨hx, hb, hml, hown, hts⟩ (c_X12_again l G K m0 gm h1 g1 h2 g2 M _) (cwV 0 hts (wGV t_ (mw (.methodLink RL 161 yX12_again) (List.mem_of_getElem? (i := 4) rfl)) (mw (.instanceMethod yX12_again) (List.mem_of_getElem? (i := 5) rfl)) (mw (.selects RX12 yX12_again yX12_again) (List.mem_of_getElem? (i := 6) rfl)) (mw (.initialized RX12) (List.mem_of_getElem? (i := 7) rfl)) j_X12_again) rfl rfl rfl (by decide +kernel) ⟨Nat.le_of_ble_eq_true rfl, Nat.le_of_ble_eq_true rfl⟩) (mPVm hK hE (pR hP) (dR hD) hpm) rfl rfl hl.1 rfl (lv_room (Nat.le_of_ble_eq_true rfl)) dL_law_1113 ⟨by show S3.1 + CM + 0 ≤ 600000; omega, by show S3.2.1 + SM + 0 ≤ 7302249; omega⟩) hP hD hS hA (fun r2 u2 H locs hv2 hP hD hS => ?_)
  have eu2 : u2 = (f_X12_again M).2 := congrArg Prod.snd hv2
  have er2 : r2 = (f_X12_again M).1 := congrArg Prod.fst hv2
  rw [← eu2] at hMI2
  refine lv_pop hx hb dL_law_1116 rfl ?_
  refine lv_goto (tgt := 1267) hx hb dL_law_1117 (by decide) ?_
  have hRL2 : RQ S3 u2 := by
    rw [eu2]
    exact rl_again hRL hKI hMI ef
  exact next S3 ad1 u2 H locs ls hRL2 hKI2 hMI2 hP hD hS (lv_sub hl [0, 1, 2, 3] rfl)
def e_law_36 : List Cond := [.methodLink RL 162 yX10_tell, .instanceMethod yX10_tell, .selects RX10 yX10_tell yX10_tell, .initialized RX10, .methodLink RL 166 yX12_tell, .instanceMethod yX12_tell, .selects RX12 yX12_tell yX12_tell, .initialized RX12]
def v_law_36 : List Cond := (e_law_36 ++ (v_Y10_tell ++ (v_X12_tell ++ [])))
theorem te_law_36 : GoodIn lw_tbl e_law_36 := wGc zc1114 (wGc zc1113 (wGc zc1112 (wGc zc759 (wGc zc1111 (wGc zc1110 (wGc zc1109 (wGc zc886 (wG0))))))))
theorem t_law_36 : GoodIn lw_tbl v_law_36 := wGa te_law_36 (wGa t_Y10_tell (wGa t_X12_tell (wG0)))
set_option maxHeartbeats 4000000 in
set_option maxRecDepth 100000 in
theorem law_36 {p : Program} {l : Launch} {e : Env} {s : State} {m : MethodId} {below : List Frame} {meth : Method} {c : Code} {b L : Nat} {xs : Nat → Int32} (C0 : lw_At p s m meth c b L xs) {G : va_G} {K : Nat → ClassId} (hK : va_K G vwCl (wTY K) s) (hE : wE s) {nt : Nat} (hN : zst nt (fun q : Nat => s.heap.size ≤ q) s s.heap) {m0 h1 h2 : Nat} {gm g1 g2 : Nat → Nat} {CM SM : Nat} (hCM : CM ≤ 10000) (hSM : SM ≤ 1000000) {i : Int32} (hin : ∀ j : Int32, 0 ≤ j.toInt → j.toInt ≤ 6 → vp_in (i + j) L) (next : lInv p l e s m below meth c b G K m0 gm h1 g1 h2 g2 CM SM 1267 i) : lInv p l e s m below meth c b G K m0 gm h1 g1 h2 g2 CM SM 1120 i := by
  obtain ⟨hx, hb, hr, hml, hown, hts, hX, hbl, hlocks, hgv⟩ := id C0
  have hA : ∀ q : Nat, s.heap.size ≤ q → (fun q : Nat => s.heap.size ≤ q) q := fun _ h => h
  have hbA : ¬ (fun q : Nat => s.heap.size ≤ q) b := Nat.not_le.mpr hbl
  have t_ := t_law_36
  have hts := fun w (h : w ∈ v_law_36) => hts w (t_ w h).1
  have mw : ∀ w ∈ e_law_36, w ∈ v_law_36 := fun w h => List.mem_append_left _ h
  have j_Y10_tell : ∀ w ∈ v_Y10_tell, w ∈ v_law_36 := fun w h => List.mem_append_right _ (List.mem_append_left _ h)
  have j_X12_tell : ∀ w ∈ v_X12_tell, w ∈ v_law_36 := fun w h => List.mem_append_right _ (List.mem_append_right _ (List.mem_append_left _ h))
  intro S ad M H locs ls hRL hKI hMI hP hD hS hl
  have hk7 := ki7 hKI
  refine lv_aload_n hx hb dL_law_1120 rfl (lv_at hl 2 rfl) ?_
  refine lv_aload_n hx hb dL_law_1121 rfl (lv_at hl 3 rfl) ?_
  refine lv_iload_n hx hb dL_law_1122 rfl (lv_at hl 0 rfl) ?_
  refine lv_iconst (v := 1) hx hb dL_law_1123 (by decide) ?_
  refine lv_iadd hx hb dL_law_1124 ?_
  refine va_sld hx hb hX hbl hbA hS (hin 1 (by decide) (by decide)) dL_law_1125 ?_
  obtain ⟨a1, e_1⟩ : ∃ y : Int32, xs (i + 1).toNatClampNeg = y := ⟨_, rfl⟩
  refine wTop (v1 := .int a1) (congrArg Value.int e_1) ?_
  refine lv_aload_n hx hb dL_law_1126 rfl (lv_at hl 3 rfl) ?_
  refine lv_iload_n hx hb dL_law_1127 rfl (lv_at hl 0 rfl) ?_
  refine lv_iconst (v := 2) hx hb dL_law_1128 (by decide) ?_
  refine lv_iadd hx hb dL_law_1129 ?_
  refine va_sld hx hb hX hbl hbA hS (hin 2 (by decide) (by decide)) dL_law_1130 ?_
  obtain ⟨a2, e_2⟩ : ∃ y : Int32, xs (i + 2).toNatClampNeg = y := ⟨_, rfl⟩
  refine wTop (v1 := .int a2) (congrArg Value.int e_2) ?_
  refine lv_aload_n hx hb dL_law_1131 rfl (lv_at hl 3 rfl) ?_
  refine lv_iload_n hx hb dL_law_1132 rfl (lv_at hl 0 rfl) ?_
  refine lv_iconst (v := 3) hx hb dL_law_1133 (by decide) ?_
  refine lv_iadd hx hb dL_law_1134 ?_
  refine va_sld hx hb hX hbl hbA hS (hin 3 (by decide) (by decide)) dL_law_1135 ?_
  obtain ⟨a3, e_3⟩ : ∃ y : Int32, xs (i + 3).toNatClampNeg = y := ⟨_, rfl⟩
  refine wTop (v1 := .int a3) (congrArg Value.int e_3) ?_
  refine lv_aload_n hx hb dL_law_1136 rfl (lv_at hl 3 rfl) ?_
  refine lv_iload_n hx hb dL_law_1137 rfl (lv_at hl 0 rfl) ?_
  refine lv_iconst (v := 4) hx hb dL_law_1138 (by decide) ?_
  refine lv_iadd hx hb dL_law_1139 ?_
  refine va_sld hx hb hX hbl hbA hS (hin 4 (by decide) (by decide)) dL_law_1140 ?_
  obtain ⟨a4, e_4⟩ : ∃ y : Int32, xs (i + 4).toNatClampNeg = y := ⟨_, rfl⟩
  refine wTop (v1 := .int a4) (congrArg Value.int e_4) ?_
  refine lv_aload_n hx hb dL_law_1141 rfl (lv_at hl 3 rfl) ?_
  refine lv_iload_n hx hb dL_law_1142 rfl (lv_at hl 0 rfl) ?_
  refine lv_iconst (v := 5) hx hb dL_law_1143 (by decide) ?_
  refine lv_iadd hx hb dL_law_1144 ?_
  refine va_sld hx hb hX hbl hbA hS (hin 5 (by decide) (by decide)) dL_law_1145 ?_
  obtain ⟨a5, e_5⟩ : ∃ y : Int32, xs (i + 5).toNatClampNeg = y := ⟨_, rfl⟩
  refine wTop (v1 := .int a5) (congrArg Value.int e_5) ?_
  refine lv_aload_n hx hb dL_law_1146 rfl (lv_at hl 3 rfl) ?_
  refine lv_iload_n hx hb dL_law_1147 rfl (lv_at hl 0 rfl) ?_
  refine lv_bipush (v := 6) hx hb dL_law_1148 (by decide) ?_
  refine lv_iadd hx hb dL_law_1150 ?_
  refine va_sld hx hb hX hbl hbA hS (hin 6 (by decide) (by decide)) dL_law_1151 ?_
  obtain ⟨a6, e_6⟩ : ∃ y : Int32, xs (i + 6).toNatClampNeg = y := ⟨_, rfl⟩
  refine wTop (v1 := .int a6) (congrArg Value.int e_6) ?_
  obtain ⟨v_, S2, ef, hp_, hKI2, en_⟩ := k_tell hKI a1 a2 a3 a4 a5 a6
  have bd_ := ki_bd hKI2
  refine lGoL (w1 := fun u : Cst × (Nat → Nat) => wsC K u.2 u.1) (wc := wsC K ad S) (wr := mW K m0 gm h1 g1 h2 g2 M) (va_runV (As := [.int a1, .int a2, .int a3, .int a4, .int a5, .int a6]) (rest := []) ⟨hx, hb, hml, hown, hts⟩ (c_Y10_tell l G K ad S 82 S2.1 S2.2.1 a1 a2 a3 a4 a5 a6 _) (cwV 6 hts (wGV t_ (mw (.methodLink RL 162 yX10_tell) (List.mem_of_getElem? (i := 0) rfl)) (mw (.instanceMethod yX10_tell) (List.mem_of_getElem? (i := 1) rfl)) (mw (.selects RX10 yX10_tell yX10_tell) (List.mem_of_getElem? (i := 2) rfl)) (mw (.initialized RX10) (List.mem_of_getElem? (i := 3) rfl)) j_Y10_tell) rfl rfl rfl (by decide +kernel) ⟨Nat.le_of_ble_eq_true rfl, Nat.le_of_ble_eq_true rfl⟩) (cPV hK hE (pL hP) (dL hD) 7 rfl (at_7 hk7) ⟨⟨en_.1.1, en_.1.2⟩, hk7, hp_ _ _ (Nat.le_refl _) (Nat.le_refl _)⟩) rfl rfl hl.1 rfl (lv_room (Nat.le_of_ble_eq_true rfl)) dL_law_1152 ⟨by show S.1 + CM + (S2.1 - S.1) ≤ 600000; have := en_.1.1; omega, by show S.2.1 + SM + (S2.2.1 - S.2.1) ≤ 7302249; have := en_.1.2; omega⟩) hP hD hS hA (fun r u H locs hv hP hD hS => ?_)
  obtain ⟨S3, ad1⟩ := u
  obtain ⟨hv, -, ha⟩ := hv
  have hv : (r, S3) = (v_, S2) := hv.trans ef
  obtain ⟨rfl, rfl⟩ := Prod.mk.inj hv
  have ha82 : ad1 82 = ad 82 := ha 82 hk7.1
  have hP : va_P G vwCl (wsC K ad1 S3 ++ mW K m0 gm h1 g1 h2 g2 M) H := hP
  have hD : va_D (fun q : Nat => s.heap.size ≤ q) (wsC K ad1 S3 ++ mW K m0 gm h1 g1 h2 g2 M) := hD
  rw [← ha82] at hl
  refine cCells (cells' := S3.1 + CM) (slots' := S3.2.1 + SM) (by have := en_.1.1; omega) (by have := en_.1.2; omega) ?_
  refine lv_pop hx hb dL_law_1155 rfl ?_
  refine lv_aload_n hx hb dL_law_1156 rfl (lv_at hl 1 rfl) ?_
  refine lv_aload_n hx hb dL_law_1157 rfl (lv_at hl 3 rfl) ?_
  refine lv_iload_n hx hb dL_law_1158 rfl (lv_at hl 0 rfl) ?_
  refine lv_iconst (v := 1) hx hb dL_law_1159 (by decide) ?_
  refine lv_iadd hx hb dL_law_1160 ?_
  refine va_sld hx hb hX hbl hbA hS (hin 1 (by decide) (by decide)) dL_law_1161 ?_
  refine wTop (v1 := .int a1) (congrArg Value.int e_1) ?_
  refine lv_aload_n hx hb dL_law_1162 rfl (lv_at hl 3 rfl) ?_
  refine lv_iload_n hx hb dL_law_1163 rfl (lv_at hl 0 rfl) ?_
  refine lv_iconst (v := 2) hx hb dL_law_1164 (by decide) ?_
  refine lv_iadd hx hb dL_law_1165 ?_
  refine va_sld hx hb hX hbl hbA hS (hin 2 (by decide) (by decide)) dL_law_1166 ?_
  refine wTop (v1 := .int a2) (congrArg Value.int e_2) ?_
  refine lv_aload_n hx hb dL_law_1167 rfl (lv_at hl 3 rfl) ?_
  refine lv_iload_n hx hb dL_law_1168 rfl (lv_at hl 0 rfl) ?_
  refine lv_iconst (v := 3) hx hb dL_law_1169 (by decide) ?_
  refine lv_iadd hx hb dL_law_1170 ?_
  refine va_sld hx hb hX hbl hbA hS (hin 3 (by decide) (by decide)) dL_law_1171 ?_
  refine wTop (v1 := .int a3) (congrArg Value.int e_3) ?_
  refine lv_aload_n hx hb dL_law_1172 rfl (lv_at hl 3 rfl) ?_
  refine lv_iload_n hx hb dL_law_1173 rfl (lv_at hl 0 rfl) ?_
  refine lv_iconst (v := 4) hx hb dL_law_1174 (by decide) ?_
  refine lv_iadd hx hb dL_law_1175 ?_
  refine va_sld hx hb hX hbl hbA hS (hin 4 (by decide) (by decide)) dL_law_1176 ?_
  refine wTop (v1 := .int a4) (congrArg Value.int e_4) ?_
  refine lv_aload_n hx hb dL_law_1177 rfl (lv_at hl 3 rfl) ?_
  refine lv_iload_n hx hb dL_law_1178 rfl (lv_at hl 0 rfl) ?_
  refine lv_iconst (v := 5) hx hb dL_law_1179 (by decide) ?_
  refine lv_iadd hx hb dL_law_1180 ?_
  refine va_sld hx hb hX hbl hbA hS (hin 5 (by decide) (by decide)) dL_law_1181 ?_
  refine wTop (v1 := .int a5) (congrArg Value.int e_5) ?_
  refine lv_aload_n hx hb dL_law_1182 rfl (lv_at hl 3 rfl) ?_
  refine lv_iload_n hx hb dL_law_1183 rfl (lv_at hl 0 rfl) ?_
  refine lv_bipush (v := 6) hx hb dL_law_1184 (by decide) ?_
  refine lv_iadd hx hb dL_law_1186 ?_
  refine va_sld hx hb hX hbl hbA hS (hin 6 (by decide) (by decide)) dL_law_1187 ?_
  refine wTop (v1 := .int a6) (congrArg Value.int e_6) ?_
  obtain ⟨hpm, hMI2⟩ := m_tell hMI a1 a2 a3 a4 a5 a6
  have bd3_ := ki_bd hKI2
  refine lGoR (w1 := fun u : MS => mW K m0 gm h1 g1 h2 g2 u) (wa := wsC K ad1 S3) (wc := mW K m0 gm h1 g1 h2 g2 M) (va_runV (As := [.int a1, .int a2, .int a3, .int a4, .int a5, .int a6]) (rest := []) ⟨hx, hb, hml, hown, hts⟩ (c_X12_tell l G K m0 gm h1 g1 h2 g2 M a1 a2 a3 a4 a5 a6 _) (cwV 6 hts (wGV t_ (mw (.methodLink RL 166 yX12_tell) (List.mem_of_getElem? (i := 4) rfl)) (mw (.instanceMethod yX12_tell) (List.mem_of_getElem? (i := 5) rfl)) (mw (.selects RX12 yX12_tell yX12_tell) (List.mem_of_getElem? (i := 6) rfl)) (mw (.initialized RX12) (List.mem_of_getElem? (i := 7) rfl)) j_X12_tell) rfl rfl rfl (by decide +kernel) ⟨Nat.le_of_ble_eq_true rfl, Nat.le_of_ble_eq_true rfl⟩) (mPVm hK hE (pR hP) (dR hD) hpm) rfl rfl hl.1 rfl (lv_room (Nat.le_of_ble_eq_true rfl)) dL_law_1188 ⟨by show S3.1 + CM + 0 ≤ 600000; omega, by show S3.2.1 + SM + 0 ≤ 7302249; omega⟩) hP hD hS hA (fun r2 u2 H locs hv2 hP hD hS => ?_)
  have eu2 : u2 = (f_X12_tell M a1 a2 a3 a4 a5 a6).2 := congrArg Prod.snd hv2
  have er2 : r2 = (f_X12_tell M a1 a2 a3 a4 a5 a6).1 := congrArg Prod.fst hv2
  rw [← eu2] at hMI2
  refine lv_pop hx hb dL_law_1191 rfl ?_
  refine lv_goto (tgt := 1267) hx hb dL_law_1192 (by decide) ?_
  have hRL2 : RQ S3 u2 := by
    rw [eu2]
    exact rl_tell hRL hKI hMI a1 a2 a3 a4 a5 a6 ef
  exact next S3 ad1 u2 H locs ls hRL2 hKI2 hMI2 hP hD hS (lv_sub hl [0, 1, 2, 3] rfl)
def e_law_37 : List Cond := [.methodLink RL 167 yX10_check, .instanceMethod yX10_check, .selects RX10 yX10_check yX10_check, .initialized RX10, .methodLink RL 170 yX12_check, .instanceMethod yX12_check, .selects RX12 yX12_check yX12_check, .initialized RX12]
def v_law_37 : List Cond := (e_law_37 ++ (v_Y10_check ++ (v_X12_check ++ [])))
theorem te_law_37 : GoodIn lw_tbl e_law_37 := wGc zc1120 (wGc zc1119 (wGc zc1118 (wGc zc759 (wGc zc1117 (wGc zc1116 (wGc zc1115 (wGc zc886 (wG0))))))))
theorem t_law_37 : GoodIn lw_tbl v_law_37 := wGa te_law_37 (wGa t_Y10_check (wGa t_X12_check (wG0)))
set_option maxHeartbeats 4000000 in
set_option maxRecDepth 100000 in
theorem law_37 {p : Program} {l : Launch} {e : Env} {s : State} {m : MethodId} {below : List Frame} {meth : Method} {c : Code} {b L : Nat} {xs : Nat → Int32} (C0 : lw_At p s m meth c b L xs) {G : va_G} {K : Nat → ClassId} (hK : va_K G vwCl (wTY K) s) (hE : wE s) {nt : Nat} (hN : zst nt (fun q : Nat => s.heap.size ≤ q) s s.heap) {m0 h1 h2 : Nat} {gm g1 g2 : Nat → Nat} {CM SM : Nat} (hCM : CM ≤ 10000) (hSM : SM ≤ 1000000) {i : Int32} (hin : ∀ j : Int32, 0 ≤ j.toInt → j.toInt ≤ 6 → vp_in (i + j) L) (next : lInv p l e s m below meth c b G K m0 gm h1 g1 h2 g2 CM SM 1267 i) : lInv p l e s m below meth c b G K m0 gm h1 g1 h2 g2 CM SM 1195 i := by
  obtain ⟨hx, hb, hr, hml, hown, hts, hX, hbl, hlocks, hgv⟩ := id C0
  have hA : ∀ q : Nat, s.heap.size ≤ q → (fun q : Nat => s.heap.size ≤ q) q := fun _ h => h
  have hbA : ¬ (fun q : Nat => s.heap.size ≤ q) b := Nat.not_le.mpr hbl
  have t_ := t_law_37
  have hts := fun w (h : w ∈ v_law_37) => hts w (t_ w h).1
  have mw : ∀ w ∈ e_law_37, w ∈ v_law_37 := fun w h => List.mem_append_left _ h
  have j_Y10_check : ∀ w ∈ v_Y10_check, w ∈ v_law_37 := fun w h => List.mem_append_right _ (List.mem_append_left _ h)
  have j_X12_check : ∀ w ∈ v_X12_check, w ∈ v_law_37 := fun w h => List.mem_append_right _ (List.mem_append_right _ (List.mem_append_left _ h))
  intro S ad M H locs ls hRL hKI hMI hP hD hS hl
  have hk7 := ki7 hKI
  refine lv_aload_n hx hb dL_law_1195 rfl (lv_at hl 2 rfl) ?_
  obtain ⟨v_, S2, ef, hp_, hKI2, en_⟩ := k_check hKI
  have bd_ := ki_bd hKI2
  refine lGoL (w1 := fun u : Cst × (Nat → Nat) => wsC K u.2 u.1) (wc := wsC K ad S) (wr := mW K m0 gm h1 g1 h2 g2 M) (va_runV (As := []) (rest := []) ⟨hx, hb, hml, hown, hts⟩ (c_Y10_check l G K ad S 82 S2.1 S2.2.1 nt _) (cwV 0 hts (wGV t_ (mw (.methodLink RL 167 yX10_check) (List.mem_of_getElem? (i := 0) rfl)) (mw (.instanceMethod yX10_check) (List.mem_of_getElem? (i := 1) rfl)) (mw (.selects RX10 yX10_check yX10_check) (List.mem_of_getElem? (i := 2) rfl)) (mw (.initialized RX10) (List.mem_of_getElem? (i := 3) rfl)) j_Y10_check) rfl rfl rfl (by decide +kernel) ⟨Nat.le_of_ble_eq_true rfl, Nat.le_of_ble_eq_true rfl⟩) (zPV hK hE (pL hP) (dL hD) hN hS hA 7 rfl (at_7 hk7) ⟨⟨en_.1.1, en_.1.2⟩, hk7, hp_ _ _ (Nat.le_refl _) (Nat.le_refl _)⟩) rfl rfl hl.1 rfl (lv_room (Nat.le_of_ble_eq_true rfl)) dL_law_1196 ⟨by show S.1 + CM + (S2.1 - S.1) ≤ 600000; have := en_.1.1; omega, by show S.2.1 + SM + (S2.2.1 - S.2.1) ≤ 7302249; have := en_.1.2; omega⟩) hP hD hS hA (fun r u H locs hv hP hD hS => ?_)
  obtain ⟨S3, ad1⟩ := u
  obtain ⟨hv, -, ha⟩ := hv
  have hv : (r, S3) = (v_, S2) := hv.trans ef
  obtain ⟨rfl, rfl⟩ := Prod.mk.inj hv
  have ha82 : ad1 82 = ad 82 := ha 82 hk7.1
  have hP : va_P G vwCl (wsC K ad1 S3 ++ mW K m0 gm h1 g1 h2 g2 M) H := hP
  have hD : va_D (fun q : Nat => s.heap.size ≤ q) (wsC K ad1 S3 ++ mW K m0 gm h1 g1 h2 g2 M) := hD
  rw [← ha82] at hl
  refine cCells (cells' := S3.1 + CM) (slots' := S3.2.1 + SM) (by have := en_.1.1; omega) (by have := en_.1.2; omega) ?_
  refine lv_pop hx hb dL_law_1199 rfl ?_
  refine lv_aload_n hx hb dL_law_1200 rfl (lv_at hl 1 rfl) ?_
  obtain ⟨hpm, hMI2⟩ := m_check hMI
  have bd3_ := ki_bd hKI2
  refine lGoR (w1 := fun u : MS => mW K m0 gm h1 g1 h2 g2 u) (wa := wsC K ad1 S3) (wc := mW K m0 gm h1 g1 h2 g2 M) (va_runV (As := []) (rest := []) ⟨hx, hb, hml, hown, hts⟩ (c_X12_check l G K m0 gm h1 g1 h2 g2 M _) (cwV 0 hts (wGV t_ (mw (.methodLink RL 170 yX12_check) (List.mem_of_getElem? (i := 4) rfl)) (mw (.instanceMethod yX12_check) (List.mem_of_getElem? (i := 5) rfl)) (mw (.selects RX12 yX12_check yX12_check) (List.mem_of_getElem? (i := 6) rfl)) (mw (.initialized RX12) (List.mem_of_getElem? (i := 7) rfl)) j_X12_check) rfl rfl rfl (by decide +kernel) ⟨Nat.le_of_ble_eq_true rfl, Nat.le_of_ble_eq_true rfl⟩) (mPVm hK hE (pR hP) (dR hD) hpm) rfl rfl hl.1 rfl (lv_room (Nat.le_of_ble_eq_true rfl)) dL_law_1201 ⟨by show S3.1 + CM + 0 ≤ 600000; omega, by show S3.2.1 + SM + 0 ≤ 7302249; omega⟩) hP hD hS hA (fun r2 u2 H locs hv2 hP hD hS => ?_)
  have eu2 : u2 = (f_X12_check M).2 := congrArg Prod.snd hv2
  have er2 : r2 = (f_X12_check M).1 := congrArg Prod.fst hv2
  rw [← eu2] at hMI2
  refine lv_pop hx hb dL_law_1204 rfl ?_
  refine lv_goto (tgt := 1267) hx hb dL_law_1205 (by decide) ?_
  have hRL2 : RQ S3 u2 := by
    rw [eu2]
    exact rl_check hRL hKI hMI ef
  exact next S3 ad1 u2 H locs ls hRL2 hKI2 hMI2 hP hD hS (lv_sub hl [0, 1, 2, 3] rfl)
def e_law_38 : List Cond := [.methodLink RL 171 yX10_strike, .instanceMethod yX10_strike, .selects RX10 yX10_strike yX10_strike, .initialized RX10, .methodLink RL 174 yX12_strike, .instanceMethod yX12_strike, .selects RX12 yX12_strike yX12_strike, .initialized RX12]
def v_law_38 : List Cond := (e_law_38 ++ (v_Y10_strike ++ (v_X12_strike ++ [])))
theorem te_law_38 : GoodIn lw_tbl e_law_38 := wGc zc1126 (wGc zc1125 (wGc zc1124 (wGc zc759 (wGc zc1123 (wGc zc1122 (wGc zc1121 (wGc zc886 (wG0))))))))
theorem t_law_38 : GoodIn lw_tbl v_law_38 := wGa te_law_38 (wGa t_Y10_strike (wGa t_X12_strike (wG0)))
set_option maxHeartbeats 4000000 in
set_option maxRecDepth 100000 in
theorem law_38 {p : Program} {l : Launch} {e : Env} {s : State} {m : MethodId} {below : List Frame} {meth : Method} {c : Code} {b L : Nat} {xs : Nat → Int32} (C0 : lw_At p s m meth c b L xs) {G : va_G} {K : Nat → ClassId} (hK : va_K G vwCl (wTY K) s) (hE : wE s) {nt : Nat} (hN : zst nt (fun q : Nat => s.heap.size ≤ q) s s.heap) {m0 h1 h2 : Nat} {gm g1 g2 : Nat → Nat} {CM SM : Nat} (hCM : CM ≤ 10000) (hSM : SM ≤ 1000000) {i : Int32} (hin : ∀ j : Int32, 0 ≤ j.toInt → j.toInt ≤ 6 → vp_in (i + j) L) (next : lInv p l e s m below meth c b G K m0 gm h1 g1 h2 g2 CM SM 1267 i) : lInv p l e s m below meth c b G K m0 gm h1 g1 h2 g2 CM SM 1208 i := by
  obtain ⟨hx, hb, hr, hml, hown, hts, hX, hbl, hlocks, hgv⟩ := id C0
  have hA : ∀ q : Nat, s.heap.size ≤ q → (fun q : Nat => s.heap.size ≤ q) q := fun _ h => h
  have hbA : ¬ (fun q : Nat => s.heap.size ≤ q) b := Nat.not_le.mpr hbl
  have t_ := t_law_38
  have hts := fun w (h : w ∈ v_law_38) => hts w (t_ w h).1
  have mw : ∀ w ∈ e_law_38, w ∈ v_law_38 := fun w h => List.mem_append_left _ h
  have j_Y10_strike : ∀ w ∈ v_Y10_strike, w ∈ v_law_38 := fun w h => List.mem_append_right _ (List.mem_append_left _ h)
  have j_X12_strike : ∀ w ∈ v_X12_strike, w ∈ v_law_38 := fun w h => List.mem_append_right _ (List.mem_append_right _ (List.mem_append_left _ h))
  intro S ad M H locs ls hRL hKI hMI hP hD hS hl
  have hk7 := ki7 hKI
  refine lv_aload_n hx hb dL_law_1208 rfl (lv_at hl 2 rfl) ?_
  obtain ⟨v_, S2, ef, hp_, hKI2, en_⟩ := k_strike hKI
  have bd0_ := ki_bd hKI
  refine lGoL (w1 := fun u : Cst => wsC K ad u) (wc := wsC K ad S) (wr := mW K m0 gm h1 g1 h2 g2 M) (va_runV (As := []) (rest := []) ⟨hx, hb, hml, hown, hts⟩ (c_Y10_strike l G K ad S 82 _) (cwV 0 hts (wGV t_ (mw (.methodLink RL 171 yX10_strike) (List.mem_of_getElem? (i := 0) rfl)) (mw (.instanceMethod yX10_strike) (List.mem_of_getElem? (i := 1) rfl)) (mw (.selects RX10 yX10_strike yX10_strike) (List.mem_of_getElem? (i := 2) rfl)) (mw (.initialized RX10) (List.mem_of_getElem? (i := 3) rfl)) j_Y10_strike) rfl rfl rfl (by decide +kernel) ⟨Nat.le_of_ble_eq_true rfl, Nat.le_of_ble_eq_true rfl⟩) (cPV hK hE (pL hP) (dL hD) 7 rfl (at_7 hk7) ⟨hk7, hp_ _ _ (Nat.le_refl _) (Nat.le_refl _)⟩) rfl rfl hl.1 rfl (lv_room (Nat.le_of_ble_eq_true rfl)) dL_law_1209 ⟨by show S.1 + CM + 0 ≤ 600000; omega, by show S.2.1 + SM + 0 ≤ 7302249; omega⟩) hP hD hS hA (fun r u H locs hv hP hD hS => ?_)
  obtain ⟨hv, ek_⟩ := hv
  have hv : (r, u) = (v_, S2) := hv.trans ef
  obtain ⟨rfl, rfl⟩ := Prod.mk.inj hv
  refine cCells (cells' := u.1 + CM) (slots' := u.2.1 + SM) (by have := ek_.1.1; omega) (by have := ek_.1.2; omega) ?_
  refine lv_pop hx hb dL_law_1212 rfl ?_
  refine lv_aload_n hx hb dL_law_1213 rfl (lv_at hl 1 rfl) ?_
  obtain ⟨hpm, hMI2⟩ := m_strike hMI
  have bd3_ := ki_bd hKI2
  refine lGoR (w1 := fun u : MS => mW K m0 gm h1 g1 h2 g2 u) (wa := wsC K ad u) (wc := mW K m0 gm h1 g1 h2 g2 M) (va_runV (As := []) (rest := []) ⟨hx, hb, hml, hown, hts⟩ (c_X12_strike l G K m0 gm h1 g1 h2 g2 M _) (cwV 0 hts (wGV t_ (mw (.methodLink RL 174 yX12_strike) (List.mem_of_getElem? (i := 4) rfl)) (mw (.instanceMethod yX12_strike) (List.mem_of_getElem? (i := 5) rfl)) (mw (.selects RX12 yX12_strike yX12_strike) (List.mem_of_getElem? (i := 6) rfl)) (mw (.initialized RX12) (List.mem_of_getElem? (i := 7) rfl)) j_X12_strike) rfl rfl rfl (by decide +kernel) ⟨Nat.le_of_ble_eq_true rfl, Nat.le_of_ble_eq_true rfl⟩) (mPVm hK hE (pR hP) (dR hD) hpm) rfl rfl hl.1 rfl (lv_room (Nat.le_of_ble_eq_true rfl)) dL_law_1214 ⟨by show u.1 + CM + 0 ≤ 600000; omega, by show u.2.1 + SM + 0 ≤ 7302249; omega⟩) hP hD hS hA (fun r2 u2 H locs hv2 hP hD hS => ?_)
  have eu2 : u2 = (f_X12_strike M).2 := congrArg Prod.snd hv2
  have er2 : r2 = (f_X12_strike M).1 := congrArg Prod.fst hv2
  rw [← eu2] at hMI2
  refine lv_pop hx hb dL_law_1217 rfl ?_
  refine lv_goto (tgt := 1267) hx hb dL_law_1218 (by decide) ?_
  have hRL2 : RQ u u2 := by
    rw [eu2]
    exact rl_strike hRL hKI hMI ef
  exact next u ad u2 H locs ls hRL2 hKI2 hMI2 hP hD hS (lv_sub hl [0, 1, 2, 3] rfl)
def e_law_39 : List Cond := [.methodLink RL 175 yX10_image, .instanceMethod yX10_image, .selects RX10 yX10_image yX10_image, .initialized RX10, .methodLink RL 178 yX12_image, .instanceMethod yX12_image, .selects RX12 yX12_image yX12_image, .initialized RX12]
def v_law_39 : List Cond := (e_law_39 ++ (v_Y10_image ++ (v_X12_image ++ [])))
theorem te_law_39 : GoodIn lw_tbl e_law_39 := wGc zc1132 (wGc zc1131 (wGc zc1130 (wGc zc759 (wGc zc1129 (wGc zc1128 (wGc zc1127 (wGc zc886 (wG0))))))))
theorem t_law_39 : GoodIn lw_tbl v_law_39 := wGa te_law_39 (wGa t_Y10_image (wGa t_X12_image (wG0)))
set_option maxHeartbeats 4000000 in
set_option maxRecDepth 100000 in
theorem law_39 {p : Program} {l : Launch} {e : Env} {s : State} {m : MethodId} {below : List Frame} {meth : Method} {c : Code} {b L : Nat} {xs : Nat → Int32} (C0 : lw_At p s m meth c b L xs) {G : va_G} {K : Nat → ClassId} (hK : va_K G vwCl (wTY K) s) (hE : wE s) {nt : Nat} (hN : zst nt (fun q : Nat => s.heap.size ≤ q) s s.heap) {m0 h1 h2 : Nat} {gm g1 g2 : Nat → Nat} {CM SM : Nat} (hCM : CM ≤ 10000) (hSM : SM ≤ 1000000) {i : Int32} (hin : ∀ j : Int32, 0 ≤ j.toInt → j.toInt ≤ 6 → vp_in (i + j) L) (next : lInv p l e s m below meth c b G K m0 gm h1 g1 h2 g2 CM SM 1267 i) : lInv p l e s m below meth c b G K m0 gm h1 g1 h2 g2 CM SM 1221 i := by
  obtain ⟨hx, hb, hr, hml, hown, hts, hX, hbl, hlocks, hgv⟩ := id C0
  have hA : ∀ q : Nat, s.heap.size ≤ q → (fun q : Nat => s.heap.size ≤ q) q := fun _ h => h
  have hbA : ¬ (fun q : Nat => s.heap.size ≤ q) b := Nat.not_le.mpr hbl
  have t_ := t_law_39
  have hts := fun w (h : w ∈ v_law_39) => hts w (t_ w h).1
  have mw : ∀ w ∈ e_law_39, w ∈ v_law_39 := fun w h => List.mem_append_left _ h
  have j_Y10_image : ∀ w ∈ v_Y10_image, w ∈ v_law_39 := fun w h => List.mem_append_right _ (List.mem_append_left _ h)
  have j_X12_image : ∀ w ∈ v_X12_image, w ∈ v_law_39 := fun w h => List.mem_append_right _ (List.mem_append_right _ (List.mem_append_left _ h))
  intro S ad M H locs ls hRL hKI hMI hP hD hS hl
  have hk7 := ki7 hKI
  refine lv_aload_n hx hb dL_law_1221 rfl (lv_at hl 2 rfl) ?_
  refine lv_aload_n hx hb dL_law_1222 rfl (lv_at hl 3 rfl) ?_
  refine lv_iload_n hx hb dL_law_1223 rfl (lv_at hl 0 rfl) ?_
  refine lv_iconst (v := 1) hx hb dL_law_1224 (by decide) ?_
  refine lv_iadd hx hb dL_law_1225 ?_
  refine va_sld hx hb hX hbl hbA hS (hin 1 (by decide) (by decide)) dL_law_1226 ?_
  obtain ⟨a1, e_1⟩ : ∃ y : Int32, xs (i + 1).toNatClampNeg = y := ⟨_, rfl⟩
  refine wTop (v1 := .int a1) (congrArg Value.int e_1) ?_
  obtain ⟨v_, S2, ef, hp_, hKI2, en_⟩ := k_image hKI a1
  have bd_ := ki_bd hKI2
  refine lGoL (w1 := fun u : Cst × (Nat → Nat) => wsC K u.2 u.1) (wc := wsC K ad S) (wr := mW K m0 gm h1 g1 h2 g2 M) (va_runV (As := [.int a1]) (rest := []) ⟨hx, hb, hml, hown, hts⟩ (c_Y10_image l G K ad S 82 S2.1 S2.2.1 a1 _) (cwV 1 hts (wGV t_ (mw (.methodLink RL 175 yX10_image) (List.mem_of_getElem? (i := 0) rfl)) (mw (.instanceMethod yX10_image) (List.mem_of_getElem? (i := 1) rfl)) (mw (.selects RX10 yX10_image yX10_image) (List.mem_of_getElem? (i := 2) rfl)) (mw (.initialized RX10) (List.mem_of_getElem? (i := 3) rfl)) j_Y10_image) rfl rfl rfl (by decide +kernel) ⟨Nat.le_of_ble_eq_true rfl, Nat.le_of_ble_eq_true rfl⟩) (cPV hK hE (pL hP) (dL hD) 7 rfl (at_7 hk7) ⟨⟨en_.1.1, en_.1.2⟩, hk7, hp_ _ _ (Nat.le_refl _) (Nat.le_refl _)⟩) rfl rfl hl.1 rfl (lv_room (Nat.le_of_ble_eq_true rfl)) dL_law_1227 ⟨by show S.1 + CM + (S2.1 - S.1) ≤ 600000; have := en_.1.1; omega, by show S.2.1 + SM + (S2.2.1 - S.2.1) ≤ 7302249; have := en_.1.2; omega⟩) hP hD hS hA (fun r u H locs hv hP hD hS => ?_)
  obtain ⟨S3, ad1⟩ := u
  obtain ⟨hv, -, ha⟩ := hv
  have hv : (r, S3) = (v_, S2) := hv.trans ef
  obtain ⟨rfl, rfl⟩ := Prod.mk.inj hv
  have ha82 : ad1 82 = ad 82 := ha 82 hk7.1
  have hP : va_P G vwCl (wsC K ad1 S3 ++ mW K m0 gm h1 g1 h2 g2 M) H := hP
  have hD : va_D (fun q : Nat => s.heap.size ≤ q) (wsC K ad1 S3 ++ mW K m0 gm h1 g1 h2 g2 M) := hD
  rw [← ha82] at hl
  refine cCells (cells' := S3.1 + CM) (slots' := S3.2.1 + SM) (by have := en_.1.1; omega) (by have := en_.1.2; omega) ?_
  refine lv_pop hx hb dL_law_1230 rfl ?_
  refine lv_aload_n hx hb dL_law_1231 rfl (lv_at hl 1 rfl) ?_
  refine lv_aload_n hx hb dL_law_1232 rfl (lv_at hl 3 rfl) ?_
  refine lv_iload_n hx hb dL_law_1233 rfl (lv_at hl 0 rfl) ?_
  refine lv_iconst (v := 1) hx hb dL_law_1234 (by decide) ?_
  refine lv_iadd hx hb dL_law_1235 ?_
  refine va_sld hx hb hX hbl hbA hS (hin 1 (by decide) (by decide)) dL_law_1236 ?_
  refine wTop (v1 := .int a1) (congrArg Value.int e_1) ?_
  obtain ⟨hpm, hMI2⟩ := m_image hMI a1
  have bd3_ := ki_bd hKI2
  refine lGoR (w1 := fun u : MS => mW K m0 gm h1 g1 h2 g2 u) (wa := wsC K ad1 S3) (wc := mW K m0 gm h1 g1 h2 g2 M) (va_runV (As := [.int a1]) (rest := []) ⟨hx, hb, hml, hown, hts⟩ (c_X12_image l G K m0 gm h1 g1 h2 g2 M a1 _) (cwV 1 hts (wGV t_ (mw (.methodLink RL 178 yX12_image) (List.mem_of_getElem? (i := 4) rfl)) (mw (.instanceMethod yX12_image) (List.mem_of_getElem? (i := 5) rfl)) (mw (.selects RX12 yX12_image yX12_image) (List.mem_of_getElem? (i := 6) rfl)) (mw (.initialized RX12) (List.mem_of_getElem? (i := 7) rfl)) j_X12_image) rfl rfl rfl (by decide +kernel) ⟨Nat.le_of_ble_eq_true rfl, Nat.le_of_ble_eq_true rfl⟩) (mPVm hK hE (pR hP) (dR hD) hpm) rfl rfl hl.1 rfl (lv_room (Nat.le_of_ble_eq_true rfl)) dL_law_1237 ⟨by show S3.1 + CM + 0 ≤ 600000; omega, by show S3.2.1 + SM + 0 ≤ 7302249; omega⟩) hP hD hS hA (fun r2 u2 H locs hv2 hP hD hS => ?_)
  have eu2 : u2 = (f_X12_image M a1).2 := congrArg Prod.snd hv2
  have er2 : r2 = (f_X12_image M a1).1 := congrArg Prod.fst hv2
  rw [← eu2] at hMI2
  refine lv_pop hx hb dL_law_1240 rfl ?_
  refine lv_goto (tgt := 1267) hx hb dL_law_1241 (by decide) ?_
  have hRL2 : RQ S3 u2 := by
    rw [eu2]
    exact rl_image hRL hKI hMI a1 ef
  exact next S3 ad1 u2 H locs ls hRL2 hKI2 hMI2 hP hD hS (lv_sub hl [0, 1, 2, 3] rfl)
def e_law_40 : List Cond := [.methodLink RL 179 yX10_back, .instanceMethod yX10_back, .selects RX10 yX10_back yX10_back, .initialized RX10, .methodLink RL 182 yX12_back, .instanceMethod yX12_back, .selects RX12 yX12_back yX12_back, .initialized RX12]
def v_law_40 : List Cond := (e_law_40 ++ (v_Y10_back ++ (v_X12_back ++ [])))
theorem te_law_40 : GoodIn lw_tbl e_law_40 := wGc zc1138 (wGc zc1137 (wGc zc1136 (wGc zc759 (wGc zc1135 (wGc zc1134 (wGc zc1133 (wGc zc886 (wG0))))))))
theorem t_law_40 : GoodIn lw_tbl v_law_40 := wGa te_law_40 (wGa t_Y10_back (wGa t_X12_back (wG0)))
set_option maxHeartbeats 4000000 in
set_option maxRecDepth 100000 in
theorem law_40 {p : Program} {l : Launch} {e : Env} {s : State} {m : MethodId} {below : List Frame} {meth : Method} {c : Code} {b L : Nat} {xs : Nat → Int32} (C0 : lw_At p s m meth c b L xs) {G : va_G} {K : Nat → ClassId} (hK : va_K G vwCl (wTY K) s) (hE : wE s) {nt : Nat} (hN : zst nt (fun q : Nat => s.heap.size ≤ q) s s.heap) {m0 h1 h2 : Nat} {gm g1 g2 : Nat → Nat} {CM SM : Nat} (hCM : CM ≤ 10000) (hSM : SM ≤ 1000000) {i : Int32} (hin : ∀ j : Int32, 0 ≤ j.toInt → j.toInt ≤ 6 → vp_in (i + j) L) (next : lInv p l e s m below meth c b G K m0 gm h1 g1 h2 g2 CM SM 1267 i) : lInv p l e s m below meth c b G K m0 gm h1 g1 h2 g2 CM SM 1244 i := by
  obtain ⟨hx, hb, hr, hml, hown, hts, hX, hbl, hlocks, hgv⟩ := id C0
  have hA : ∀ q : Nat, s.heap.size ≤ q → (fun q : Nat => s.heap.size ≤ q) q := fun _ h => h
  have hbA : ¬ (fun q : Nat => s.heap.size ≤ q) b := Nat.not_le.mpr hbl
  have t_ := t_law_40
  have hts := fun w (h : w ∈ v_law_40) => hts w (t_ w h).1
  have mw : ∀ w ∈ e_law_40, w ∈ v_law_40 := fun w h => List.mem_append_left _ h
  have j_Y10_back : ∀ w ∈ v_Y10_back, w ∈ v_law_40 := fun w h => List.mem_append_right _ (List.mem_append_left _ h)
  have j_X12_back : ∀ w ∈ v_X12_back, w ∈ v_law_40 := fun w h => List.mem_append_right _ (List.mem_append_right _ (List.mem_append_left _ h))
  intro S ad M H locs ls hRL hKI hMI hP hD hS hl
  have hk7 := ki7 hKI
  refine lv_aload_n hx hb dL_law_1244 rfl (lv_at hl 2 rfl) ?_
  refine lv_aload_n hx hb dL_law_1245 rfl (lv_at hl 3 rfl) ?_
  refine lv_iload_n hx hb dL_law_1246 rfl (lv_at hl 0 rfl) ?_
  refine lv_iconst (v := 1) hx hb dL_law_1247 (by decide) ?_
  refine lv_iadd hx hb dL_law_1248 ?_
  refine va_sld hx hb hX hbl hbA hS (hin 1 (by decide) (by decide)) dL_law_1249 ?_
  obtain ⟨a1, e_1⟩ : ∃ y : Int32, xs (i + 1).toNatClampNeg = y := ⟨_, rfl⟩
  refine wTop (v1 := .int a1) (congrArg Value.int e_1) ?_
  obtain ⟨v_, S2, ef, hp_, hKI2, en_⟩ := k_back hKI a1
  have bd_ := ki_bd hKI2
  refine lGoL (w1 := fun u : Cst × (Nat → Nat) => wsC K u.2 u.1) (wc := wsC K ad S) (wr := mW K m0 gm h1 g1 h2 g2 M) (va_runV (As := [.int a1]) (rest := []) ⟨hx, hb, hml, hown, hts⟩ (c_Y10_back l G K ad S 82 S2.1 S2.2.1 a1 _) (cwV 1 hts (wGV t_ (mw (.methodLink RL 179 yX10_back) (List.mem_of_getElem? (i := 0) rfl)) (mw (.instanceMethod yX10_back) (List.mem_of_getElem? (i := 1) rfl)) (mw (.selects RX10 yX10_back yX10_back) (List.mem_of_getElem? (i := 2) rfl)) (mw (.initialized RX10) (List.mem_of_getElem? (i := 3) rfl)) j_Y10_back) rfl rfl rfl (by decide +kernel) ⟨Nat.le_of_ble_eq_true rfl, Nat.le_of_ble_eq_true rfl⟩) (cPV hK hE (pL hP) (dL hD) 7 rfl (at_7 hk7) ⟨⟨en_.1.1, en_.1.2⟩, hk7, hp_ _ _ (Nat.le_refl _) (Nat.le_refl _)⟩) rfl rfl hl.1 rfl (lv_room (Nat.le_of_ble_eq_true rfl)) dL_law_1250 ⟨by show S.1 + CM + (S2.1 - S.1) ≤ 600000; have := en_.1.1; omega, by show S.2.1 + SM + (S2.2.1 - S.2.1) ≤ 7302249; have := en_.1.2; omega⟩) hP hD hS hA (fun r u H locs hv hP hD hS => ?_)
  obtain ⟨S3, ad1⟩ := u
  obtain ⟨hv, -, ha⟩ := hv
  have hv : (r, S3) = (v_, S2) := hv.trans ef
  obtain ⟨rfl, rfl⟩ := Prod.mk.inj hv
  have ha82 : ad1 82 = ad 82 := ha 82 hk7.1
  have hP : va_P G vwCl (wsC K ad1 S3 ++ mW K m0 gm h1 g1 h2 g2 M) H := hP
  have hD : va_D (fun q : Nat => s.heap.size ≤ q) (wsC K ad1 S3 ++ mW K m0 gm h1 g1 h2 g2 M) := hD
  rw [← ha82] at hl
  refine cCells (cells' := S3.1 + CM) (slots' := S3.2.1 + SM) (by have := en_.1.1; omega) (by have := en_.1.2; omega) ?_
  refine lv_pop hx hb dL_law_1253 rfl ?_
  refine lv_aload_n hx hb dL_law_1254 rfl (lv_at hl 1 rfl) ?_
  refine lv_aload_n hx hb dL_law_1255 rfl (lv_at hl 3 rfl) ?_
  refine lv_iload_n hx hb dL_law_1256 rfl (lv_at hl 0 rfl) ?_
  refine lv_iconst (v := 1) hx hb dL_law_1257 (by decide) ?_
  refine lv_iadd hx hb dL_law_1258 ?_
  refine va_sld hx hb hX hbl hbA hS (hin 1 (by decide) (by decide)) dL_law_1259 ?_
  refine wTop (v1 := .int a1) (congrArg Value.int e_1) ?_
  obtain ⟨hpm, hMI2⟩ := m_back hMI a1
  have bd3_ := ki_bd hKI2
  refine lGoR (w1 := fun u : MS => mW K m0 gm h1 g1 h2 g2 u) (wa := wsC K ad1 S3) (wc := mW K m0 gm h1 g1 h2 g2 M) (va_runV (As := [.int a1]) (rest := []) ⟨hx, hb, hml, hown, hts⟩ (c_X12_back l G K m0 gm h1 g1 h2 g2 M a1 _) (cwV 1 hts (wGV t_ (mw (.methodLink RL 182 yX12_back) (List.mem_of_getElem? (i := 4) rfl)) (mw (.instanceMethod yX12_back) (List.mem_of_getElem? (i := 5) rfl)) (mw (.selects RX12 yX12_back yX12_back) (List.mem_of_getElem? (i := 6) rfl)) (mw (.initialized RX12) (List.mem_of_getElem? (i := 7) rfl)) j_X12_back) rfl rfl rfl (by decide +kernel) ⟨Nat.le_of_ble_eq_true rfl, Nat.le_of_ble_eq_true rfl⟩) (mPVm hK hE (pR hP) (dR hD) hpm) rfl rfl hl.1 rfl (lv_room (Nat.le_of_ble_eq_true rfl)) dL_law_1260 ⟨by show S3.1 + CM + 0 ≤ 600000; omega, by show S3.2.1 + SM + 0 ≤ 7302249; omega⟩) hP hD hS hA (fun r2 u2 H locs hv2 hP hD hS => ?_)
  have eu2 : u2 = (f_X12_back M a1).2 := congrArg Prod.snd hv2
  have er2 : r2 = (f_X12_back M a1).1 := congrArg Prod.fst hv2
  rw [← eu2] at hMI2
  refine lv_pop hx hb dL_law_1263 rfl ?_
  refine lv_goto (tgt := 1267) hx hb dL_law_1264 (by decide) ?_
  have hRL2 : RQ S3 u2 := by
    rw [eu2]
    exact rl_back hRL hKI hMI a1 ef
  exact next S3 ad1 u2 H locs ls hRL2 hKI2 hMI2 hP hD hS (lv_sub hl [0, 1, 2, 3] rfl)
