def e_law_0 : List Cond := [.methodLink RL 13 yX10_seats, .instanceMethod yX10_seats, .selects RX10 yX10_seats yX10_seats, .initialized RX10, .methodLink RL 17 yX12_seats, .instanceMethod yX12_seats, .selects RX12 yX12_seats yX12_seats, .initialized RX12]
def v_law_0 : List Cond := (e_law_0 ++ (v_Y10_seats ++ (v_X12_seats ++ [])))
theorem te_law_0 : GoodIn lw_tbl e_law_0 := wGc zc898 (wGc zc897 (wGc zc896 (wGc zc759 (wGc zc895 (wGc zc894 (wGc zc893 (wGc zc886 (wG0))))))))
theorem t_law_0 : GoodIn lw_tbl v_law_0 := wGa te_law_0 (wGa t_Y10_seats (wGa t_X12_seats (wG0)))
set_option maxHeartbeats 4000000 in
set_option maxRecDepth 100000 in
theorem law_0 {p : Program} {l : Launch} {e : Env} {s : State} {m : MethodId} {below : List Frame} {meth : Method} {c : Code} {b L : Nat} {xs : Nat → Int32} (C0 : lw_At p s m meth c b L xs) {G : va_G} {K : Nat → ClassId} (hK : va_K G vwCl (wTY K) s) (hE : wE s) {nt : Nat} (hN : zst nt (fun q : Nat => s.heap.size ≤ q) s s.heap) {m0 h1 h2 : Nat} {gm g1 g2 : Nat → Nat} {CM SM : Nat} (hCM : CM ≤ 10000) (hSM : SM ≤ 1000000) {i : Int32} (hin : ∀ j : Int32, 0 ≤ j.toInt → j.toInt ≤ 6 → vp_in (i + j) L) (next : lInv p l e s m below meth c b G K m0 gm h1 g1 h2 g2 CM SM 1267 i) : lInv p l e s m below meth c b G K m0 gm h1 g1 h2 g2 CM SM 212 i := by
  obtain ⟨hx, hb, hr, hml, hown, hts, hX, hbl, hlocks, hgv⟩ := id C0
  have hA : ∀ q : Nat, s.heap.size ≤ q → (fun q : Nat => s.heap.size ≤ q) q := fun _ h => h
  have hbA : ¬ (fun q : Nat => s.heap.size ≤ q) b := Nat.not_le.mpr hbl
  have t_ := t_law_0
  have hts := fun w (h : w ∈ v_law_0) => hts w (t_ w h).1
  have mw : ∀ w ∈ e_law_0, w ∈ v_law_0 := fun w h => List.mem_append_left _ h
  have j_Y10_seats : ∀ w ∈ v_Y10_seats, w ∈ v_law_0 := fun w h => List.mem_append_right _ (List.mem_append_left _ h)
  have j_X12_seats : ∀ w ∈ v_X12_seats, w ∈ v_law_0 := fun w h => List.mem_append_right _ (List.mem_append_right _ (List.mem_append_left _ h))
  intro S ad M H locs ls hRL hKI hMI hP hD hS hl
  have hk7 := ki7 hKI
  refine lv_aload_n hx hb dL_law_212 rfl (lv_at hl 2 rfl) ?_
  refine lv_aload_n hx hb dL_law_213 rfl (lv_at hl 3 rfl) ?_
  refine lv_iload_n hx hb dL_law_214 rfl (lv_at hl 0 rfl) ?_
  refine lv_iconst (v := 1) hx hb dL_law_215 (by decide) ?_
  refine lv_iadd hx hb dL_law_216 ?_
  refine va_sld hx hb hX hbl hbA hS (hin 1 (by decide) (by decide)) dL_law_217 ?_
  obtain ⟨a1, e_1⟩ : ∃ y : Int32, xs (i + 1).toNatClampNeg = y := ⟨_, rfl⟩
  refine wTop (v1 := .int a1) (congrArg Value.int e_1) ?_
  obtain ⟨v_, S2, ef, hp_, hKI2, en_⟩ := k_seats hKI a1
  have bd0_ := ki_bd hKI
  refine lGoL (w1 := fun u : Cst => wsC K ad u) (wc := wsC K ad S) (wr := mW K m0 gm h1 g1 h2 g2 M) (va_runV (As := [.int a1]) (rest := []) ⟨hx, hb, hml, hown, hts⟩ (c_Y10_seats l G K ad S 82 a1 _) (cwV 1 hts (wGV t_ (mw (.methodLink RL 13 yX10_seats) (List.mem_of_getElem? (i := 0) rfl)) (mw (.instanceMethod yX10_seats) (List.mem_of_getElem? (i := 1) rfl)) (mw (.selects RX10 yX10_seats yX10_seats) (List.mem_of_getElem? (i := 2) rfl)) (mw (.initialized RX10) (List.mem_of_getElem? (i := 3) rfl)) j_Y10_seats) rfl rfl rfl (by decide +kernel) ⟨Nat.le_of_ble_eq_true rfl, Nat.le_of_ble_eq_true rfl⟩) (cPV hK hE (pL hP) (dL hD) 7 rfl (at_7 hk7) ⟨hk7, hp_ _ _ (Nat.le_refl _) (Nat.le_refl _)⟩) rfl rfl hl.1 rfl (lv_room (Nat.le_of_ble_eq_true rfl)) dL_law_218 ⟨by show S.1 + CM + 0 ≤ 600000; omega, by show S.2.1 + SM + 0 ≤ 7302249; omega⟩) hP hD hS hA (fun r u H locs hv hP hD hS => ?_)
  obtain ⟨hv, ek_⟩ := hv
  have hv : (r, u) = (v_, S2) := hv.trans ef
  obtain ⟨rfl, rfl⟩ := Prod.mk.inj hv
  refine cCells (cells' := u.1 + CM) (slots' := u.2.1 + SM) (by have := ek_.1.1; omega) (by have := ek_.1.2; omega) ?_
  refine lv_pop hx hb dL_law_221 rfl ?_
  refine lv_aload_n hx hb dL_law_222 rfl (lv_at hl 1 rfl) ?_
  refine lv_aload_n hx hb dL_law_223 rfl (lv_at hl 3 rfl) ?_
  refine lv_iload_n hx hb dL_law_224 rfl (lv_at hl 0 rfl) ?_
  refine lv_iconst (v := 1) hx hb dL_law_225 (by decide) ?_
  refine lv_iadd hx hb dL_law_226 ?_
  refine va_sld hx hb hX hbl hbA hS (hin 1 (by decide) (by decide)) dL_law_227 ?_
  refine wTop (v1 := .int a1) (congrArg Value.int e_1) ?_
  obtain ⟨hpm, hMI2⟩ := m_seats hMI a1
  have bd3_ := ki_bd hKI2
  refine lGoR (w1 := fun u : MS => mW K m0 gm h1 g1 h2 g2 u) (wa := wsC K ad u) (wc := mW K m0 gm h1 g1 h2 g2 M) (va_runV (As := [.int a1]) (rest := []) ⟨hx, hb, hml, hown, hts⟩ (c_X12_seats l G K m0 gm h1 g1 h2 g2 M a1 _) (cwV 1 hts (wGV t_ (mw (.methodLink RL 17 yX12_seats) (List.mem_of_getElem? (i := 4) rfl)) (mw (.instanceMethod yX12_seats) (List.mem_of_getElem? (i := 5) rfl)) (mw (.selects RX12 yX12_seats yX12_seats) (List.mem_of_getElem? (i := 6) rfl)) (mw (.initialized RX12) (List.mem_of_getElem? (i := 7) rfl)) j_X12_seats) rfl rfl rfl (by decide +kernel) ⟨Nat.le_of_ble_eq_true rfl, Nat.le_of_ble_eq_true rfl⟩) (mPVm hK hE (pR hP) (dR hD) hpm) rfl rfl hl.1 rfl (lv_room (Nat.le_of_ble_eq_true rfl)) dL_law_228 ⟨by show u.1 + CM + 0 ≤ 600000; omega, by show u.2.1 + SM + 0 ≤ 7302249; omega⟩) hP hD hS hA (fun r2 u2 H locs hv2 hP hD hS => ?_)
  have eu2 : u2 = (f_X12_seats M a1).2 := congrArg Prod.snd hv2
  have er2 : r2 = (f_X12_seats M a1).1 := congrArg Prod.fst hv2
  rw [← eu2] at hMI2
  refine lv_pop hx hb dL_law_231 rfl ?_
  refine lv_goto (tgt := 1267) hx hb dL_law_232 (by decide) ?_
  have hRL2 : RQ u u2 := by
    rw [eu2]
    exact rl_seats hRL hKI hMI a1 ef
  exact next u ad u2 H locs ls hRL2 hKI2 hMI2 hP hD hS (lv_sub hl [0, 1, 2, 3] rfl)
def e_law_1 : List Cond := [.methodLink RL 18 yX10_there, .instanceMethod yX10_there, .selects RX10 yX10_there yX10_there, .initialized RX10, .methodLink RL 21 yX12_there, .instanceMethod yX12_there, .selects RX12 yX12_there yX12_there, .initialized RX12]
def v_law_1 : List Cond := (e_law_1 ++ (v_Y10_there ++ (v_X12_there ++ [])))
theorem te_law_1 : GoodIn lw_tbl e_law_1 := wGc zc904 (wGc zc903 (wGc zc902 (wGc zc759 (wGc zc901 (wGc zc900 (wGc zc899 (wGc zc886 (wG0))))))))
theorem t_law_1 : GoodIn lw_tbl v_law_1 := wGa te_law_1 (wGa t_Y10_there (wGa t_X12_there (wG0)))
set_option maxHeartbeats 4000000 in
set_option maxRecDepth 100000 in
theorem law_1 {p : Program} {l : Launch} {e : Env} {s : State} {m : MethodId} {below : List Frame} {meth : Method} {c : Code} {b L : Nat} {xs : Nat → Int32} (C0 : lw_At p s m meth c b L xs) {G : va_G} {K : Nat → ClassId} (hK : va_K G vwCl (wTY K) s) (hE : wE s) {nt : Nat} (hN : zst nt (fun q : Nat => s.heap.size ≤ q) s s.heap) {m0 h1 h2 : Nat} {gm g1 g2 : Nat → Nat} {CM SM : Nat} (hCM : CM ≤ 10000) (hSM : SM ≤ 1000000) {i : Int32} (hin : ∀ j : Int32, 0 ≤ j.toInt → j.toInt ≤ 6 → vp_in (i + j) L) (next : lInv p l e s m below meth c b G K m0 gm h1 g1 h2 g2 CM SM 1267 i) : lInv p l e s m below meth c b G K m0 gm h1 g1 h2 g2 CM SM 235 i := by
  obtain ⟨hx, hb, hr, hml, hown, hts, hX, hbl, hlocks, hgv⟩ := id C0
  have hA : ∀ q : Nat, s.heap.size ≤ q → (fun q : Nat => s.heap.size ≤ q) q := fun _ h => h
  have hbA : ¬ (fun q : Nat => s.heap.size ≤ q) b := Nat.not_le.mpr hbl
  have t_ := t_law_1
  have hts := fun w (h : w ∈ v_law_1) => hts w (t_ w h).1
  have mw : ∀ w ∈ e_law_1, w ∈ v_law_1 := fun w h => List.mem_append_left _ h
  have j_Y10_there : ∀ w ∈ v_Y10_there, w ∈ v_law_1 := fun w h => List.mem_append_right _ (List.mem_append_left _ h)
  have j_X12_there : ∀ w ∈ v_X12_there, w ∈ v_law_1 := fun w h => List.mem_append_right _ (List.mem_append_right _ (List.mem_append_left _ h))
  intro S ad M H locs ls hRL hKI hMI hP hD hS hl
  have hk7 := ki7 hKI
  refine lv_aload_n hx hb dL_law_235 rfl (lv_at hl 2 rfl) ?_
  refine lv_aload_n hx hb dL_law_236 rfl (lv_at hl 3 rfl) ?_
  refine lv_iload_n hx hb dL_law_237 rfl (lv_at hl 0 rfl) ?_
  refine lv_iconst (v := 1) hx hb dL_law_238 (by decide) ?_
  refine lv_iadd hx hb dL_law_239 ?_
  refine va_sld hx hb hX hbl hbA hS (hin 1 (by decide) (by decide)) dL_law_240 ?_
  obtain ⟨a1, e_1⟩ : ∃ y : Int32, xs (i + 1).toNatClampNeg = y := ⟨_, rfl⟩
  refine wTop (v1 := .int a1) (congrArg Value.int e_1) ?_
  obtain ⟨v_, S2, ef, hp_, hKI2, en_⟩ := k_there hKI a1
  have bd_ := ki_bd hKI2
  refine lGoL (w1 := fun u : Cst × (Nat → Nat) => wsC K u.2 u.1) (wc := wsC K ad S) (wr := mW K m0 gm h1 g1 h2 g2 M) (va_runV (As := [.int a1]) (rest := []) ⟨hx, hb, hml, hown, hts⟩ (c_Y10_there l G K ad S 82 S2.1 S2.2.1 a1 _) (cwV 1 hts (wGV t_ (mw (.methodLink RL 18 yX10_there) (List.mem_of_getElem? (i := 0) rfl)) (mw (.instanceMethod yX10_there) (List.mem_of_getElem? (i := 1) rfl)) (mw (.selects RX10 yX10_there yX10_there) (List.mem_of_getElem? (i := 2) rfl)) (mw (.initialized RX10) (List.mem_of_getElem? (i := 3) rfl)) j_Y10_there) rfl rfl rfl (by decide +kernel) ⟨Nat.le_of_ble_eq_true rfl, Nat.le_of_ble_eq_true rfl⟩) (cPV hK hE (pL hP) (dL hD) 7 rfl (at_7 hk7) ⟨⟨en_.1.1, en_.1.2⟩, hk7, hp_ _ _ (Nat.le_refl _) (Nat.le_refl _)⟩) rfl rfl hl.1 rfl (lv_room (Nat.le_of_ble_eq_true rfl)) dL_law_241 ⟨by show S.1 + CM + (S2.1 - S.1) ≤ 600000; have := en_.1.1; omega, by show S.2.1 + SM + (S2.2.1 - S.2.1) ≤ 7302249; have := en_.1.2; omega⟩) hP hD hS hA (fun r u H locs hv hP hD hS => ?_)
  obtain ⟨S3, ad1⟩ := u
  obtain ⟨hv, -, ha⟩ := hv
  have hv : (r, S3) = (v_, S2) := hv.trans ef
  obtain ⟨rfl, rfl⟩ := Prod.mk.inj hv
  have ha82 : ad1 82 = ad 82 := ha 82 hk7.1
  have hP : va_P G vwCl (wsC K ad1 S3 ++ mW K m0 gm h1 g1 h2 g2 M) H := hP
  have hD : va_D (fun q : Nat => s.heap.size ≤ q) (wsC K ad1 S3 ++ mW K m0 gm h1 g1 h2 g2 M) := hD
  rw [← ha82] at hl
  refine cCells (cells' := S3.1 + CM) (slots' := S3.2.1 + SM) (by have := en_.1.1; omega) (by have := en_.1.2; omega) ?_
  refine lv_pop hx hb dL_law_244 rfl ?_
  refine lv_aload_n hx hb dL_law_245 rfl (lv_at hl 1 rfl) ?_
  refine lv_aload_n hx hb dL_law_246 rfl (lv_at hl 3 rfl) ?_
  refine lv_iload_n hx hb dL_law_247 rfl (lv_at hl 0 rfl) ?_
  refine lv_iconst (v := 1) hx hb dL_law_248 (by decide) ?_
  refine lv_iadd hx hb dL_law_249 ?_
  refine va_sld hx hb hX hbl hbA hS (hin 1 (by decide) (by decide)) dL_law_250 ?_
  refine wTop (v1 := .int a1) (congrArg Value.int e_1) ?_
  obtain ⟨hpm, hMI2⟩ := m_there hMI a1
  have bd3_ := ki_bd hKI2
  refine lGoR (w1 := fun u : MS => mW K m0 gm h1 g1 h2 g2 u) (wa := wsC K ad1 S3) (wc := mW K m0 gm h1 g1 h2 g2 M) (va_runV (As := [.int a1]) (rest := []) ⟨hx, hb, hml, hown, hts⟩ (c_X12_there l G K m0 gm h1 g1 h2 g2 M a1 _) (cwV 1 hts (wGV t_ (mw (.methodLink RL 21 yX12_there) (List.mem_of_getElem? (i := 4) rfl)) (mw (.instanceMethod yX12_there) (List.mem_of_getElem? (i := 5) rfl)) (mw (.selects RX12 yX12_there yX12_there) (List.mem_of_getElem? (i := 6) rfl)) (mw (.initialized RX12) (List.mem_of_getElem? (i := 7) rfl)) j_X12_there) rfl rfl rfl (by decide +kernel) ⟨Nat.le_of_ble_eq_true rfl, Nat.le_of_ble_eq_true rfl⟩) (mPVm hK hE (pR hP) (dR hD) hpm) rfl rfl hl.1 rfl (lv_room (Nat.le_of_ble_eq_true rfl)) dL_law_251 ⟨by show S3.1 + CM + 0 ≤ 600000; omega, by show S3.2.1 + SM + 0 ≤ 7302249; omega⟩) hP hD hS hA (fun r2 u2 H locs hv2 hP hD hS => ?_)
  have eu2 : u2 = (f_X12_there M a1).2 := congrArg Prod.snd hv2
  have er2 : r2 = (f_X12_there M a1).1 := congrArg Prod.fst hv2
  rw [← eu2] at hMI2
  refine lv_pop hx hb dL_law_254 rfl ?_
  refine lv_goto (tgt := 1267) hx hb dL_law_255 (by decide) ?_
  have hRL2 : RQ S3 u2 := by
    rw [eu2]
    exact rl_there hRL hKI hMI a1 ef
  exact next S3 ad1 u2 H locs ls hRL2 hKI2 hMI2 hP hD hS (lv_sub hl [0, 1, 2, 3] rfl)
def e_law_2 : List Cond := [.methodLink RL 22 yX10_gone, .instanceMethod yX10_gone, .selects RX10 yX10_gone yX10_gone, .initialized RX10, .methodLink RL 25 yX12_gone, .instanceMethod yX12_gone, .selects RX12 yX12_gone yX12_gone, .initialized RX12]
def v_law_2 : List Cond := (e_law_2 ++ (v_Y10_gone ++ (v_X12_gone ++ [])))
theorem te_law_2 : GoodIn lw_tbl e_law_2 := wGc zc910 (wGc zc909 (wGc zc908 (wGc zc759 (wGc zc907 (wGc zc906 (wGc zc905 (wGc zc886 (wG0))))))))
theorem t_law_2 : GoodIn lw_tbl v_law_2 := wGa te_law_2 (wGa t_Y10_gone (wGa t_X12_gone (wG0)))
set_option maxHeartbeats 4000000 in
set_option maxRecDepth 100000 in
theorem law_2 {p : Program} {l : Launch} {e : Env} {s : State} {m : MethodId} {below : List Frame} {meth : Method} {c : Code} {b L : Nat} {xs : Nat → Int32} (C0 : lw_At p s m meth c b L xs) {G : va_G} {K : Nat → ClassId} (hK : va_K G vwCl (wTY K) s) (hE : wE s) {nt : Nat} (hN : zst nt (fun q : Nat => s.heap.size ≤ q) s s.heap) {m0 h1 h2 : Nat} {gm g1 g2 : Nat → Nat} {CM SM : Nat} (hCM : CM ≤ 10000) (hSM : SM ≤ 1000000) {i : Int32} (hin : ∀ j : Int32, 0 ≤ j.toInt → j.toInt ≤ 6 → vp_in (i + j) L) (next : lInv p l e s m below meth c b G K m0 gm h1 g1 h2 g2 CM SM 1267 i) : lInv p l e s m below meth c b G K m0 gm h1 g1 h2 g2 CM SM 258 i := by
  obtain ⟨hx, hb, hr, hml, hown, hts, hX, hbl, hlocks, hgv⟩ := id C0
  have hA : ∀ q : Nat, s.heap.size ≤ q → (fun q : Nat => s.heap.size ≤ q) q := fun _ h => h
  have hbA : ¬ (fun q : Nat => s.heap.size ≤ q) b := Nat.not_le.mpr hbl
  have t_ := t_law_2
  have hts := fun w (h : w ∈ v_law_2) => hts w (t_ w h).1
  have mw : ∀ w ∈ e_law_2, w ∈ v_law_2 := fun w h => List.mem_append_left _ h
  have j_Y10_gone : ∀ w ∈ v_Y10_gone, w ∈ v_law_2 := fun w h => List.mem_append_right _ (List.mem_append_left _ h)
  have j_X12_gone : ∀ w ∈ v_X12_gone, w ∈ v_law_2 := fun w h => List.mem_append_right _ (List.mem_append_right _ (List.mem_append_left _ h))
  intro S ad M H locs ls hRL hKI hMI hP hD hS hl
  have hk7 := ki7 hKI
  refine lv_aload_n hx hb dL_law_258 rfl (lv_at hl 2 rfl) ?_
  refine lv_aload_n hx hb dL_law_259 rfl (lv_at hl 3 rfl) ?_
  refine lv_iload_n hx hb dL_law_260 rfl (lv_at hl 0 rfl) ?_
  refine lv_iconst (v := 1) hx hb dL_law_261 (by decide) ?_
  refine lv_iadd hx hb dL_law_262 ?_
  refine va_sld hx hb hX hbl hbA hS (hin 1 (by decide) (by decide)) dL_law_263 ?_
  obtain ⟨a1, e_1⟩ : ∃ y : Int32, xs (i + 1).toNatClampNeg = y := ⟨_, rfl⟩
  refine wTop (v1 := .int a1) (congrArg Value.int e_1) ?_
  obtain ⟨v_, S2, ef, hp_, hKI2, en_⟩ := k_gone hKI a1
  have bd_ := ki_bd hKI2
  refine lGoL (w1 := fun u : Cst × (Nat → Nat) => wsC K u.2 u.1) (wc := wsC K ad S) (wr := mW K m0 gm h1 g1 h2 g2 M) (va_runV (As := [.int a1]) (rest := []) ⟨hx, hb, hml, hown, hts⟩ (c_Y10_gone l G K ad S 82 S2.1 S2.2.1 a1 _) (cwV 1 hts (wGV t_ (mw (.methodLink RL 22 yX10_gone) (List.mem_of_getElem? (i := 0) rfl)) (mw (.instanceMethod yX10_gone) (List.mem_of_getElem? (i := 1) rfl)) (mw (.selects RX10 yX10_gone yX10_gone) (List.mem_of_getElem? (i := 2) rfl)) (mw (.initialized RX10) (List.mem_of_getElem? (i := 3) rfl)) j_Y10_gone) rfl rfl rfl (by decide +kernel) ⟨Nat.le_of_ble_eq_true rfl, Nat.le_of_ble_eq_true rfl⟩) (cPV hK hE (pL hP) (dL hD) 7 rfl (at_7 hk7) ⟨⟨en_.1.1, en_.1.2⟩, hk7, hp_ _ _ (Nat.le_refl _) (Nat.le_refl _)⟩) rfl rfl hl.1 rfl (lv_room (Nat.le_of_ble_eq_true rfl)) dL_law_264 ⟨by show S.1 + CM + (S2.1 - S.1) ≤ 600000; have := en_.1.1; omega, by show S.2.1 + SM + (S2.2.1 - S.2.1) ≤ 7302249; have := en_.1.2; omega⟩) hP hD hS hA (fun r u H locs hv hP hD hS => ?_)
  obtain ⟨S3, ad1⟩ := u
  obtain ⟨hv, -, ha⟩ := hv
  have hv : (r, S3) = (v_, S2) := hv.trans ef
  obtain ⟨rfl, rfl⟩ := Prod.mk.inj hv
  have ha82 : ad1 82 = ad 82 := ha 82 hk7.1
  have hP : va_P G vwCl (wsC K ad1 S3 ++ mW K m0 gm h1 g1 h2 g2 M) H := hP
  have hD : va_D (fun q : Nat => s.heap.size ≤ q) (wsC K ad1 S3 ++ mW K m0 gm h1 g1 h2 g2 M) := hD
  rw [← ha82] at hl
  refine cCells (cells' := S3.1 + CM) (slots' := S3.2.1 + SM) (by have := en_.1.1; omega) (by have := en_.1.2; omega) ?_
  refine lv_pop hx hb dL_law_267 rfl ?_
  refine lv_aload_n hx hb dL_law_268 rfl (lv_at hl 1 rfl) ?_
  refine lv_aload_n hx hb dL_law_269 rfl (lv_at hl 3 rfl) ?_
  refine lv_iload_n hx hb dL_law_270 rfl (lv_at hl 0 rfl) ?_
  refine lv_iconst (v := 1) hx hb dL_law_271 (by decide) ?_
  refine lv_iadd hx hb dL_law_272 ?_
  refine va_sld hx hb hX hbl hbA hS (hin 1 (by decide) (by decide)) dL_law_273 ?_
  refine wTop (v1 := .int a1) (congrArg Value.int e_1) ?_
  obtain ⟨hpm, hMI2⟩ := m_gone hMI a1
  have bd3_ := ki_bd hKI2
  refine lGoR (w1 := fun u : MS => mW K m0 gm h1 g1 h2 g2 u) (wa := wsC K ad1 S3) (wc := mW K m0 gm h1 g1 h2 g2 M) (va_runV (As := [.int a1]) (rest := []) ⟨hx, hb, hml, hown, hts⟩ (c_X12_gone l G K m0 gm h1 g1 h2 g2 M a1 _) (cwV 1 hts (wGV t_ (mw (.methodLink RL 25 yX12_gone) (List.mem_of_getElem? (i := 4) rfl)) (mw (.instanceMethod yX12_gone) (List.mem_of_getElem? (i := 5) rfl)) (mw (.selects RX12 yX12_gone yX12_gone) (List.mem_of_getElem? (i := 6) rfl)) (mw (.initialized RX12) (List.mem_of_getElem? (i := 7) rfl)) j_X12_gone) rfl rfl rfl (by decide +kernel) ⟨Nat.le_of_ble_eq_true rfl, Nat.le_of_ble_eq_true rfl⟩) (mPVm hK hE (pR hP) (dR hD) hpm) rfl rfl hl.1 rfl (lv_room (Nat.le_of_ble_eq_true rfl)) dL_law_274 ⟨by show S3.1 + CM + 0 ≤ 600000; omega, by show S3.2.1 + SM + 0 ≤ 7302249; omega⟩) hP hD hS hA (fun r2 u2 H locs hv2 hP hD hS => ?_)
  have eu2 : u2 = (f_X12_gone M a1).2 := congrArg Prod.snd hv2
  have er2 : r2 = (f_X12_gone M a1).1 := congrArg Prod.fst hv2
  rw [← eu2] at hMI2
  refine lv_pop hx hb dL_law_277 rfl ?_
  refine lv_goto (tgt := 1267) hx hb dL_law_278 (by decide) ?_
  have hRL2 : RQ S3 u2 := by
    rw [eu2]
    exact rl_gone hRL hKI hMI a1 ef
  exact next S3 ad1 u2 H locs ls hRL2 hKI2 hMI2 hP hD hS (lv_sub hl [0, 1, 2, 3] rfl)
def e_law_3 : List Cond := [.methodLink RL 26 yX10_quorum, .instanceMethod yX10_quorum, .selects RX10 yX10_quorum yX10_quorum, .initialized RX10, .methodLink RL 29 yX12_quorum, .instanceMethod yX12_quorum, .selects RX12 yX12_quorum yX12_quorum, .initialized RX12]
def v_law_3 : List Cond := (e_law_3 ++ (v_Y10_quorum ++ (v_X12_quorum ++ [])))
theorem te_law_3 : GoodIn lw_tbl e_law_3 := wGc zc916 (wGc zc915 (wGc zc914 (wGc zc759 (wGc zc913 (wGc zc912 (wGc zc911 (wGc zc886 (wG0))))))))
theorem t_law_3 : GoodIn lw_tbl v_law_3 := wGa te_law_3 (wGa t_Y10_quorum (wGa t_X12_quorum (wG0)))
set_option maxHeartbeats 4000000 in
set_option maxRecDepth 100000 in
theorem law_3 {p : Program} {l : Launch} {e : Env} {s : State} {m : MethodId} {below : List Frame} {meth : Method} {c : Code} {b L : Nat} {xs : Nat → Int32} (C0 : lw_At p s m meth c b L xs) {G : va_G} {K : Nat → ClassId} (hK : va_K G vwCl (wTY K) s) (hE : wE s) {nt : Nat} (hN : zst nt (fun q : Nat => s.heap.size ≤ q) s s.heap) {m0 h1 h2 : Nat} {gm g1 g2 : Nat → Nat} {CM SM : Nat} (hCM : CM ≤ 10000) (hSM : SM ≤ 1000000) {i : Int32} (hin : ∀ j : Int32, 0 ≤ j.toInt → j.toInt ≤ 6 → vp_in (i + j) L) (next : lInv p l e s m below meth c b G K m0 gm h1 g1 h2 g2 CM SM 1267 i) : lInv p l e s m below meth c b G K m0 gm h1 g1 h2 g2 CM SM 281 i := by
  obtain ⟨hx, hb, hr, hml, hown, hts, hX, hbl, hlocks, hgv⟩ := id C0
  have hA : ∀ q : Nat, s.heap.size ≤ q → (fun q : Nat => s.heap.size ≤ q) q := fun _ h => h
  have hbA : ¬ (fun q : Nat => s.heap.size ≤ q) b := Nat.not_le.mpr hbl
  have t_ := t_law_3
  have hts := fun w (h : w ∈ v_law_3) => hts w (t_ w h).1
  have mw : ∀ w ∈ e_law_3, w ∈ v_law_3 := fun w h => List.mem_append_left _ h
  have j_Y10_quorum : ∀ w ∈ v_Y10_quorum, w ∈ v_law_3 := fun w h => List.mem_append_right _ (List.mem_append_left _ h)
  have j_X12_quorum : ∀ w ∈ v_X12_quorum, w ∈ v_law_3 := fun w h => List.mem_append_right _ (List.mem_append_right _ (List.mem_append_left _ h))
  intro S ad M H locs ls hRL hKI hMI hP hD hS hl
  have hk7 := ki7 hKI
  refine lv_aload_n hx hb dL_law_281 rfl (lv_at hl 2 rfl) ?_
  refine lv_aload_n hx hb dL_law_282 rfl (lv_at hl 3 rfl) ?_
  refine lv_iload_n hx hb dL_law_283 rfl (lv_at hl 0 rfl) ?_
  refine lv_iconst (v := 1) hx hb dL_law_284 (by decide) ?_
  refine lv_iadd hx hb dL_law_285 ?_
  refine va_sld hx hb hX hbl hbA hS (hin 1 (by decide) (by decide)) dL_law_286 ?_
  obtain ⟨a1, e_1⟩ : ∃ y : Int32, xs (i + 1).toNatClampNeg = y := ⟨_, rfl⟩
  refine wTop (v1 := .int a1) (congrArg Value.int e_1) ?_
  obtain ⟨v_, S2, ef, hp_, hKI2, en_⟩ := k_quorum hKI a1
  have bd_ := ki_bd hKI2
  refine lGoL (w1 := fun u : Cst × (Nat → Nat) => wsC K u.2 u.1) (wc := wsC K ad S) (wr := mW K m0 gm h1 g1 h2 g2 M) (va_runV (As := [.int a1]) (rest := []) ⟨hx, hb, hml, hown, hts⟩ (c_Y10_quorum l G K ad S 82 S2.1 S2.2.1 a1 _) (cwV 1 hts (wGV t_ (mw (.methodLink RL 26 yX10_quorum) (List.mem_of_getElem? (i := 0) rfl)) (mw (.instanceMethod yX10_quorum) (List.mem_of_getElem? (i := 1) rfl)) (mw (.selects RX10 yX10_quorum yX10_quorum) (List.mem_of_getElem? (i := 2) rfl)) (mw (.initialized RX10) (List.mem_of_getElem? (i := 3) rfl)) j_Y10_quorum) rfl rfl rfl (by decide +kernel) ⟨Nat.le_of_ble_eq_true rfl, Nat.le_of_ble_eq_true rfl⟩) (cPV hK hE (pL hP) (dL hD) 7 rfl (at_7 hk7) ⟨⟨en_.1.1, en_.1.2⟩, hk7, hp_ _ _ (Nat.le_refl _) (Nat.le_refl _)⟩) rfl rfl hl.1 rfl (lv_room (Nat.le_of_ble_eq_true rfl)) dL_law_287 ⟨by show S.1 + CM + (S2.1 - S.1) ≤ 600000; have := en_.1.1; omega, by show S.2.1 + SM + (S2.2.1 - S.2.1) ≤ 7302249; have := en_.1.2; omega⟩) hP hD hS hA (fun r u H locs hv hP hD hS => ?_)
  obtain ⟨S3, ad1⟩ := u
  obtain ⟨hv, -, ha⟩ := hv
  have hv : (r, S3) = (v_, S2) := hv.trans ef
  obtain ⟨rfl, rfl⟩ := Prod.mk.inj hv
  have ha82 : ad1 82 = ad 82 := ha 82 hk7.1
  have hP : va_P G vwCl (wsC K ad1 S3 ++ mW K m0 gm h1 g1 h2 g2 M) H := hP
  have hD : va_D (fun q : Nat => s.heap.size ≤ q) (wsC K ad1 S3 ++ mW K m0 gm h1 g1 h2 g2 M) := hD
  rw [← ha82] at hl
  refine cCells (cells' := S3.1 + CM) (slots' := S3.2.1 + SM) (by have := en_.1.1; omega) (by have := en_.1.2; omega) ?_
  refine lv_pop hx hb dL_law_290 rfl ?_
  refine lv_aload_n hx hb dL_law_291 rfl (lv_at hl 1 rfl) ?_
  refine lv_aload_n hx hb dL_law_292 rfl (lv_at hl 3 rfl) ?_
  refine lv_iload_n hx hb dL_law_293 rfl (lv_at hl 0 rfl) ?_
  refine lv_iconst (v := 1) hx hb dL_law_294 (by decide) ?_
  refine lv_iadd hx hb dL_law_295 ?_
  refine va_sld hx hb hX hbl hbA hS (hin 1 (by decide) (by decide)) dL_law_296 ?_
  refine wTop (v1 := .int a1) (congrArg Value.int e_1) ?_
  obtain ⟨hpm, hMI2⟩ := m_quorum hMI a1
  have bd3_ := ki_bd hKI2
  refine lGoR (w1 := fun u : MS => mW K m0 gm h1 g1 h2 g2 u) (wa := wsC K ad1 S3) (wc := mW K m0 gm h1 g1 h2 g2 M) (va_runV (As := [.int a1]) (rest := []) ⟨hx, hb, hml, hown, hts⟩ (c_X12_quorum l G K m0 gm h1 g1 h2 g2 M a1 _) (cwV 1 hts (wGV t_ (mw (.methodLink RL 29 yX12_quorum) (List.mem_of_getElem? (i := 4) rfl)) (mw (.instanceMethod yX12_quorum) (List.mem_of_getElem? (i := 5) rfl)) (mw (.selects RX12 yX12_quorum yX12_quorum) (List.mem_of_getElem? (i := 6) rfl)) (mw (.initialized RX12) (List.mem_of_getElem? (i := 7) rfl)) j_X12_quorum) rfl rfl rfl (by decide +kernel) ⟨Nat.le_of_ble_eq_true rfl, Nat.le_of_ble_eq_true rfl⟩) (mPVm hK hE (pR hP) (dR hD) hpm) rfl rfl hl.1 rfl (lv_room (Nat.le_of_ble_eq_true rfl)) dL_law_297 ⟨by show S3.1 + CM + 0 ≤ 600000; omega, by show S3.2.1 + SM + 0 ≤ 7302249; omega⟩) hP hD hS hA (fun r2 u2 H locs hv2 hP hD hS => ?_)
  have eu2 : u2 = (f_X12_quorum M a1).2 := congrArg Prod.snd hv2
  have er2 : r2 = (f_X12_quorum M a1).1 := congrArg Prod.fst hv2
  rw [← eu2] at hMI2
  refine lv_pop hx hb dL_law_300 rfl ?_
  refine lv_goto (tgt := 1267) hx hb dL_law_301 (by decide) ?_
  have hRL2 : RQ S3 u2 := by
    rw [eu2]
    exact rl_quorum hRL hKI hMI a1 ef
  exact next S3 ad1 u2 H locs ls hRL2 hKI2 hMI2 hP hD hS (lv_sub hl [0, 1, 2, 3] rfl)
def e_law_4 : List Cond := [.methodLink RL 30 yX10_chair, .instanceMethod yX10_chair, .selects RX10 yX10_chair yX10_chair, .initialized RX10, .methodLink RL 33 yX12_chair, .instanceMethod yX12_chair, .selects RX12 yX12_chair yX12_chair, .initialized RX12]
def v_law_4 : List Cond := (e_law_4 ++ (v_Y10_chair ++ (v_X12_chair ++ [])))
theorem te_law_4 : GoodIn lw_tbl e_law_4 := wGc zc922 (wGc zc921 (wGc zc920 (wGc zc759 (wGc zc919 (wGc zc918 (wGc zc917 (wGc zc886 (wG0))))))))
theorem t_law_4 : GoodIn lw_tbl v_law_4 := wGa te_law_4 (wGa t_Y10_chair (wGa t_X12_chair (wG0)))
set_option maxHeartbeats 4000000 in
set_option maxRecDepth 100000 in
theorem law_4 {p : Program} {l : Launch} {e : Env} {s : State} {m : MethodId} {below : List Frame} {meth : Method} {c : Code} {b L : Nat} {xs : Nat → Int32} (C0 : lw_At p s m meth c b L xs) {G : va_G} {K : Nat → ClassId} (hK : va_K G vwCl (wTY K) s) (hE : wE s) {nt : Nat} (hN : zst nt (fun q : Nat => s.heap.size ≤ q) s s.heap) {m0 h1 h2 : Nat} {gm g1 g2 : Nat → Nat} {CM SM : Nat} (hCM : CM ≤ 10000) (hSM : SM ≤ 1000000) {i : Int32} (hin : ∀ j : Int32, 0 ≤ j.toInt → j.toInt ≤ 6 → vp_in (i + j) L) (next : lInv p l e s m below meth c b G K m0 gm h1 g1 h2 g2 CM SM 1267 i) : lInv p l e s m below meth c b G K m0 gm h1 g1 h2 g2 CM SM 304 i := by
  obtain ⟨hx, hb, hr, hml, hown, hts, hX, hbl, hlocks, hgv⟩ := id C0
  have hA : ∀ q : Nat, s.heap.size ≤ q → (fun q : Nat => s.heap.size ≤ q) q := fun _ h => h
  have hbA : ¬ (fun q : Nat => s.heap.size ≤ q) b := Nat.not_le.mpr hbl
  have t_ := t_law_4
  have hts := fun w (h : w ∈ v_law_4) => hts w (t_ w h).1
  have mw : ∀ w ∈ e_law_4, w ∈ v_law_4 := fun w h => List.mem_append_left _ h
  have j_Y10_chair : ∀ w ∈ v_Y10_chair, w ∈ v_law_4 := fun w h => List.mem_append_right _ (List.mem_append_left _ h)
  have j_X12_chair : ∀ w ∈ v_X12_chair, w ∈ v_law_4 := fun w h => List.mem_append_right _ (List.mem_append_right _ (List.mem_append_left _ h))
  intro S ad M H locs ls hRL hKI hMI hP hD hS hl
  have hk7 := ki7 hKI
  refine lv_aload_n hx hb dL_law_304 rfl (lv_at hl 2 rfl) ?_
  refine lv_aload_n hx hb dL_law_305 rfl (lv_at hl 3 rfl) ?_
  refine lv_iload_n hx hb dL_law_306 rfl (lv_at hl 0 rfl) ?_
  refine lv_iconst (v := 1) hx hb dL_law_307 (by decide) ?_
  refine lv_iadd hx hb dL_law_308 ?_
  refine va_sld hx hb hX hbl hbA hS (hin 1 (by decide) (by decide)) dL_law_309 ?_
  obtain ⟨a1, e_1⟩ : ∃ y : Int32, xs (i + 1).toNatClampNeg = y := ⟨_, rfl⟩
  refine wTop (v1 := .int a1) (congrArg Value.int e_1) ?_
  obtain ⟨v_, S2, ef, hp_, hKI2, en_⟩ := k_chair hKI a1
  have bd_ := ki_bd hKI2
  refine lGoL (w1 := fun u : Cst × (Nat → Nat) => wsC K u.2 u.1) (wc := wsC K ad S) (wr := mW K m0 gm h1 g1 h2 g2 M) (va_runV (As := [.int a1]) (rest := []) ⟨hx, hb, hml, hown, hts⟩ (c_Y10_chair l G K ad S 82 S2.1 S2.2.1 a1 _) (cwV 1 hts (wGV t_ (mw (.methodLink RL 30 yX10_chair) (List.mem_of_getElem? (i := 0) rfl)) (mw (.instanceMethod yX10_chair) (List.mem_of_getElem? (i := 1) rfl)) (mw (.selects RX10 yX10_chair yX10_chair) (List.mem_of_getElem? (i := 2) rfl)) (mw (.initialized RX10) (List.mem_of_getElem? (i := 3) rfl)) j_Y10_chair) rfl rfl rfl (by decide +kernel) ⟨Nat.le_of_ble_eq_true rfl, Nat.le_of_ble_eq_true rfl⟩) (cPV hK hE (pL hP) (dL hD) 7 rfl (at_7 hk7) ⟨⟨en_.1.1, en_.1.2⟩, hk7, hp_ _ _ (Nat.le_refl _) (Nat.le_refl _)⟩) rfl rfl hl.1 rfl (lv_room (Nat.le_of_ble_eq_true rfl)) dL_law_310 ⟨by show S.1 + CM + (S2.1 - S.1) ≤ 600000; have := en_.1.1; omega, by show S.2.1 + SM + (S2.2.1 - S.2.1) ≤ 7302249; have := en_.1.2; omega⟩) hP hD hS hA (fun r u H locs hv hP hD hS => ?_)
  obtain ⟨S3, ad1⟩ := u
  obtain ⟨hv, -, ha⟩ := hv
  have hv : (r, S3) = (v_, S2) := hv.trans ef
  obtain ⟨rfl, rfl⟩ := Prod.mk.inj hv
  have ha82 : ad1 82 = ad 82 := ha 82 hk7.1
  have hP : va_P G vwCl (wsC K ad1 S3 ++ mW K m0 gm h1 g1 h2 g2 M) H := hP
  have hD : va_D (fun q : Nat => s.heap.size ≤ q) (wsC K ad1 S3 ++ mW K m0 gm h1 g1 h2 g2 M) := hD
  rw [← ha82] at hl
  refine cCells (cells' := S3.1 + CM) (slots' := S3.2.1 + SM) (by have := en_.1.1; omega) (by have := en_.1.2; omega) ?_
  refine lv_pop hx hb dL_law_313 rfl ?_
  refine lv_aload_n hx hb dL_law_314 rfl (lv_at hl 1 rfl) ?_
  refine lv_aload_n hx hb dL_law_315 rfl (lv_at hl 3 rfl) ?_
  refine lv_iload_n hx hb dL_law_316 rfl (lv_at hl 0 rfl) ?_
  refine lv_iconst (v := 1) hx hb dL_law_317 (by decide) ?_
  refine lv_iadd hx hb dL_law_318 ?_
  refine va_sld hx hb hX hbl hbA hS (hin 1 (by decide) (by decide)) dL_law_319 ?_
  refine wTop (v1 := .int a1) (congrArg Value.int e_1) ?_
  obtain ⟨hpm, hMI2⟩ := m_chair hMI a1
  have bd3_ := ki_bd hKI2
  refine lGoR (w1 := fun u : MS => mW K m0 gm h1 g1 h2 g2 u) (wa := wsC K ad1 S3) (wc := mW K m0 gm h1 g1 h2 g2 M) (va_runV (As := [.int a1]) (rest := []) ⟨hx, hb, hml, hown, hts⟩ (c_X12_chair l G K m0 gm h1 g1 h2 g2 M a1 _) (cwV 1 hts (wGV t_ (mw (.methodLink RL 33 yX12_chair) (List.mem_of_getElem? (i := 4) rfl)) (mw (.instanceMethod yX12_chair) (List.mem_of_getElem? (i := 5) rfl)) (mw (.selects RX12 yX12_chair yX12_chair) (List.mem_of_getElem? (i := 6) rfl)) (mw (.initialized RX12) (List.mem_of_getElem? (i := 7) rfl)) j_X12_chair) rfl rfl rfl (by decide +kernel) ⟨Nat.le_of_ble_eq_true rfl, Nat.le_of_ble_eq_true rfl⟩) (mPVm hK hE (pR hP) (dR hD) hpm) rfl rfl hl.1 rfl (lv_room (Nat.le_of_ble_eq_true rfl)) dL_law_320 ⟨by show S3.1 + CM + 0 ≤ 600000; omega, by show S3.2.1 + SM + 0 ≤ 7302249; omega⟩) hP hD hS hA (fun r2 u2 H locs hv2 hP hD hS => ?_)
  have eu2 : u2 = (f_X12_chair M a1).2 := congrArg Prod.snd hv2
  have er2 : r2 = (f_X12_chair M a1).1 := congrArg Prod.fst hv2
  rw [← eu2] at hMI2
  refine lv_pop hx hb dL_law_323 rfl ?_
  refine lv_goto (tgt := 1267) hx hb dL_law_324 (by decide) ?_
  have hRL2 : RQ S3 u2 := by
    rw [eu2]
    exact rl_chair hRL hKI hMI a1 ef
  exact next S3 ad1 u2 H locs ls hRL2 hKI2 hMI2 hP hD hS (lv_sub hl [0, 1, 2, 3] rfl)
def e_law_5 : List Cond := [.methodLink RL 34 yX10_majority, .instanceMethod yX10_majority, .selects RX10 yX10_majority yX10_majority, .initialized RX10, .methodLink RL 38 yX12_majority, .instanceMethod yX12_majority, .selects RX12 yX12_majority yX12_majority, .initialized RX12]
def v_law_5 : List Cond := (e_law_5 ++ (v_Y10_majority ++ (v_X12_majority ++ [])))
theorem te_law_5 : GoodIn lw_tbl e_law_5 := wGc zc928 (wGc zc927 (wGc zc926 (wGc zc759 (wGc zc925 (wGc zc924 (wGc zc923 (wGc zc886 (wG0))))))))
theorem t_law_5 : GoodIn lw_tbl v_law_5 := wGa te_law_5 (wGa t_Y10_majority (wGa t_X12_majority (wG0)))
set_option maxHeartbeats 4000000 in
set_option maxRecDepth 100000 in
theorem law_5 {p : Program} {l : Launch} {e : Env} {s : State} {m : MethodId} {below : List Frame} {meth : Method} {c : Code} {b L : Nat} {xs : Nat → Int32} (C0 : lw_At p s m meth c b L xs) {G : va_G} {K : Nat → ClassId} (hK : va_K G vwCl (wTY K) s) (hE : wE s) {nt : Nat} (hN : zst nt (fun q : Nat => s.heap.size ≤ q) s s.heap) {m0 h1 h2 : Nat} {gm g1 g2 : Nat → Nat} {CM SM : Nat} (hCM : CM ≤ 10000) (hSM : SM ≤ 1000000) {i : Int32} (hin : ∀ j : Int32, 0 ≤ j.toInt → j.toInt ≤ 6 → vp_in (i + j) L) (next : lInv p l e s m below meth c b G K m0 gm h1 g1 h2 g2 CM SM 1267 i) : lInv p l e s m below meth c b G K m0 gm h1 g1 h2 g2 CM SM 327 i := by
  obtain ⟨hx, hb, hr, hml, hown, hts, hX, hbl, hlocks, hgv⟩ := id C0
  have hA : ∀ q : Nat, s.heap.size ≤ q → (fun q : Nat => s.heap.size ≤ q) q := fun _ h => h
  have hbA : ¬ (fun q : Nat => s.heap.size ≤ q) b := Nat.not_le.mpr hbl
  have t_ := t_law_5
  have hts := fun w (h : w ∈ v_law_5) => hts w (t_ w h).1
  have mw : ∀ w ∈ e_law_5, w ∈ v_law_5 := fun w h => List.mem_append_left _ h
  have j_Y10_majority : ∀ w ∈ v_Y10_majority, w ∈ v_law_5 := fun w h => List.mem_append_right _ (List.mem_append_left _ h)
  have j_X12_majority : ∀ w ∈ v_X12_majority, w ∈ v_law_5 := fun w h => List.mem_append_right _ (List.mem_append_right _ (List.mem_append_left _ h))
  intro S ad M H locs ls hRL hKI hMI hP hD hS hl
  have hk7 := ki7 hKI
  refine lv_aload_n hx hb dL_law_327 rfl (lv_at hl 2 rfl) ?_
  refine lv_aload_n hx hb dL_law_328 rfl (lv_at hl 3 rfl) ?_
  refine lv_iload_n hx hb dL_law_329 rfl (lv_at hl 0 rfl) ?_
  refine lv_iconst (v := 1) hx hb dL_law_330 (by decide) ?_
  refine lv_iadd hx hb dL_law_331 ?_
  refine va_sld hx hb hX hbl hbA hS (hin 1 (by decide) (by decide)) dL_law_332 ?_
  obtain ⟨a1, e_1⟩ : ∃ y : Int32, xs (i + 1).toNatClampNeg = y := ⟨_, rfl⟩
  refine wTop (v1 := .int a1) (congrArg Value.int e_1) ?_
  refine lv_aload_n hx hb dL_law_333 rfl (lv_at hl 3 rfl) ?_
  refine lv_iload_n hx hb dL_law_334 rfl (lv_at hl 0 rfl) ?_
  refine lv_iconst (v := 2) hx hb dL_law_335 (by decide) ?_
  refine lv_iadd hx hb dL_law_336 ?_
  refine va_sld hx hb hX hbl hbA hS (hin 2 (by decide) (by decide)) dL_law_337 ?_
  obtain ⟨a2, e_2⟩ : ∃ y : Int32, xs (i + 2).toNatClampNeg = y := ⟨_, rfl⟩
  refine wTop (v1 := .int a2) (congrArg Value.int e_2) ?_
  obtain ⟨v_, S2, ef, hp_, hKI2, en_⟩ := k_majority hKI a1 a2
  have bd_ := ki_bd hKI2
  refine lGoL (w1 := fun u : Cst × (Nat → Nat) => wsC K u.2 u.1) (wc := wsC K ad S) (wr := mW K m0 gm h1 g1 h2 g2 M) (va_runV (As := [.int a1, .int a2]) (rest := []) ⟨hx, hb, hml, hown, hts⟩ (c_Y10_majority l G K ad S 82 S2.1 S2.2.1 a1 a2 _) (cwV 2 hts (wGV t_ (mw (.methodLink RL 34 yX10_majority) (List.mem_of_getElem? (i := 0) rfl)) (mw (.instanceMethod yX10_majority) (List.mem_of_getElem? (i := 1) rfl)) (mw (.selects RX10 yX10_majority yX10_majority) (List.mem_of_getElem? (i := 2) rfl)) (mw (.initialized RX10) (List.mem_of_getElem? (i := 3) rfl)) j_Y10_majority) rfl rfl rfl (by decide +kernel) ⟨Nat.le_of_ble_eq_true rfl, Nat.le_of_ble_eq_true rfl⟩) (cPV hK hE (pL hP) (dL hD) 7 rfl (at_7 hk7) ⟨⟨en_.1.1, en_.1.2⟩, hk7, hp_ _ _ (Nat.le_refl _) (Nat.le_refl _)⟩) rfl rfl hl.1 rfl (lv_room (Nat.le_of_ble_eq_true rfl)) dL_law_338 ⟨by show S.1 + CM + (S2.1 - S.1) ≤ 600000; have := en_.1.1; omega, by show S.2.1 + SM + (S2.2.1 - S.2.1) ≤ 7302249; have := en_.1.2; omega⟩) hP hD hS hA (fun r u H locs hv hP hD hS => ?_)
  obtain ⟨S3, ad1⟩ := u
  obtain ⟨hv, -, ha⟩ := hv
  have hv : (r, S3) = (v_, S2) := hv.trans ef
  obtain ⟨rfl, rfl⟩ := Prod.mk.inj hv
  have ha82 : ad1 82 = ad 82 := ha 82 hk7.1
  have hP : va_P G vwCl (wsC K ad1 S3 ++ mW K m0 gm h1 g1 h2 g2 M) H := hP
  have hD : va_D (fun q : Nat => s.heap.size ≤ q) (wsC K ad1 S3 ++ mW K m0 gm h1 g1 h2 g2 M) := hD
  rw [← ha82] at hl
  refine cCells (cells' := S3.1 + CM) (slots' := S3.2.1 + SM) (by have := en_.1.1; omega) (by have := en_.1.2; omega) ?_
  refine lv_pop hx hb dL_law_341 rfl ?_
  refine lv_aload_n hx hb dL_law_342 rfl (lv_at hl 1 rfl) ?_
  refine lv_aload_n hx hb dL_law_343 rfl (lv_at hl 3 rfl) ?_
  refine lv_iload_n hx hb dL_law_344 rfl (lv_at hl 0 rfl) ?_
  refine lv_iconst (v := 1) hx hb dL_law_345 (by decide) ?_
  refine lv_iadd hx hb dL_law_346 ?_
  refine va_sld hx hb hX hbl hbA hS (hin 1 (by decide) (by decide)) dL_law_347 ?_
  refine wTop (v1 := .int a1) (congrArg Value.int e_1) ?_
  refine lv_aload_n hx hb dL_law_348 rfl (lv_at hl 3 rfl) ?_
  refine lv_iload_n hx hb dL_law_349 rfl (lv_at hl 0 rfl) ?_
  refine lv_iconst (v := 2) hx hb dL_law_350 (by decide) ?_
  refine lv_iadd hx hb dL_law_351 ?_
  refine va_sld hx hb hX hbl hbA hS (hin 2 (by decide) (by decide)) dL_law_352 ?_
  refine wTop (v1 := .int a2) (congrArg Value.int e_2) ?_
  obtain ⟨hpm, hMI2⟩ := m_majority hMI a1 a2
  have bd3_ := ki_bd hKI2
  refine lGoR (w1 := fun u : MS => mW K m0 gm h1 g1 h2 g2 u) (wa := wsC K ad1 S3) (wc := mW K m0 gm h1 g1 h2 g2 M) (va_runV (As := [.int a1, .int a2]) (rest := []) ⟨hx, hb, hml, hown, hts⟩ (c_X12_majority l G K m0 gm h1 g1 h2 g2 M a1 a2 _) (cwV 2 hts (wGV t_ (mw (.methodLink RL 38 yX12_majority) (List.mem_of_getElem? (i := 4) rfl)) (mw (.instanceMethod yX12_majority) (List.mem_of_getElem? (i := 5) rfl)) (mw (.selects RX12 yX12_majority yX12_majority) (List.mem_of_getElem? (i := 6) rfl)) (mw (.initialized RX12) (List.mem_of_getElem? (i := 7) rfl)) j_X12_majority) rfl rfl rfl (by decide +kernel) ⟨Nat.le_of_ble_eq_true rfl, Nat.le_of_ble_eq_true rfl⟩) (mPVm hK hE (pR hP) (dR hD) hpm) rfl rfl hl.1 rfl (lv_room (Nat.le_of_ble_eq_true rfl)) dL_law_353 ⟨by show S3.1 + CM + 0 ≤ 600000; omega, by show S3.2.1 + SM + 0 ≤ 7302249; omega⟩) hP hD hS hA (fun r2 u2 H locs hv2 hP hD hS => ?_)
  have eu2 : u2 = (f_X12_majority M a1 a2).2 := congrArg Prod.snd hv2
  have er2 : r2 = (f_X12_majority M a1 a2).1 := congrArg Prod.fst hv2
  rw [← eu2] at hMI2
  refine lv_pop hx hb dL_law_356 rfl ?_
  refine lv_goto (tgt := 1267) hx hb dL_law_357 (by decide) ?_
  have hRL2 : RQ S3 u2 := by
    rw [eu2]
    exact rl_majority hRL hKI hMI a1 a2 ef
  exact next S3 ad1 u2 H locs ls hRL2 hKI2 hMI2 hP hD hS (lv_sub hl [0, 1, 2, 3] rfl)
def e_law_6 : List Cond := [.methodLink RL 39 yX10_limit, .instanceMethod yX10_limit, .selects RX10 yX10_limit yX10_limit, .initialized RX10, .methodLink RL 42 yX12_limit, .instanceMethod yX12_limit, .selects RX12 yX12_limit yX12_limit, .initialized RX12]
def v_law_6 : List Cond := (e_law_6 ++ (v_Y10_limit ++ (v_X12_limit ++ [])))
theorem te_law_6 : GoodIn lw_tbl e_law_6 := wGc zc934 (wGc zc933 (wGc zc932 (wGc zc759 (wGc zc931 (wGc zc930 (wGc zc929 (wGc zc886 (wG0))))))))
theorem t_law_6 : GoodIn lw_tbl v_law_6 := wGa te_law_6 (wGa t_Y10_limit (wGa t_X12_limit (wG0)))
set_option maxHeartbeats 4000000 in
set_option maxRecDepth 100000 in
theorem law_6 {p : Program} {l : Launch} {e : Env} {s : State} {m : MethodId} {below : List Frame} {meth : Method} {c : Code} {b L : Nat} {xs : Nat → Int32} (C0 : lw_At p s m meth c b L xs) {G : va_G} {K : Nat → ClassId} (hK : va_K G vwCl (wTY K) s) (hE : wE s) {nt : Nat} (hN : zst nt (fun q : Nat => s.heap.size ≤ q) s s.heap) {m0 h1 h2 : Nat} {gm g1 g2 : Nat → Nat} {CM SM : Nat} (hCM : CM ≤ 10000) (hSM : SM ≤ 1000000) {i : Int32} (hin : ∀ j : Int32, 0 ≤ j.toInt → j.toInt ≤ 6 → vp_in (i + j) L) (next : lInv p l e s m below meth c b G K m0 gm h1 g1 h2 g2 CM SM 1267 i) : lInv p l e s m below meth c b G K m0 gm h1 g1 h2 g2 CM SM 360 i := by
  obtain ⟨hx, hb, hr, hml, hown, hts, hX, hbl, hlocks, hgv⟩ := id C0
  have hA : ∀ q : Nat, s.heap.size ≤ q → (fun q : Nat => s.heap.size ≤ q) q := fun _ h => h
  have hbA : ¬ (fun q : Nat => s.heap.size ≤ q) b := Nat.not_le.mpr hbl
  have t_ := t_law_6
  have hts := fun w (h : w ∈ v_law_6) => hts w (t_ w h).1
  have mw : ∀ w ∈ e_law_6, w ∈ v_law_6 := fun w h => List.mem_append_left _ h
  have j_Y10_limit : ∀ w ∈ v_Y10_limit, w ∈ v_law_6 := fun w h => List.mem_append_right _ (List.mem_append_left _ h)
  have j_X12_limit : ∀ w ∈ v_X12_limit, w ∈ v_law_6 := fun w h => List.mem_append_right _ (List.mem_append_right _ (List.mem_append_left _ h))
  intro S ad M H locs ls hRL hKI hMI hP hD hS hl
  have hk7 := ki7 hKI
  refine lv_aload_n hx hb dL_law_360 rfl (lv_at hl 2 rfl) ?_
  refine lv_aload_n hx hb dL_law_361 rfl (lv_at hl 3 rfl) ?_
  refine lv_iload_n hx hb dL_law_362 rfl (lv_at hl 0 rfl) ?_
  refine lv_iconst (v := 1) hx hb dL_law_363 (by decide) ?_
  refine lv_iadd hx hb dL_law_364 ?_
  refine va_sld hx hb hX hbl hbA hS (hin 1 (by decide) (by decide)) dL_law_365 ?_
  obtain ⟨a1, e_1⟩ : ∃ y : Int32, xs (i + 1).toNatClampNeg = y := ⟨_, rfl⟩
  refine wTop (v1 := .int a1) (congrArg Value.int e_1) ?_
  obtain ⟨v_, S2, ef, hp_, hKI2, en_⟩ := k_limit hKI a1
  have bd_ := ki_bd hKI2
  refine lGoL (w1 := fun u : Cst × (Nat → Nat) => wsC K u.2 u.1) (wc := wsC K ad S) (wr := mW K m0 gm h1 g1 h2 g2 M) (va_runV (As := [.int a1]) (rest := []) ⟨hx, hb, hml, hown, hts⟩ (c_Y10_limit l G K ad S 82 S2.1 S2.2.1 a1 _) (cwV 1 hts (wGV t_ (mw (.methodLink RL 39 yX10_limit) (List.mem_of_getElem? (i := 0) rfl)) (mw (.instanceMethod yX10_limit) (List.mem_of_getElem? (i := 1) rfl)) (mw (.selects RX10 yX10_limit yX10_limit) (List.mem_of_getElem? (i := 2) rfl)) (mw (.initialized RX10) (List.mem_of_getElem? (i := 3) rfl)) j_Y10_limit) rfl rfl rfl (by decide +kernel) ⟨Nat.le_of_ble_eq_true rfl, Nat.le_of_ble_eq_true rfl⟩) (cPV hK hE (pL hP) (dL hD) 7 rfl (at_7 hk7) ⟨⟨en_.1.1, en_.1.2⟩, hk7, hp_ _ _ (Nat.le_refl _) (Nat.le_refl _)⟩) rfl rfl hl.1 rfl (lv_room (Nat.le_of_ble_eq_true rfl)) dL_law_366 ⟨by show S.1 + CM + (S2.1 - S.1) ≤ 600000; have := en_.1.1; omega, by show S.2.1 + SM + (S2.2.1 - S.2.1) ≤ 7302249; have := en_.1.2; omega⟩) hP hD hS hA (fun r u H locs hv hP hD hS => ?_)
  obtain ⟨S3, ad1⟩ := u
  obtain ⟨hv, -, ha⟩ := hv
  have hv : (r, S3) = (v_, S2) := hv.trans ef
  obtain ⟨rfl, rfl⟩ := Prod.mk.inj hv
  have ha82 : ad1 82 = ad 82 := ha 82 hk7.1
  have hP : va_P G vwCl (wsC K ad1 S3 ++ mW K m0 gm h1 g1 h2 g2 M) H := hP
  have hD : va_D (fun q : Nat => s.heap.size ≤ q) (wsC K ad1 S3 ++ mW K m0 gm h1 g1 h2 g2 M) := hD
  rw [← ha82] at hl
  refine cCells (cells' := S3.1 + CM) (slots' := S3.2.1 + SM) (by have := en_.1.1; omega) (by have := en_.1.2; omega) ?_
  refine lv_pop hx hb dL_law_369 rfl ?_
  refine lv_aload_n hx hb dL_law_370 rfl (lv_at hl 1 rfl) ?_
  refine lv_aload_n hx hb dL_law_371 rfl (lv_at hl 3 rfl) ?_
  refine lv_iload_n hx hb dL_law_372 rfl (lv_at hl 0 rfl) ?_
  refine lv_iconst (v := 1) hx hb dL_law_373 (by decide) ?_
  refine lv_iadd hx hb dL_law_374 ?_
  refine va_sld hx hb hX hbl hbA hS (hin 1 (by decide) (by decide)) dL_law_375 ?_
  refine wTop (v1 := .int a1) (congrArg Value.int e_1) ?_
  obtain ⟨hpm, hMI2⟩ := m_limit hMI a1
  have bd3_ := ki_bd hKI2
  refine lGoR (w1 := fun u : MS => mW K m0 gm h1 g1 h2 g2 u) (wa := wsC K ad1 S3) (wc := mW K m0 gm h1 g1 h2 g2 M) (va_runV (As := [.int a1]) (rest := []) ⟨hx, hb, hml, hown, hts⟩ (c_X12_limit l G K m0 gm h1 g1 h2 g2 M a1 _) (cwV 1 hts (wGV t_ (mw (.methodLink RL 42 yX12_limit) (List.mem_of_getElem? (i := 4) rfl)) (mw (.instanceMethod yX12_limit) (List.mem_of_getElem? (i := 5) rfl)) (mw (.selects RX12 yX12_limit yX12_limit) (List.mem_of_getElem? (i := 6) rfl)) (mw (.initialized RX12) (List.mem_of_getElem? (i := 7) rfl)) j_X12_limit) rfl rfl rfl (by decide +kernel) ⟨Nat.le_of_ble_eq_true rfl, Nat.le_of_ble_eq_true rfl⟩) (mPVm hK hE (pR hP) (dR hD) hpm) rfl rfl hl.1 rfl (lv_room (Nat.le_of_ble_eq_true rfl)) dL_law_376 ⟨by show S3.1 + CM + 0 ≤ 600000; omega, by show S3.2.1 + SM + 0 ≤ 7302249; omega⟩) hP hD hS hA (fun r2 u2 H locs hv2 hP hD hS => ?_)
  have eu2 : u2 = (f_X12_limit M a1).2 := congrArg Prod.snd hv2
  have er2 : r2 = (f_X12_limit M a1).1 := congrArg Prod.fst hv2
  rw [← eu2] at hMI2
  refine lv_pop hx hb dL_law_379 rfl ?_
  refine lv_goto (tgt := 1267) hx hb dL_law_380 (by decide) ?_
  have hRL2 : RQ S3 u2 := by
    rw [eu2]
    exact rl_limit hRL hKI hMI a1 ef
  exact next S3 ad1 u2 H locs ls hRL2 hKI2 hMI2 hP hD hS (lv_sub hl [0, 1, 2, 3] rfl)
