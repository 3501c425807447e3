/-! ===== the words in which every contract here is said ===== -/
abbrev wTY (K : Nat → ClassId) : List (ClassId × FieldType) := [(K 0, .int), (K 1, .boolean), (K 2, .byte), (K 3, .object RX4), (K 4, .object RX6)]
/-- what the tables say that no word list carries: two arrays of objects, the nest mates' private members -/
def wE (U : State) : Prop := (va_AO RX4 U ∧ va_AO RX6 U) ∧ va_Nw (.methodLinkNest RX0 11 yX2_init "MotionFloor") U ∧ va_Nw (.methodLinkNest RX0 20 yX5_init "MotionFloor") U ∧ va_Nw (.methodLinkNest RX0 27 yX6_init "MotionFloor") U ∧ va_Nw (.methodLinkNest RX6 17 yX5_init "MotionFloor") U ∧ va_Nw (.methodLinkNest RX0 50 yX9_init "MotionFloor") U ∧ va_Nw (.methodLinkNest RX0 137 yX4_init "MotionFloor") U ∧ va_Nw (.methodLinkNest RX4 11 yX9_init "MotionFloor") U ∧ va_Nw (.methodLinkNest RX12 15 yX11_init "MotionFloorModel") U ∧ va_Nw (.methodLinkNest RX11 136 yX12_in "MotionFloorModel") U ∧ va_Nw (.methodLinkNest RX11 203 yX12_numbers "MotionFloorModel") U
theorem wE.call {U : State} {g : JFrame} {mk : MethodId} {a : Array Value} (h : wE U) : wE (U.calling g mk a) := by
  obtain ⟨⟨a1, a2⟩, b0, b1, b2, b3, b4, b5, b6, b7, b8, b9⟩ := h
  exact ⟨⟨va_AO.moved (Vm.Alike.refl U.vm) a1, va_AO.moved (Vm.Alike.refl U.vm) a2⟩, va_Nw.same rfl rfl b0, va_Nw.same rfl rfl b1, va_Nw.same rfl rfl b2, va_Nw.same rfl rfl b3, va_Nw.same rfl rfl b4, va_Nw.same rfl rfl b5, va_Nw.same rfl rfl b6, va_Nw.same rfl rfl b7, va_Nw.same rfl rfl b8, va_Nw.same rfl rfl b9⟩
theorem wE.warm {s U : State} (hW : s.WarmedH U.vm) (h : wE s) : wE U := by
  obtain ⟨⟨a1, a2⟩, b0, b1, b2, b3, b4, b5, b6, b7, b8, b9⟩ := h
  exact ⟨⟨va_AO.moved hW.alike a1, va_AO.moved hW.alike a2⟩, va_Nw.warmM hW b0, va_Nw.warmM hW b1, va_Nw.warmM hW b2, va_Nw.warmM hW b3, va_Nw.warmM hW b4, va_Nw.warmM hW b5, va_Nw.warmM hW b6, va_Nw.warmM hW b7, va_Nw.warmM hW b8, va_Nw.warmM hW b9⟩
/-- a method's start: its world, apart; the tables -/
def wS (G : va_G) (K : Nat → ClassId) (sz : Nat) (ws : va_W) (U : State) : Prop := U.heap.size = sz ∧ va_P G vwCl ws U.heap ∧ va_K G vwCl (wTY K) U ∧ va_D (fun _ => True) ws ∧ wE U
/-- a method's end: the world u -/
def wB (G : va_G) (A : Nat → Prop) (u : va_W) (t : State) : Prop := va_P G vwCl u t.heap ∧ va_D A u
theorem wFB {G : va_G} {K : Nat → ClassId} {sz : Nat} {ws : va_W} {av : List Value} : FrameBlind (va_Pc av (wS G K sz ws)) := fun _ U _ _ q => ⟨q.1, q.2.1, q.2.2.1, va_K.moved (Vm.Alike.refl U.vm) q.2.2.2.1, q.2.2.2.2.1, q.2.2.2.2.2.call⟩
theorem wPS {G : va_G} {K : Nat → ClassId} {wc : va_W} {H : Heap} {s : State} {av : List Value} {A : Nat → Prop} (hK : va_K G vwCl (wTY K) s) (hE : wE s) (hP : va_P G vwCl wc H) (hD : va_D A wc) : PreS s H (va_Pc av (wS G K H.size wc)) av :=
  ⟨wFB, fun U hU hW => ⟨rfl, by rw [hU], by rw [hU]; exact hP, va_K.moved hW.alike hK, hD.weaken (fun _ _ _ _ => trivial), hE.warm hW⟩⟩
theorem wPV {G : va_G} {K : Nat → ClassId} {wc : va_W} {H : Heap} {s : State} {b : Nat} {As : List Value} {A : Nat → Prop} (hK : va_K G vwCl (wTY K) s) (hE : wE s) (hP : va_P G vwCl wc H) (hD : va_D A wc) (ci q0 : Nat) {q : vw_C} {fs : List Value} (hc : vwCl[ci]? = some q) (he : wc[q0]? = some (b, .inr (ci, fs))) : PreV s H q.1 b (va_Pc (.ref b :: As) (wS G K H.size wc)) As :=
  ⟨wFB, va_recv hK hP hc he, fun U hU hW => ⟨rfl, by rw [hU], by rw [hU]; exact hP, va_K.moved hW.alike hK, hD.weaken (fun _ _ _ _ => trivial), hE.warm hW⟩⟩
theorem wLt {x y : Int32} {a b : Int} (hx : x.toInt = a) (hy : y.toInt = b) (h : x < y) : a < b := by rw [← hx, ← hy]; exact Int32.lt_iff_toInt_lt.mp h
theorem wLe {x y : Int32} {a b : Int} (hx : x.toInt = a) (hy : y.toInt = b) (h : x ≤ y) : a ≤ b := by rw [← hx, ← hy]; exact Int32.le_iff_toInt_le.mp h
theorem wNlt {x y : Int32} {a b : Int} (hx : x.toInt = a) (hy : y.toInt = b) (h : ¬ x < y) : b ≤ a := by
  rw [← hx, ← hy]; exact Int.not_lt.mp (fun q => h (Int32.lt_iff_toInt_lt.mpr q))
theorem wNle {x y : Int32} {a b : Int} (hx : x.toInt = a) (hy : y.toInt = b) (h : ¬ x ≤ y) : b < a := by
  rw [← hx, ← hy]; exact Int.not_le.mp (fun q => h (Int32.le_iff_toInt_le.mpr q))
theorem wEq {x y : Int32} {a b : Int} (hx : x.toInt = a) (hy : y.toInt = b) (h : x = y) : a = b := by rw [← hx, ← hy, h]
theorem wNe {x y : Int32} {a b : Int} (hx : x.toInt = a) (hy : y.toInt = b) (h : ¬ x = y) : ¬ a = b := by
  rw [← hx, ← hy]; exact fun q => h (Int32.toInt_inj.mp q)
theorem wIs {x y : Int32} {b : Int} (hy : y.toInt = b) (h : x.toInt = b) : x = y := Int32.toInt_inj.mp (h.trans hy.symm)
/-- two array classes of one type are one -/
theorem wTyI {D : va_G} {cl : List vw_C} {tys : List (ClassId × FieldType)} {U : State} (h : va_K D cl tys U) (i j : Nat) {c1 c2 : ClassId} {ty : FieldType} (h1 : tys[i]? = some (c1, ty)) (h2 : tys[j]? = some (c2, ty)) : c1 = c2 := by
  have a := (h.2 i _ h1).2
  have b := (h.2 j _ h2).2
  cases ty with
  | object C =>
    obtain ⟨_, _, _, _, _, a4⟩ := a
    obtain ⟨_, _, _, _, _, b4⟩ := b
    exact Option.some.inj (a4.symm.trans b4)
  | _ => exact Option.some.inj (Eq.trans (Eq.symm a) b)
/-- words: in the tables, and kept by warming -/
def wZ (w : Cond) : Prop := w ∈ lw_tbl ∧ ((w.onTables && w.keeps) = true ∨ ∃ ty, w = .arrayClass ty)
theorem wT1 {w : Cond} (h : w ∈ tables_1_1) : w ∈ lw_tbl := List.mem_append_right _ (List.mem_append_left _ h)
theorem wT2 {w : Cond} (h : w ∈ tables_1_2) : w ∈ lw_tbl := List.mem_append_right _ (List.mem_append_right _ (List.mem_append_left _ h))
theorem wT3 {w : Cond} (h : w ∈ tables_1_3) : w ∈ lw_tbl := List.mem_append_right _ (List.mem_append_right _ (List.mem_append_right _ (List.mem_append_left _ h)))
theorem wT4 {w : Cond} (h : w ∈ tables_1_4) : w ∈ lw_tbl := List.mem_append_right _ (List.mem_append_right _ (List.mem_append_right _ (List.mem_append_right _ (List.mem_append_left _ h))))
theorem wT5 {w : Cond} (h : w ∈ tables_1_5) : w ∈ lw_tbl := List.mem_append_right _ (List.mem_append_right _ (List.mem_append_right _ (List.mem_append_right _ (List.mem_append_right _ (List.mem_append_left _ h)))))
theorem wT6 {w : Cond} (h : w ∈ tables_1_6) : w ∈ lw_tbl := List.mem_append_right _ (List.mem_append_right _ (List.mem_append_right _ (List.mem_append_right _ (List.mem_append_right _ (List.mem_append_right _ (List.mem_append_left _ h))))))
theorem wT7 {w : Cond} (h : w ∈ tables_1_7) : w ∈ lw_tbl := List.mem_append_right _ (List.mem_append_right _ (List.mem_append_right _ (List.mem_append_right _ (List.mem_append_right _ (List.mem_append_right _ (List.mem_append_right _ (h)))))))
theorem wG0 : GoodIn lw_tbl [] := fun _ h => absurd h List.not_mem_nil
theorem wGc {w : Cond} {ws : List Cond} (a : wZ w) (b : GoodIn lw_tbl ws) : GoodIn lw_tbl (w :: ws) := fun v h => (List.mem_cons.mp h).elim (fun q => by rw [q]; exact a) (fun q => b v q)
theorem wGa {ws vs : List Cond} (a : GoodIn lw_tbl ws) (b : GoodIn lw_tbl vs) : GoodIn lw_tbl (ws ++ vs) := fun v h => (List.mem_append.mp h).elim (fun q => a v q) (fun q => b v q)
theorem wGP {Ts ws : List Cond} (t : GoodIn lw_tbl Ts) (h : ∀ w ∈ ws, w ∈ Ts) : GoodIn Ts ws := fun w q => ⟨h w q, (t w (h w q)).2⟩
theorem wGV {Ts ws : List Cond} {own C : String} {idx : Nat} {y : MethodName} (t : GoodIn lw_tbl Ts) (h1 : (.methodLink own idx y : Cond) ∈ Ts) (h2 : (.instanceMethod y : Cond) ∈ Ts) (h3 : (.selects C y y : Cond) ∈ Ts) (h4 : (.initialized C : Cond) ∈ Ts) (h : ∀ w ∈ ws, w ∈ Ts) : GoodIn Ts (wsV own idx C y ws) := by
  refine wGP t (fun w q => ?_)
  rcases List.mem_append.mp q with q | q
  · simp only [List.mem_cons, List.not_mem_nil, or_false] at q
    rcases q with rfl | rfl | rfl | rfl <;> assumption
  · exact h w q
theorem wGS {Ts ws : List Cond} {own : String} {idx : Nat} {y : MethodName} (t : GoodIn lw_tbl Ts) (h1 : (.methodLink own idx y : Cond) ∈ Ts) (h2 : (.static y : Cond) ∈ Ts) (h4 : (.initialized y.cls : Cond) ∈ Ts) (h : ∀ w ∈ ws, w ∈ Ts) : GoodIn Ts (va_wsS own idx y ws) := by
  refine wGP t (fun w q => ?_)
  rcases List.mem_append.mp q with q | q
  · simp only [List.mem_cons, List.not_mem_nil, or_false] at q
    rcases q with rfl | rfl | rfl <;> assumption
  · exact h w q
/-- an array's cell is what it holds below its length -/
theorem wCel (cA : ClassId) (n : Nat) (f g : Nat → Int32) (e : ∀ j, j < n → f j = g j) : vp_cell cA (n, .inl f) = vp_cell cA (n, .inl g) := by
  rw [vp_cell_i, vp_cell_i]
  unfold arrV
  congr 1
  apply Array.ext
  · simp
  · intro i h1 h2
    have hi : i < n := by simpa using h1
    simp [e i hi]
theorem wConP {G : va_G} {A : Nat → Prop} {ws : va_W} {H : Heap} (hP : va_P G vwCl ws H) (hD : va_D A ws) (q : Nat) {a : Nat} {cA : ClassId} {n : Nat} {f : Nat → Int32} (g : Nat → Int32) (h : ws[q]? = some (a, .inl (cA, n, .inl f))) (e : ∀ j, j < n → f j = g j) : va_P G vwCl (ws.set q (a, .inl (cA, n, .inl g))) H :=
  hP.set hD h (show H[a]? = some (vp_cell cA (n, .inl g)) from by rw [← wCel cA n f g e]; exact hP q _ h) (fun _ _ => rfl)
section W2
variable {p : Program} {l : Launch} {e : Env} {R : Room} {s : State} {m : MethodId} {args : Array Value} {below : List Frame} {meth : Method} {c : Code} {H : Heap} {locs : List Loc} {cells slots : Nat} {Q : State → Prop}
variable {pc : Nat} {ls : Array Slot} {rest st0 : List Value} {a : Array Value} {A0 : Nat → Prop} {mc ms : Nat} {G : va_G} {ws wc wr : va_W}
theorem wGoi {post : Int32 → va_W → Prop} (hr : va_Run p l e R s m args below meth c H locs cells slots mc ms (F0 m pc ls st0) rest (va_Qi post (wB G (va_A wc H.size)) (va_A wc H.size) a) (va_A wc H.size)) (hP : va_P G vwCl ws H) (hD : va_D A0 ws) (hS : va_S A0 s.heap H locs) (hA : ∀ q, s.heap.size ≤ q → A0 q) (isC isR : List Nat) (hC : isC.map (fun i => ws[i]?) = wc.map some) (hR : isR.map (fun i => ws[i]?) = wr.map some) (hn : va_nd isR = true) (hdis : ∀ i ∈ isR, i ∉ isC)
    (kk : ∀ (r : Int32) (u : va_W) (H1 : Heap) (locs1 : List Loc), post r u → va_P G vwCl (wr ++ u) H1 → va_D A0 (wr ++ u) → va_S A0 s.heap H1 locs1 → W p l e R s m args below meth c H1 locs1 (cells + mc) (slots + ms) Q (F0 m (pc + 3) ls (.int r :: rest))) : W p l e R s m args below meth c H locs cells slots Q (F0 m pc ls st0) := by
  have hF := va_free hD hS hA isC hC
  refine va_calli hr hS (fun q _ h => hF q h) hF (fun r u t H1 locs1 ht _ hw hB _ hk hS1 => ?_)
  obtain ⟨hP1, hD1⟩ := hB
  rw [ht] at hP1
  obtain ⟨hP2, hD2⟩ := va_join hP hD isC isR hC hR hn hdis hk hF hP1 hD1
  exact kk r u H1 locs1 hw hP2 hD2 hS1
theorem wGoq {post : Option Nat → va_W → Prop} (hr : va_Run p l e R s m args below meth c H locs cells slots mc ms (F0 m pc ls st0) rest (va_Qq post (wB G (va_A wc H.size)) (va_A wc H.size) a) (va_A wc H.size)) (hP : va_P G vwCl ws H) (hD : va_D A0 ws) (hS : va_S A0 s.heap H locs) (hA : ∀ q, s.heap.size ≤ q → A0 q) (isC isR : List Nat) (hC : isC.map (fun i => ws[i]?) = wc.map some) (hR : isR.map (fun i => ws[i]?) = wr.map some) (hn : va_nd isR = true) (hdis : ∀ i ∈ isR, i ∉ isC)
    (kk : ∀ (r : Option Nat) (u : va_W) (H1 : Heap) (locs1 : List Loc), post r u → va_P G vwCl (wr ++ u) H1 → va_D A0 (wr ++ u) → va_S A0 s.heap H1 locs1 → W p l e R s m args below meth c H1 locs1 (cells + mc) (slots + ms) Q (F0 m (pc + 3) ls (va_rf r :: rest))) : W p l e R s m args below meth c H locs cells slots Q (F0 m pc ls st0) := by
  have hF := va_free hD hS hA isC hC
  refine va_callq hr hS (fun q _ h => hF q h) hF (fun r u t H1 locs1 ht _ hw hB _ hk hS1 => ?_)
  obtain ⟨hP1, hD1⟩ := hB
  rw [ht] at hP1
  obtain ⟨hP2, hD2⟩ := va_join hP hD isC isR hC hR hn hdis hk hF hP1 hD1
  exact kk r u H1 locs1 hw hP2 hD2 hS1
theorem wGov {post : va_W → Prop} (hr : va_Run p l e R s m args below meth c H locs cells slots mc ms (F0 m pc ls st0) rest (va_Qv post (wB G (va_A wc H.size)) (va_A wc H.size) a) (va_A wc H.size)) (hP : va_P G vwCl ws H) (hD : va_D A0 ws) (hS : va_S A0 s.heap H locs) (hA : ∀ q, s.heap.size ≤ q → A0 q) (isC isR : List Nat) (hC : isC.map (fun i => ws[i]?) = wc.map some) (hR : isR.map (fun i => ws[i]?) = wr.map some) (hn : va_nd isR = true) (hdis : ∀ i ∈ isR, i ∉ isC)
    (kk : ∀ (u : va_W) (H1 : Heap) (locs1 : List Loc), post u → va_P G vwCl (wr ++ u) H1 → va_D A0 (wr ++ u) → va_S A0 s.heap H1 locs1 → W p l e R s m args below meth c H1 locs1 (cells + mc) (slots + ms) Q (F0 m (pc + 3) ls rest)) : W p l e R s m args below meth c H locs cells slots Q (F0 m pc ls st0) := by
  have hF := va_free hD hS hA isC hC
  refine va_callv hr hS (fun q _ h => hF q h) hF (fun u t H1 locs1 ht _ hw hB _ hk hS1 => ?_)
  obtain ⟨hP1, hD1⟩ := hB
  rw [ht] at hP1
  obtain ⟨hP2, hD2⟩ := va_join hP hD isC isR hC hR hn hdis hk hF hP1 hD1
  exact kk u H1 locs1 hw hP2 hD2 hS1
/-- the top of the stack, said otherwise -/
theorem wTop {v : Value} (v1 : Value) (h : v = v1) (k : W p l e R s m args below meth c H locs cells slots Q (F0 m pc ls (v1 :: rest))) : W p l e R s m args below meth c H locs cells slots Q (F0 m pc ls (v :: rest)) := by
  subst h
  exact k
/-- the end by a name -/
theorem wGen {g : JFrame} (k : ∀ Q1 : State → Prop, Q1 = Q → W p l e R s m args below meth c H locs cells slots Q1 g) : W p l e R s m args below meth c H locs cells slots Q g := k Q rfl
/-- a loop that counts up to N -/
theorem wUp {head : Nat} (N : Nat) (P : Nat → Array Slot → Heap → List Loc → Prop) (hx : ∀ (ls : Array Slot) (H : Heap) (locs : List Loc), P N ls H locs → W p l e R s m args below meth c H locs cells slots Q (F0 m head ls []))
    (hb : ∀ (i : Nat) (ls : Array Slot) (H : Heap) (locs : List Loc), i < N → P i ls H locs → (∀ (ls1 : Array Slot) (H1 : Heap) (locs1 : List Loc), P (i + 1) ls1 H1 locs1 → W p l e R s m args below meth c H1 locs1 cells slots Q (F0 m head ls1 [])) → W p l e R s m args below meth c H locs cells slots Q (F0 m head ls [])) (h0 : P 0 ls H locs) : W p l e R s m args below meth c H locs cells slots Q (F0 m head ls []) := by
  have key : ∀ (n i : Nat) (ls : Array Slot) (H : Heap) (locs : List Loc), i ≤ N → N - i < n → P i ls H locs → W p l e R s m args below meth c H locs cells slots Q (F0 m head ls []) := by
    intro n
    induction n with
    | zero => intro i ls H locs _ h2; omega
    | succ n ih =>
      intro i ls H locs h1 h2 h
      by_cases hi : i < N
      · exact hb i ls H locs hi h (fun ls1 H1 locs1 q => ih (i + 1) ls1 H1 locs1 (by omega) (by omega) q)
      · have e : i = N := by omega
        subst e
        exact hx ls H locs h
  exact key (N + 1) 0 ls H locs (Nat.zero_le N) (by omega) h0
end W2
/-- a store of what is there -/
theorem wUpd0 (k : Nat) : upd (fun _ => 0) k 0 = fun _ => 0 := by
  funext j
  unfold upd
  split <;> rfl
theorem wUpd0z (k : Nat) : upd (fun _ => 0) k (vp_nar .boolean 0) = fun _ => 0 := wUpd0 k
theorem wUpd0b (k : Nat) : upd (fun _ => 0) k (vp_nar .byte 0) = fun _ => 0 := wUpd0 k
