/-! ===== the law: the two sides' worlds end to end ===== -/
theorem ki7 {S : Cst} {m : Nat} (h : KI S m) : iK S m 7 := by
  obtain ⟨_, _, _, _, _, _, _, h⟩ := h
  exact h.km
theorem ki_bd {S : Cst} {m : Nat} (h : KI S m) : S.1 ≤ 40000 ∧ S.2.1 ≤ 500000 := by
  obtain ⟨_, _, _, _, _, _, _, h⟩ := h
  exact h.bd
theorem ki_wf {S : Cst} {m : Nat} (h : KI S m) : wfS S := by
  obtain ⟨_, _, _, _, _, _, _, h⟩ := h
  exact h.ci.wf
section LG
variable {p : Program} {l : Launch} {e : Env} {R : Room} {s : State} {m : MethodId} {args : Array Value} {below : List Frame} {meth : Method} {c : Code} {H : Heap} {locs : List Loc} {cells slots : Nat} {Q : State → Prop}
variable {pc : Nat} {ls : Array Slot} {rest st0 : List Value} {a : Array Value} {A0 : Nat → Prop} {mc ms : Nat} {G : va_G} {K : Nat → ClassId} {m0 h1 h2 : Nat} {gm g1 g2 : Nat → Nat}
theorem mPVm {M : MS} {P : Prop} {As : List Value} {H : Heap} (hK : va_K G vwCl (wTY K) s) (hE : wE s) (hP : va_P G vwCl (mW K m0 gm h1 g1 h2 g2 M) H) (hD : va_D A0 (mW K m0 gm h1 g1 h2 g2 M)) (p : P) : PreV s H RX12 m0 (va_Pc (.ref m0 :: As) (mSt G K m0 gm h1 g1 h2 g2 H.size M P)) As :=
  ⟨fun a U g' mk q => ⟨q.1, (wFB (av := .ref m0 :: As) a U g' mk ⟨q.1, q.2.1⟩).2, q.2.2⟩, va_recv hK hP (ci := 9) (q0 := 0) rfl rfl, fun U hU hW' => ⟨rfl, (((wPS (av := []) hK hE hP hD).2 U hU hW').2), p⟩⟩
/-- a call of the left side -/
theorem lGoL {U : Type} {w1 : U → va_W} {wc wr : va_W} {post : Int32 → U → Prop} (hr : va_Run p l e R s m args below meth c H locs cells slots mc ms (F0 m pc ls st0) rest (va_Qi post (fun u t => wB G (va_A wc H.size) (w1 u) t) (va_A wc H.size) a) (va_A wc H.size)) (hP : va_P G vwCl (wc ++ wr) H) (hD : va_D A0 (wc ++ wr)) (hS : va_S A0 s.heap H locs) (hA : ∀ q, s.heap.size ≤ q → A0 q)
    (kk : ∀ (r : Int32) (u : U) (H1 : Heap) (locs1 : List Loc), post r u → va_P G vwCl (w1 u ++ wr) H1 → va_D A0 (w1 u ++ wr) → va_S A0 s.heap H1 locs1 → W p l e R s m args below meth c H1 locs1 (cells + mc) (slots + ms) Q (F0 m (pc + 3) ls (.int r :: rest))) : W p l e R s m args below meth c H locs cells slots Q (F0 m pc ls st0) := by
  have hF : ∀ q, va_A wc H.size q → A0 q := fun q hq => by
    rcases hq with ⟨k, e', h1⟩ | h1
    · exact (dL hD).2 k (q, e') h1
    · exact hA q (Nat.le_trans hS.1 h1)
  refine va_calli hr hS (fun q _ h => hF q h) hF (fun r u t H1 locs1 ht _ hw hB' _ hk hS1 => ?_)
  obtain ⟨hP1, hD1⟩ := hB'
  rw [ht] at hP1
  obtain ⟨x1, x2⟩ := fr3 (wa := []) (wc := wc) (wb := wr) hP hD hk hF hP1 hD1
  exact kk r u H1 locs1 hw x1 x2 hS1
/-- a call of the right side -/
theorem lGoR {U : Type} {w1 : U → va_W} {wa wc : va_W} {post : Int32 → U → Prop} (hr : va_Run p l e R s m args below meth c H locs cells slots mc ms (F0 m pc ls st0) rest (va_Qi post (fun u t => wB G (va_A wc H.size) (w1 u) t) (va_A wc H.size) a) (va_A wc H.size)) (hP : va_P G vwCl (wa ++ wc) H) (hD : va_D A0 (wa ++ wc)) (hS : va_S A0 s.heap H locs) (hA : ∀ q, s.heap.size ≤ q → A0 q)
    (kk : ∀ (r : Int32) (u : U) (H1 : Heap) (locs1 : List Loc), post r u → va_P G vwCl (wa ++ w1 u) H1 → va_D A0 (wa ++ w1 u) → va_S A0 s.heap H1 locs1 → W p l e R s m args below meth c H1 locs1 (cells + mc) (slots + ms) Q (F0 m (pc + 3) ls (.int r :: rest))) : W p l e R s m args below meth c H locs cells slots Q (F0 m pc ls st0) := by
  have hF : ∀ q, va_A wc H.size q → A0 q := fun q hq => by
    rcases hq with ⟨k, e', h1⟩ | h1
    · exact (dR hD).2 k (q, e') h1
    · exact hA q (Nat.le_trans hS.1 h1)
  refine va_calli hr hS (fun q _ h => hF q h) hF (fun r u t H1 locs1 ht _ hw hB' _ hk hS1 => ?_)
  obtain ⟨hP1, hD1⟩ := hB'
  rw [ht] at hP1
  have e0 : ∀ v : va_W, wa ++ v = wa ++ (v ++ []) := fun v => by rw [List.append_nil]
  rw [e0] at hP hD
  obtain ⟨x1, x2⟩ := fr3 (wa := wa) (wc := wc) (wb := []) hP hD hk hF hP1 hD1
  rw [← e0] at x1 x2
  exact kk r u H1 locs1 hw x1 x2 hS1
end LG
/-- what stands at one of the law's places -/
def lInv (p : Program) (l : Launch) (e : Env) (s : State) (m : MethodId) (below : List Frame) (meth : Method) (c : Code) (b : Nat) (G : va_G) (K : Nat → ClassId) (m0 : Nat) (gm : Nat → Nat) (h1 : Nat) (g1 : Nat → Nat) (h2 : Nat) (g2 : Nat → Nat) (CM SM : Nat) (pc : Nat) (i : Int32) : Prop :=
  ∀ (S : Cst) (ad : Nat → Nat) (M : MS) (H : Heap) (locs : List Loc) (ls : Array Slot), RQ S M → KI S 82 → MI M → va_P G vwCl (wsC K ad S ++ mW K m0 gm h1 g1 h2 g2 M) H → va_D (fun q : Nat => s.heap.size ≤ q) (wsC K ad S ++ mW K m0 gm h1 g1 h2 g2 M) → va_S (fun q : Nat => s.heap.size ≤ q) s.heap H locs → lv_has ls 4 [(3, .int i), (2, .ref m0), (1, .ref (ad 82)), (0, .ref b)] → W p l e room_1 s m #[Value.ref b] below meth c H locs (S.1 + CM) (S.2.1 + SM) (lw_Z below #[Value.ref b] s) (F0 m pc ls [])
theorem law_tail {p : Program} {l : Launch} {e : Env} {s : State} {m : MethodId} {below : List Frame} {meth : Method} {c : Code} {b L : Nat} {xs : Nat → Int32} (C0 : lw_At p s m meth c b L xs) {G : va_G} {K : Nat → ClassId} {m0 h1 h2 : Nat} {gm g1 g2 : Nat → Nat} {CM SM : Nat} {i : Int32} (next : lInv p l e s m below meth c b G K m0 gm h1 g1 h2 g2 CM SM 18 (i + 7)) : lInv p l e s m below meth c b G K m0 gm h1 g1 h2 g2 CM SM 1267 i := by
  obtain ⟨hx, hb, -⟩ := id C0
  intro S ad M H locs ls hRL hKI hMI hP hD hS hl
  refine lv_iinc (v := i + 7) (lv' := [(3, .int (i + 7)), (2, .ref m0), (1, .ref (ad 82)), (0, .ref b)]) hx hb dL_law_1267 hl (k := 0) rfl rfl (by decide) rfl (fun ls hl => ?_)
  refine lv_goto (tgt := 18) hx hb dL_law_1270 (by decide) ?_
  exact next S ad M H locs ls hRL hKI hMI hP hD hS hl
theorem law_static {p : Program} {s : State} {m : MethodId} {meth : Method} {c : Code} {b L : Nat} {xs : Nat → Int32} (C0 : lw_At p s m meth c b L xs) : ∃ nt, zst nt (fun q : Nat => s.heap.size ≤ q) s s.heap := by
  obtain ⟨hx, hb, hr, hml, hown, hts, hX, hbl, hlocks, hgv⟩ := id C0
  have hs := flat_of_before _ hgv
  have hA : ∀ a : Nat, a < s.heap.size → ¬ (fun q : Nat => s.heap.size ≤ q) a := fun a h => Nat.not_le.mpr h
  obtain ⟨t, ht, hT⟩ := va_Tof (args := #[Value.ref b]) (tm := .static "MotionFloor" "NUMBERS_OF_ACT" "[I") (ty := .int) (N := 23) (f := fun j => .int (tabN j)) (by decide) (hs _ (by decide +kernel)) (va_eqt (z := 23) (hs _ (by decide +kernel))) (fun j hj => by
    rcases (show j = 0 ∨ j = 1 ∨ j = 2 ∨ j = 3 ∨ j = 4 ∨ j = 5 ∨ j = 6 ∨ j = 7 ∨ j = 8 ∨ j = 9 ∨ j = 10 ∨ j = 11 ∨ j = 12 ∨ j = 13 ∨ j = 14 ∨ j = 15 ∨ j = 16 ∨ j = 17 ∨ j = 18 ∨ j = 19 ∨ j = 20 ∨ j = 21 ∨ j = 22 from by omega) with rfl | rfl | rfl | rfl | rfl | rfl | rfl | rfl | rfl | rfl | rfl | rfl | rfl | rfl | rfl | rfl | rfl | rfl | rfl | rfl | rfl | rfl | rfl
    · exact va_eqt (z := tabN 0) (hs _ (by decide +kernel))
    · exact va_eqt (z := tabN 1) (hs _ (by decide +kernel))
    · exact va_eqt (z := tabN 2) (hs _ (by decide +kernel))
    · exact va_eqt (z := tabN 3) (hs _ (by decide +kernel))
    · exact va_eqt (z := tabN 4) (hs _ (by decide +kernel))
    · exact va_eqt (z := tabN 5) (hs _ (by decide +kernel))
    · exact va_eqt (z := tabN 6) (hs _ (by decide +kernel))
    · exact va_eqt (z := tabN 7) (hs _ (by decide +kernel))
    · exact va_eqt (z := tabN 8) (hs _ (by decide +kernel))
    · exact va_eqt (z := tabN 9) (hs _ (by decide +kernel))
    · exact va_eqt (z := tabN 10) (hs _ (by decide +kernel))
    · exact va_eqt (z := tabN 11) (hs _ (by decide +kernel))
    · exact va_eqt (z := tabN 12) (hs _ (by decide +kernel))
    · exact va_eqt (z := tabN 13) (hs _ (by decide +kernel))
    · exact va_eqt (z := tabN 14) (hs _ (by decide +kernel))
    · exact va_eqt (z := tabN 15) (hs _ (by decide +kernel))
    · exact va_eqt (z := tabN 16) (hs _ (by decide +kernel))
    · exact va_eqt (z := tabN 17) (hs _ (by decide +kernel))
    · exact va_eqt (z := tabN 18) (hs _ (by decide +kernel))
    · exact va_eqt (z := tabN 19) (hs _ (by decide +kernel))
    · exact va_eqt (z := tabN 20) (hs _ (by decide +kernel))
    · exact va_eqt (z := tabN 21) (hs _ (by decide +kernel))
    · exact va_eqt (z := tabN 22) (hs _ (by decide +kernel))) hA
  exact ⟨t, va_Zof (hts _ (wT4 (List.mem_of_getElem? (i := 217) (by decide +kernel)))) (hts _ zc759.1) ht hA, hT⟩
