/-! ===== the reference: its own object, two Halls ===== -/
abbrev MS : Type := HS × HS × HS
def mO (M : MS) (s : HS) : MS := (s, M.2)
def mH (M : MS) (s : HS) : MS := (M.1, s, M.2.2)
def mS (M : MS) (s : HS) : MS := (M.1, M.2.1, s)
def oW (K : Nat → ClassId) (m0 : Nat) (gm : Nat → Nat) (h1 h2 : Nat) (S : HS) : va_W := [(m0, .inr (9, [.ref h1, .ref h2, .ref (gm 2), .ref (gm 3), .ref (gm 4), .ref (gm 5), .int (S.1 6)])), (gm 2, .inl (K 0, 2, .inl (S.2 2))), (gm 3, .inl (K 0, 2, .inl (S.2 3))), (gm 4, .inl (K 0, 7200, .inl (S.2 4))), (gm 5, .inl (K 0, 3600, .inl (S.2 5)))]
def mW (K : Nat → ClassId) (m0 : Nat) (gm : Nat → Nat) (h1 : Nat) (g1 : Nat → Nat) (h2 : Nat) (g2 : Nat → Nat) (M : MS) : va_W := oW K m0 gm h1 h2 M.1 ++ (hW K h1 g1 M.2.1 ++ hW K h2 g2 M.2.2)
theorem mI_o_6 (K : Nat → ClassId) (m0 : Nat) (gm : Nat → Nat) (h1 : Nat) (g1 : Nat → Nat) (h2 : Nat) (g2 : Nat → Nat) (M : MS) (v : Int32) : (mW K m0 gm h1 g1 h2 g2 M).set 0 (m0, .inr (9, [.ref h1, .ref h2, .ref (gm 2), .ref (gm 3), .ref (gm 4), .ref (gm 5), .int v])) = mW K m0 gm h1 g1 h2 g2 (mO M (sI M.1 6 v)) := rfl
theorem mA_o_2 (K : Nat → ClassId) (m0 : Nat) (gm : Nat → Nat) (h1 : Nat) (g1 : Nat → Nat) (h2 : Nat) (g2 : Nat → Nat) (M : MS) (i : Nat) (v : Int32) : (mW K m0 gm h1 g1 h2 g2 M).set 1 (gm 2, .inl (K 0, 2, .inl (upd (M.1.2 2) i v))) = mW K m0 gm h1 g1 h2 g2 (mO M (sA M.1 2 i v)) := rfl
theorem mA_o_3 (K : Nat → ClassId) (m0 : Nat) (gm : Nat → Nat) (h1 : Nat) (g1 : Nat → Nat) (h2 : Nat) (g2 : Nat → Nat) (M : MS) (i : Nat) (v : Int32) : (mW K m0 gm h1 g1 h2 g2 M).set 2 (gm 3, .inl (K 0, 2, .inl (upd (M.1.2 3) i v))) = mW K m0 gm h1 g1 h2 g2 (mO M (sA M.1 3 i v)) := rfl
theorem mA_o_4 (K : Nat → ClassId) (m0 : Nat) (gm : Nat → Nat) (h1 : Nat) (g1 : Nat → Nat) (h2 : Nat) (g2 : Nat → Nat) (M : MS) (i : Nat) (v : Int32) : (mW K m0 gm h1 g1 h2 g2 M).set 3 (gm 4, .inl (K 0, 7200, .inl (upd (M.1.2 4) i v))) = mW K m0 gm h1 g1 h2 g2 (mO M (sA M.1 4 i v)) := rfl
theorem mA_o_5 (K : Nat → ClassId) (m0 : Nat) (gm : Nat → Nat) (h1 : Nat) (g1 : Nat → Nat) (h2 : Nat) (g2 : Nat → Nat) (M : MS) (i : Nat) (v : Int32) : (mW K m0 gm h1 g1 h2 g2 M).set 4 (gm 5, .inl (K 0, 3600, .inl (upd (M.1.2 5) i v))) = mW K m0 gm h1 g1 h2 g2 (mO M (sA M.1 5 i v)) := rfl
theorem mI_h_10 (K : Nat → ClassId) (m0 : Nat) (gm : Nat → Nat) (h1 : Nat) (g1 : Nat → Nat) (h2 : Nat) (g2 : Nat → Nat) (M : MS) (v : Int32) : (mW K m0 gm h1 g1 h2 g2 M).set 5 (h1, .inr (8, (hF g1 M.2.1).set 10 (.int v))) = mW K m0 gm h1 g1 h2 g2 (mH M (sI M.2.1 10 v)) := rfl
theorem mI_s_10 (K : Nat → ClassId) (m0 : Nat) (gm : Nat → Nat) (h1 : Nat) (g1 : Nat → Nat) (h2 : Nat) (g2 : Nat → Nat) (M : MS) (v : Int32) : (mW K m0 gm h1 g1 h2 g2 M).set 33 (h2, .inr (8, (hF g2 M.2.2).set 10 (.int v))) = mW K m0 gm h1 g1 h2 g2 (mS M (sI M.2.2 10 v)) := rfl
/-- parts of a world that is laid end to end -/
theorem pL {G : va_G} {a b : va_W} {H : Heap} (h : va_P G vwCl (a ++ b) H) : va_P G vwCl a H := fun k q hk => h k q (by rw [List.getElem?_append_left (List.getElem?_eq_some_iff.mp hk).1]; exact hk)
theorem pR {G : va_G} {a b : va_W} {H : Heap} (h : va_P G vwCl (a ++ b) H) : va_P G vwCl b H := fun k q hk => h (a.length + k) q (by rw [List.getElem?_append_right (Nat.le_add_right _ _), Nat.add_sub_cancel_left]; exact hk)
theorem dL {A : Nat → Prop} {a b : va_W} (h : va_D A (a ++ b)) : va_D A a := by
  have key : ∀ (k : Nat) (q : Nat × va_E), a[k]? = some q → (a ++ b)[k]? = some q := fun k q hk => by
    rw [List.getElem?_append_left (List.getElem?_eq_some_iff.mp hk).1]; exact hk
  exact ⟨fun i j p q hi hj e => h.1 i j p q (key i p hi) (key j q hj) e, fun k q hk => h.2 k q (key k q hk)⟩
theorem dR {A : Nat → Prop} {a b : va_W} (h : va_D A (a ++ b)) : va_D A b := by
  have key : ∀ (k : Nat) (q : Nat × va_E), b[k]? = some q → (a ++ b)[a.length + k]? = some q := fun k q hk => by
    rw [List.getElem?_append_right (Nat.le_add_right _ _), Nat.add_sub_cancel_left]; exact hk
  exact ⟨fun i j p q hi hj e => Nat.add_left_cancel (h.1 _ _ p q (key i p hi) (key j q hj) e), fun k q hk => h.2 _ q (key k q hk)⟩
theorem fr3 {G : va_G} {A0 : Nat → Prop} {wa wc wb w1 : va_W} {H H1 : Heap} (hP : va_P G vwCl (wa ++ (wc ++ wb)) H) (hD : va_D A0 (wa ++ (wc ++ wb)))
    (hk : ∀ q : Nat, q < H.size → ¬ va_A wc H.size q → H1[q]? = H[q]?) (hF : ∀ q, va_A wc H.size q → A0 q) (hP1 : va_P G vwCl w1 H1) (hD1 : va_D (va_A wc H.size) w1) : va_P G vwCl (wa ++ (w1 ++ wb)) H1 ∧ va_D A0 (wa ++ (w1 ++ wb)) := by
  have inC : ∀ (k : Nat) (q : Nat × va_E), wc[k]? = some q → (wa ++ (wc ++ wb))[wa.length + k]? = some q := fun k q h => by
    rw [List.getElem?_append_right (Nat.le_add_right _ _), Nat.add_sub_cancel_left, List.getElem?_append_left (List.getElem?_eq_some_iff.mp h).1]; exact h
  have inA : ∀ (k : Nat) (q : Nat × va_E), wa[k]? = some q → (wa ++ (wc ++ wb))[k]? = some q := fun k q h => by
    rw [List.getElem?_append_left (List.getElem?_eq_some_iff.mp h).1]; exact h
  have inB : ∀ (k : Nat) (q : Nat × va_E), wb[k]? = some q → (wa ++ (wc ++ wb))[wa.length + (wc.length + k)]? = some q := fun k q h => by
    rw [List.getElem?_append_right (Nat.le_add_right _ _), Nat.add_sub_cancel_left, List.getElem?_append_right (Nat.le_add_right _ _), Nat.add_sub_cancel_left]; exact h
  have oA : ∀ (k : Nat) (q : Nat × va_E), wa[k]? = some q → q.1 < H.size ∧ ¬ va_A wc H.size q.1 := by
    intro k q h
    have hl := (hP _ q (inA k q h)).lt
    refine ⟨hl, fun hq => ?_⟩
    rcases hq with ⟨j, e', h2⟩ | h2
    · have := hD.1 _ _ q (q.1, e') (inA k q h) (inC j _ h2) rfl
      have hkl := (List.getElem?_eq_some_iff.mp h).1
      omega
    · omega
  have oB : ∀ (k : Nat) (q : Nat × va_E), wb[k]? = some q → q.1 < H.size ∧ ¬ va_A wc H.size q.1 := by
    intro k q h
    have hl := (hP _ q (inB k q h)).lt
    refine ⟨hl, fun hq => ?_⟩
    rcases hq with ⟨j, e', h2⟩ | h2
    · have := hD.1 _ _ q (q.1, e') (inB k q h) (inC j _ h2) rfl
      have hjl := (List.getElem?_eq_some_iff.mp h2).1
      omega
    · omega
  refine ⟨(((pL hP).kept (fun k q h => hk q.1 (oA k q h).1 (oA k q h).2)).app (hP1.app ((pR (pR hP)).kept (fun k q h => hk q.1 (oB k q h).1 (oB k q h).2)))), ?_⟩
  refine (dL hD).app ((hD1.weaken (fun k q _ h => hF q.1 h)).app (dR (dR hD)) (fun i j x y hx hy e' => (oB j y hy).2 (e' ▸ hD1.2 i x hx))) (fun i j x y hx hy e' => ?_)
  by_cases hj : j < w1.length
  · rw [List.getElem?_append_left hj] at hy
    exact (oA i x hx).2 (e'.symm ▸ hD1.2 j y hy)
  · rw [List.getElem?_append_right (Nat.not_lt.mp hj)] at hy
    have := hD.1 _ _ x y (inA i x hx) (inB _ y hy) e'
    have hil := (List.getElem?_eq_some_iff.mp hx).1
    omega
section W4
variable {p : Program} {l : Launch} {e : Env} {R : Room} {s : State} {m : MethodId} {args : Array Value} {below : List Frame} {meth : Method} {c : Code} {H : Heap} {locs : List Loc} {cells slots : Nat} {Q : State → Prop}
variable {pc : Nat} {ls : Array Slot} {rest st0 : List Value} {a : Array Value} {A0 : Nat → Prop} {mc ms : Nat} {G : va_G} {K : Nat → ClassId} {m0 h1 h2 : Nat} {gm g1 g2 : Nat → Nat} {M : MS}
def mSt (G : va_G) (K : Nat → ClassId) (m0 : Nat) (gm : Nat → Nat) (h1 : Nat) (g1 : Nat → Nat) (h2 : Nat) (g2 : Nat → Nat) (sz : Nat) (M : MS) (P : Prop) (U : State) : Prop := wS G K sz (mW K m0 gm h1 g1 h2 g2 M) U ∧ P
def mB (G : va_G) (K : Nat → ClassId) (m0 : Nat) (gm : Nat → Nat) (h1 : Nat) (g1 : Nat → Nat) (h2 : Nat) (g2 : Nat → Nat) (A : Nat → Prop) (u : MS) (t : State) : Prop := wB G A (mW K m0 gm h1 g1 h2 g2 u) t
theorem mP_h (hP : va_P G vwCl (mW K m0 gm h1 g1 h2 g2 M) H) : va_P G vwCl (hW K h1 g1 M.2.1) H := pL (pR hP)
theorem mP_s (hP : va_P G vwCl (mW K m0 gm h1 g1 h2 g2 M) H) : va_P G vwCl (hW K h2 g2 M.2.2) H := pR (pR hP)
theorem mD_h (hD : va_D A0 (mW K m0 gm h1 g1 h2 g2 M)) : va_D A0 (hW K h1 g1 M.2.1) := dL (dR hD)
theorem mD_s (hD : va_D A0 (mW K m0 gm h1 g1 h2 g2 M)) : va_D A0 (hW K h2 g2 M.2.2) := dR (dR hD)
theorem mFr_h {u : HS} {H1 : Heap} (hP : va_P G vwCl (mW K m0 gm h1 g1 h2 g2 M) H) (hD : va_D A0 (mW K m0 gm h1 g1 h2 g2 M)) (hk : ∀ q : Nat, q < H.size → ¬ va_A (hW K h1 g1 M.2.1) H.size q → H1[q]? = H[q]?) (hF : ∀ q, va_A (hW K h1 g1 M.2.1) H.size q → A0 q) (hP1 : va_P G vwCl (hW K h1 g1 u) H1) (hD1 : va_D (va_A (hW K h1 g1 M.2.1) H.size) (hW K h1 g1 u)) : va_P G vwCl (mW K m0 gm h1 g1 h2 g2 (mH M u)) H1 ∧ va_D A0 (mW K m0 gm h1 g1 h2 g2 (mH M u)) :=
  fr3 (wa := oW K m0 gm h1 h2 M.1) (wb := hW K h2 g2 M.2.2) hP hD hk hF hP1 hD1
theorem mFr_s {u : HS} {H1 : Heap} (hP : va_P G vwCl (mW K m0 gm h1 g1 h2 g2 M) H) (hD : va_D A0 (mW K m0 gm h1 g1 h2 g2 M)) (hk : ∀ q : Nat, q < H.size → ¬ va_A (hW K h2 g2 M.2.2) H.size q → H1[q]? = H[q]?) (hF : ∀ q, va_A (hW K h2 g2 M.2.2) H.size q → A0 q) (hP1 : va_P G vwCl (hW K h2 g2 u) H1) (hD1 : va_D (va_A (hW K h2 g2 M.2.2) H.size) (hW K h2 g2 u)) : va_P G vwCl (mW K m0 gm h1 g1 h2 g2 (mS M u)) H1 ∧ va_D A0 (mW K m0 gm h1 g1 h2 g2 (mS M u)) := by
  have e1 : ∀ v : HS, mW K m0 gm h1 g1 h2 g2 (mS M v) = (oW K m0 gm h1 h2 M.1 ++ hW K h1 g1 M.2.1) ++ (hW K h2 g2 v ++ []) := fun v => by
    rw [List.append_nil, List.append_assoc]; rfl
  have e2 : mW K m0 gm h1 g1 h2 g2 M = (oW K m0 gm h1 h2 M.1 ++ hW K h1 g1 M.2.1) ++ (hW K h2 g2 M.2.2 ++ []) := e1 M.2.2
  rw [e2] at hP hD
  rw [e1 u]
  exact fr3 hP hD hk hF hP1 hD1
theorem mGoi_h {post : Int32 → HS → Prop} (hr : va_Run p l e R s m args below meth c H locs cells slots mc ms (F0 m pc ls st0) rest (va_Qi post (hB G K h1 g1 (va_A (hW K h1 g1 M.2.1) H.size)) (va_A (hW K h1 g1 M.2.1) H.size) a) (va_A (hW K h1 g1 M.2.1) H.size)) (hP : va_P G vwCl (mW K m0 gm h1 g1 h2 g2 M) H) (hD : va_D A0 (mW K m0 gm h1 g1 h2 g2 M)) (hS : va_S A0 s.heap H locs) (hA : ∀ q, s.heap.size ≤ q → A0 q)
    (kk : ∀ (r : Int32) (u : HS) (H1 : Heap) (locs1 : List Loc), post r u → va_P G vwCl (mW K m0 gm h1 g1 h2 g2 (mH M u)) H1 → va_D A0 (mW K m0 gm h1 g1 h2 g2 (mH M u)) → va_S A0 s.heap H1 locs1 → W p l e R s m args below meth c H1 locs1 (cells + mc) (slots + ms) Q (F0 m (pc + 3) ls (.int r :: rest))) : W p l e R s m args below meth c H locs cells slots Q (F0 m pc ls st0) := by
  have hF : ∀ q, va_A (hW K h1 g1 M.2.1) H.size q → A0 q := fun q hq => by
    rcases hq with ⟨k, e', h1⟩ | h1
    · exact (mD_h hD).2 k (q, e') h1
    · exact hA q (Nat.le_trans hS.1 h1)
  refine va_calli hr hS (fun q _ h => hF q h) hF (fun r u t H1 locs1 ht _ hw hB' _ hk hS1 => ?_)
  obtain ⟨hP1, hD1⟩ := hB'
  rw [ht] at hP1
  obtain ⟨x1, x2⟩ := mFr_h hP hD hk hF hP1 hD1
  exact kk r u H1 locs1 hw x1 x2 hS1
theorem mGoi_s {post : Int32 → HS → Prop} (hr : va_Run p l e R s m args below meth c H locs cells slots mc ms (F0 m pc ls st0) rest (va_Qi post (hB G K h2 g2 (va_A (hW K h2 g2 M.2.2) H.size)) (va_A (hW K h2 g2 M.2.2) H.size) a) (va_A (hW K h2 g2 M.2.2) H.size)) (hP : va_P G vwCl (mW K m0 gm h1 g1 h2 g2 M) H) (hD : va_D A0 (mW K m0 gm h1 g1 h2 g2 M)) (hS : va_S A0 s.heap H locs) (hA : ∀ q, s.heap.size ≤ q → A0 q)
    (kk : ∀ (r : Int32) (u : HS) (H1 : Heap) (locs1 : List Loc), post r u → va_P G vwCl (mW K m0 gm h1 g1 h2 g2 (mS M u)) H1 → va_D A0 (mW K m0 gm h1 g1 h2 g2 (mS M u)) → va_S A0 s.heap H1 locs1 → W p l e R s m args below meth c H1 locs1 (cells + mc) (slots + ms) Q (F0 m (pc + 3) ls (.int r :: rest))) : W p l e R s m args below meth c H locs cells slots Q (F0 m pc ls st0) := by
  have hF : ∀ q, va_A (hW K h2 g2 M.2.2) H.size q → A0 q := fun q hq => by
    rcases hq with ⟨k, e', h1⟩ | h1
    · exact (mD_s hD).2 k (q, e') h1
    · exact hA q (Nat.le_trans hS.1 h1)
  refine va_calli hr hS (fun q _ h => hF q h) hF (fun r u t H1 locs1 ht _ hw hB' _ hk hS1 => ?_)
  obtain ⟨hP1, hD1⟩ := hB'
  rw [ht] at hP1
  obtain ⟨x1, x2⟩ := mFr_s hP hD hk hF hP1 hD1
  exact kk r u H1 locs1 hw x1 x2 hS1
theorem mGov_h {post : HS → Prop} (hr : va_Run p l e R s m args below meth c H locs cells slots mc ms (F0 m pc ls st0) rest (va_Qv post (hB G K h1 g1 (va_A (hW K h1 g1 M.2.1) H.size)) (va_A (hW K h1 g1 M.2.1) H.size) a) (va_A (hW K h1 g1 M.2.1) H.size)) (hP : va_P G vwCl (mW K m0 gm h1 g1 h2 g2 M) H) (hD : va_D A0 (mW K m0 gm h1 g1 h2 g2 M)) (hS : va_S A0 s.heap H locs) (hA : ∀ q, s.heap.size ≤ q → A0 q)
    (kk : ∀ (u : HS) (H1 : Heap) (locs1 : List Loc), post u → va_P G vwCl (mW K m0 gm h1 g1 h2 g2 (mH M u)) H1 → va_D A0 (mW K m0 gm h1 g1 h2 g2 (mH M u)) → va_S A0 s.heap H1 locs1 → W p l e R s m args below meth c H1 locs1 (cells + mc) (slots + ms) Q (F0 m (pc + 3) ls rest)) : W p l e R s m args below meth c H locs cells slots Q (F0 m pc ls st0) := by
  have hF : ∀ q, va_A (hW K h1 g1 M.2.1) H.size q → A0 q := fun q hq => by
    rcases hq with ⟨k, e', h1⟩ | h1
    · exact (mD_h hD).2 k (q, e') h1
    · exact hA q (Nat.le_trans hS.1 h1)
  refine va_callv hr hS (fun q _ h => hF q h) hF (fun u t H1 locs1 ht _ hw hB' _ hk hS1 => ?_)
  obtain ⟨hP1, hD1⟩ := hB'
  rw [ht] at hP1
  obtain ⟨x1, x2⟩ := mFr_h hP hD hk hF hP1 hD1
  exact kk u H1 locs1 hw x1 x2 hS1
theorem mGov_s {post : HS → Prop} (hr : va_Run p l e R s m args below meth c H locs cells slots mc ms (F0 m pc ls st0) rest (va_Qv post (hB G K h2 g2 (va_A (hW K h2 g2 M.2.2) H.size)) (va_A (hW K h2 g2 M.2.2) H.size) a) (va_A (hW K h2 g2 M.2.2) H.size)) (hP : va_P G vwCl (mW K m0 gm h1 g1 h2 g2 M) H) (hD : va_D A0 (mW K m0 gm h1 g1 h2 g2 M)) (hS : va_S A0 s.heap H locs) (hA : ∀ q, s.heap.size ≤ q → A0 q)
    (kk : ∀ (u : HS) (H1 : Heap) (locs1 : List Loc), post u → va_P G vwCl (mW K m0 gm h1 g1 h2 g2 (mS M u)) H1 → va_D A0 (mW K m0 gm h1 g1 h2 g2 (mS M u)) → va_S A0 s.heap H1 locs1 → W p l e R s m args below meth c H1 locs1 (cells + mc) (slots + ms) Q (F0 m (pc + 3) ls rest)) : W p l e R s m args below meth c H locs cells slots Q (F0 m pc ls st0) := by
  have hF : ∀ q, va_A (hW K h2 g2 M.2.2) H.size q → A0 q := fun q hq => by
    rcases hq with ⟨k, e', h1⟩ | h1
    · exact (mD_s hD).2 k (q, e') h1
    · exact hA q (Nat.le_trans hS.1 h1)
  refine va_callv hr hS (fun q _ h => hF q h) hF (fun u t H1 locs1 ht _ hw hB' _ hk hS1 => ?_)
  obtain ⟨hP1, hD1⟩ := hB'
  rw [ht] at hP1
  obtain ⟨x1, x2⟩ := mFr_s hP hD hk hF hP1 hD1
  exact kk u H1 locs1 hw x1 x2 hS1
end W4
