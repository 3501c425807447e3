/-! ===== the class's cells: how many, how many slots, and each by its place: kind, length, numbers, references ===== -/
abbrev Cel : Type := Nat × Nat × (Nat → Int32) × (Nat → Option Nat)
abbrev Cst : Type := Nat × Nat × (Nat → Cel)
def kdC (S : Cst) (q : Nat) : Nat := (S.2.2 q).1
def lnC (S : Cst) (q : Nat) : Nat := (S.2.2 q).2.1
def giC (S : Cst) (q k : Nat) : Int32 := (S.2.2 q).2.2.1 k
def grC (S : Cst) (q k : Nat) : Option Nat := (S.2.2 q).2.2.2 k
/-- a cell in another one's place -/
def scC (S : Cst) (q : Nat) (c : Cel) : Cst := (S.1, S.2.1, fun j => if j = q then c else S.2.2 j)
/-- a number, a reference, a whole row of numbers set -/
def siC (S : Cst) (q k : Nat) (v : Int32) : Cst := scC S q (kdC S q, lnC S q, upd (giC S q) k v, grC S q)
def srC (S : Cst) (q k : Nat) (r : Option Nat) : Cst := scC S q (kdC S q, lnC S q, giC S q, va_up (grC S q) k r)
def sfC (S : Cst) (q : Nat) (f : Nat → Int32) : Cst := scC S q (kdC S q, lnC S q, f, grC S q)
/-- at q stands a cell of kind c; r is one -/
def iK (S : Cst) (q c : Nat) : Prop := q < S.1 ∧ kdC S q = c
def iR (S : Cst) (r : Option Nat) (c : Nat) : Prop := r ≠ none ∧ iK S (r.getD 0) c
/-- the cells of S stand in T, of the same kind and length; as many / at least as many -/
def eK (S T : Cst) : Prop := (S.1 = T.1 ∧ S.2.1 = T.2.1) ∧ ∀ q, q < S.1 → kdC T q = kdC S q ∧ lnC T q = lnC S q
def eN (S T : Cst) : Prop := (S.1 ≤ T.1 ∧ S.2.1 ≤ T.2.1) ∧ ∀ q, q < S.1 → kdC T q = kdC S q ∧ lnC T q = lnC S q
theorem eK.rf (S : Cst) : eK S S := ⟨⟨rfl, rfl⟩, fun _ _ => ⟨rfl, rfl⟩⟩
theorem eK.tr {S T U : Cst} (h : eK S T) (g : eK T U) : eK S U := ⟨⟨h.1.1.trans g.1.1, h.1.2.trans g.1.2⟩, fun q a => ⟨(g.2 q (by rw [← h.1.1]; exact a)).1.trans (h.2 q a).1, (g.2 q (by rw [← h.1.1]; exact a)).2.trans (h.2 q a).2⟩⟩
theorem eK.n {S T : Cst} (h : eK S T) : eN S T := ⟨⟨Nat.le_of_eq h.1.1, Nat.le_of_eq h.1.2⟩, h.2⟩
theorem eN.rf (S : Cst) : eN S S := (eK.rf S).n
theorem eN.tr {S T U : Cst} (h : eN S T) (g : eN T U) : eN S U := ⟨⟨Nat.le_trans h.1.1 g.1.1, Nat.le_trans h.1.2 g.1.2⟩, fun q a => ⟨(g.2 q (Nat.lt_of_lt_of_le a h.1.1)).1.trans (h.2 q a).1, (g.2 q (Nat.lt_of_lt_of_le a h.1.1)).2.trans (h.2 q a).2⟩⟩
theorem iK.n {S T : Cst} {q c : Nat} (h : iK S q c) (g : eN S T) : iK T q c := ⟨Nat.lt_of_lt_of_le h.1 g.1.1, (g.2 q h.1).1.trans h.2⟩
theorem iK.e {S T : Cst} {q c : Nat} (h : iK S q c) (g : eK S T) : iK T q c := h.n g.n
theorem iR.n {S T : Cst} {r : Option Nat} {c : Nat} (h : iR S r c) (g : eN S T) : iR T r c := ⟨h.1, h.2.n g⟩
theorem iR.e {S T : Cst} {r : Option Nat} {c : Nat} (h : iR S r c) (g : eK S T) : iR T r c := h.n g.n
theorem scC_at (S : Cst) (q : Nat) (c : Cel) : (scC S q c).2.2 q = c := if_pos rfl
theorem scC_ne (S : Cst) {q j : Nat} (c : Cel) (h : j ≠ q) : (scC S q c).2.2 j = S.2.2 j := if_neg h
theorem eK.sc (S : Cst) (q : Nat) (c : Cel) (h1 : c.1 = kdC S q) (h2 : c.2.1 = lnC S q) : eK S (scC S q c) := by
  refine ⟨⟨rfl, rfl⟩, fun j _ => ?_⟩
  unfold kdC lnC
  by_cases z : j = q
  · subst z
    rw [scC_at]
    exact ⟨h1, h2⟩
  · rw [scC_ne S c z]
    exact ⟨rfl, rfl⟩
theorem eK.si (S : Cst) (q k : Nat) (v : Int32) : eK S (siC S q k v) := eK.sc S q _ rfl rfl
theorem eK.sr (S : Cst) (q k : Nat) (r : Option Nat) : eK S (srC S q k r) := eK.sc S q _ rfl rfl
theorem eK.sf (S : Cst) (q : Nat) (f : Nat → Int32) : eK S (sfC S q f) := eK.sc S q _ rfl rfl
/-- a cell of a kind -/
def cKd (K : Nat → ClassId) (ad : Nat → Nat) (kind len : Nat) (f : Nat → Int32) (r : Nat → Option Nat) : va_E := match kind with
  | 0 => .inr (0, [va_re ad (r 0), va_re ad (r 1), va_re ad (r 2), va_re ad (r 3), va_re ad (r 4), va_re ad (r 5), va_re ad (r 6), .int (f 7), .int (f 8), .int (f 9), va_re ad (r 10)])
  | 1 => .inr (1, [.int (f 0), va_re ad (r 1), .int (f 2), .int (f 3), .int (f 4), .int (f 5), .int (f 6), va_re ad (r 7)])
  | 2 => .inr (2, [.int (f 0), .int (f 1), va_re ad (r 2), .int (f 3)])
  | 3 => .inr (3, [.int (f 0), .int (f 1), .int (f 2), .int (f 3), .int (f 4), .int (f 5), .int (f 6), .int (f 7), .int (f 8), .int (f 9), .int (f 10), .int (f 11), va_re ad (r 12), va_re ad (r 13), .int (f 14), va_re ad (r 15)])
  | 4 => .inr (4, [va_re ad (r 0), .int (f 1)])
  | 5 => .inr (5, [.int (f 0), va_re ad (r 1)])
  | 6 => .inr (6, [va_re ad (r 0), .int (f 1)])
  | 7 => .inr (7, [va_re ad (r 0), va_re ad (r 1), va_re ad (r 2), va_re ad (r 3), va_re ad (r 4)])
  | 20 => .inl (K 0, len, .inl f)
  | 21 => .inl (K 1, len, .inl f)
  | 22 => .inl (K 2, len, .inl f)
  | 23 => .inl (K 3, len, .inr (.inr (.inr (.inr (fun i => (r i).map ad)))))
  | 24 => .inl (K 4, len, .inr (.inr (.inr (.inr (fun i => (r i).map ad)))))
  | _ => .inl (K 0, len, .inl f)
def cKg (K : Nat → ClassId) (kind len : Nat) (f : Nat → Int32) (r : Nat → Option Nat) : va_E := match kind with
  | 0 => .inr (0, [va_rf (r 0), va_rf (r 1), va_rf (r 2), va_rf (r 3), va_rf (r 4), va_rf (r 5), va_rf (r 6), .int (f 7), .int (f 8), .int (f 9), va_rf (r 10)])
  | 1 => .inr (1, [.int (f 0), va_rf (r 1), .int (f 2), .int (f 3), .int (f 4), .int (f 5), .int (f 6), va_rf (r 7)])
  | 2 => .inr (2, [.int (f 0), .int (f 1), va_rf (r 2), .int (f 3)])
  | 3 => .inr (3, [.int (f 0), .int (f 1), .int (f 2), .int (f 3), .int (f 4), .int (f 5), .int (f 6), .int (f 7), .int (f 8), .int (f 9), .int (f 10), .int (f 11), va_rf (r 12), va_rf (r 13), .int (f 14), va_rf (r 15)])
  | 4 => .inr (4, [va_rf (r 0), .int (f 1)])
  | 5 => .inr (5, [.int (f 0), va_rf (r 1)])
  | 6 => .inr (6, [va_rf (r 0), .int (f 1)])
  | 7 => .inr (7, [va_rf (r 0), va_rf (r 1), va_rf (r 2), va_rf (r 3), va_rf (r 4)])
  | 20 => .inl (K 0, len, .inl f)
  | 21 => .inl (K 1, len, .inl f)
  | 22 => .inl (K 2, len, .inl f)
  | 23 => .inl (K 3, len, .inr (.inr (.inr (.inr r))))
  | 24 => .inl (K 4, len, .inr (.inr (.inr (.inr r))))
  | _ => .inl (K 0, len, .inl f)
theorem cKd_g (K : Nat → ClassId) (ad : Nat → Nat) (kind len : Nat) (f : Nat → Int32) (r : Nat → Option Nat) : cKd K ad kind len f r = cKg K kind len f (fun k => (r k).map ad) := by
  unfold cKd cKg
  split <;> rfl
def cCe (K : Nat → ClassId) (ad : Nat → Nat) (c : Cel) : va_E := cKd K ad c.1 c.2.1 c.2.2.1 c.2.2.2
def wsC (K : Nat → ClassId) (ad : Nat → Nat) (S : Cst) : va_W := (List.range S.1).map (fun q => (ad q, cCe K ad (S.2.2 q)))
theorem wsC_at {K : Nat → ClassId} {ad : Nat → Nat} {S : Cst} {q : Nat} (h : q < S.1) : (wsC K ad S)[q]? = some (ad q, cCe K ad (S.2.2 q)) := by
  unfold wsC
  rw [List.getElem?_map, List.getElem?_range h]
  rfl
theorem wsC_set {K : Nat → ClassId} {ad : Nat → Nat} {S : Cst} {q : Nat} (c : Cel) {e : va_E} (h : e = cCe K ad c) : (wsC K ad S).set q (ad q, e) = wsC K ad (scC S q c) := by
  subst h
  refine List.ext_getElem? (fun j => ?_)
  rw [List.getElem?_set]
  unfold wsC
  rw [List.getElem?_map, List.getElem?_map, List.length_map, List.length_range]
  by_cases z : q = j
  · subst z
    rw [if_pos rfl]
    by_cases a : q < S.1
    · rw [if_pos a, List.getElem?_range (show q < (scC S q c).1 from a)]
      show _ = some (ad q, cCe K ad ((scC S q c).2.2 q))
      rw [scC_at]
    · rw [if_neg a, List.getElem?_eq_none (by rw [List.length_range]; exact Nat.not_lt.mp a)]
      rfl
  · rw [if_neg z]
    by_cases a : j < S.1
    · rw [List.getElem?_range a, List.getElem?_range (show j < (scC S q c).1 from a)]
      show some (ad j, _) = some (ad j, cCe K ad ((scC S q c).2.2 j))
      rw [scC_ne S c (fun w => z w.symm)]
    · rw [List.getElem?_eq_none (by rw [List.length_range]; exact Nat.not_lt.mp a), List.getElem?_eq_none (by rw [List.length_range]; exact Nat.not_lt.mp a)]
      rfl
theorem at_0 {K : Nat → ClassId} {ad : Nat → Nat} {S : Cst} {q : Nat} (h : iK S q 0) : (wsC K ad S)[q]? = some (ad q, .inr (0, [va_re ad (grC S q 0), va_re ad (grC S q 1), va_re ad (grC S q 2), va_re ad (grC S q 3), va_re ad (grC S q 4), va_re ad (grC S q 5), va_re ad (grC S q 6), .int (giC S q 7), .int (giC S q 8), .int (giC S q 9), va_re ad (grC S q 10)])) := by
  rw [wsC_at h.1]
  unfold cCe
  have e := h.2
  unfold kdC at e
  rw [e]
  rfl
theorem at_1 {K : Nat → ClassId} {ad : Nat → Nat} {S : Cst} {q : Nat} (h : iK S q 1) : (wsC K ad S)[q]? = some (ad q, .inr (1, [.int (giC S q 0), va_re ad (grC S q 1), .int (giC S q 2), .int (giC S q 3), .int (giC S q 4), .int (giC S q 5), .int (giC S q 6), va_re ad (grC S q 7)])) := by
  rw [wsC_at h.1]
  unfold cCe
  have e := h.2
  unfold kdC at e
  rw [e]
  rfl
theorem at_2 {K : Nat → ClassId} {ad : Nat → Nat} {S : Cst} {q : Nat} (h : iK S q 2) : (wsC K ad S)[q]? = some (ad q, .inr (2, [.int (giC S q 0), .int (giC S q 1), va_re ad (grC S q 2), .int (giC S q 3)])) := by
  rw [wsC_at h.1]
  unfold cCe
  have e := h.2
  unfold kdC at e
  rw [e]
  rfl
theorem at_3 {K : Nat → ClassId} {ad : Nat → Nat} {S : Cst} {q : Nat} (h : iK S q 3) : (wsC K ad S)[q]? = some (ad q, .inr (3, [.int (giC S q 0), .int (giC S q 1), .int (giC S q 2), .int (giC S q 3), .int (giC S q 4), .int (giC S q 5), .int (giC S q 6), .int (giC S q 7), .int (giC S q 8), .int (giC S q 9), .int (giC S q 10), .int (giC S q 11), va_re ad (grC S q 12), va_re ad (grC S q 13), .int (giC S q 14), va_re ad (grC S q 15)])) := by
  rw [wsC_at h.1]
  unfold cCe
  have e := h.2
  unfold kdC at e
  rw [e]
  rfl
theorem at_4 {K : Nat → ClassId} {ad : Nat → Nat} {S : Cst} {q : Nat} (h : iK S q 4) : (wsC K ad S)[q]? = some (ad q, .inr (4, [va_re ad (grC S q 0), .int (giC S q 1)])) := by
  rw [wsC_at h.1]
  unfold cCe
  have e := h.2
  unfold kdC at e
  rw [e]
  rfl
theorem at_5 {K : Nat → ClassId} {ad : Nat → Nat} {S : Cst} {q : Nat} (h : iK S q 5) : (wsC K ad S)[q]? = some (ad q, .inr (5, [.int (giC S q 0), va_re ad (grC S q 1)])) := by
  rw [wsC_at h.1]
  unfold cCe
  have e := h.2
  unfold kdC at e
  rw [e]
  rfl
theorem at_6 {K : Nat → ClassId} {ad : Nat → Nat} {S : Cst} {q : Nat} (h : iK S q 6) : (wsC K ad S)[q]? = some (ad q, .inr (6, [va_re ad (grC S q 0), .int (giC S q 1)])) := by
  rw [wsC_at h.1]
  unfold cCe
  have e := h.2
  unfold kdC at e
  rw [e]
  rfl
theorem at_7 {K : Nat → ClassId} {ad : Nat → Nat} {S : Cst} {q : Nat} (h : iK S q 7) : (wsC K ad S)[q]? = some (ad q, .inr (7, [va_re ad (grC S q 0), va_re ad (grC S q 1), va_re ad (grC S q 2), va_re ad (grC S q 3), va_re ad (grC S q 4)])) := by
  rw [wsC_at h.1]
  unfold cCe
  have e := h.2
  unfold kdC at e
  rw [e]
  rfl
theorem at_20 {K : Nat → ClassId} {ad : Nat → Nat} {S : Cst} {q : Nat} (h : iK S q 20) : (wsC K ad S)[q]? = some (ad q, .inl (K 0, lnC S q, .inl (giC S q))) := by
  rw [wsC_at h.1]
  unfold cCe
  have e := h.2
  unfold kdC at e
  rw [e]
  rfl
theorem at_21 {K : Nat → ClassId} {ad : Nat → Nat} {S : Cst} {q : Nat} (h : iK S q 21) : (wsC K ad S)[q]? = some (ad q, .inl (K 1, lnC S q, .inl (giC S q))) := by
  rw [wsC_at h.1]
  unfold cCe
  have e := h.2
  unfold kdC at e
  rw [e]
  rfl
theorem at_22 {K : Nat → ClassId} {ad : Nat → Nat} {S : Cst} {q : Nat} (h : iK S q 22) : (wsC K ad S)[q]? = some (ad q, .inl (K 2, lnC S q, .inl (giC S q))) := by
  rw [wsC_at h.1]
  unfold cCe
  have e := h.2
  unfold kdC at e
  rw [e]
  rfl
theorem at_23 {K : Nat → ClassId} {ad : Nat → Nat} {S : Cst} {q : Nat} (h : iK S q 23) : (wsC K ad S)[q]? = some (ad q, .inl (K 3, lnC S q, .inr (.inr (.inr (.inr (fun i => (grC S q i).map ad)))))) := by
  rw [wsC_at h.1]
  unfold cCe
  have e := h.2
  unfold kdC at e
  rw [e]
  rfl
theorem at_24 {K : Nat → ClassId} {ad : Nat → Nat} {S : Cst} {q : Nat} (h : iK S q 24) : (wsC K ad S)[q]? = some (ad q, .inl (K 4, lnC S q, .inr (.inr (.inr (.inr (fun i => (grC S q i).map ad)))))) := by
  rw [wsC_at h.1]
  unfold cCe
  have e := h.2
  unfold kdC at e
  rw [e]
  rfl
theorem st_0_7 {K : Nat → ClassId} {ad : Nat → Nat} {S : Cst} {q : Nat} (h : iK S q 0) (v : Int32) : (wsC K ad S).set q (ad q, .inr (0, [va_re ad (grC S q 0), va_re ad (grC S q 1), va_re ad (grC S q 2), va_re ad (grC S q 3), va_re ad (grC S q 4), va_re ad (grC S q 5), va_re ad (grC S q 6), .int (giC S q 7), .int (giC S q 8), .int (giC S q 9), va_re ad (grC S q 10)].set 7 (.int v))) = wsC K ad (siC S q 7 v) := by
  refine wsC_set _ ?_
  unfold cCe
  dsimp only
  rw [h.2]
  rfl
theorem st_0_8 {K : Nat → ClassId} {ad : Nat → Nat} {S : Cst} {q : Nat} (h : iK S q 0) (v : Int32) : (wsC K ad S).set q (ad q, .inr (0, [va_re ad (grC S q 0), va_re ad (grC S q 1), va_re ad (grC S q 2), va_re ad (grC S q 3), va_re ad (grC S q 4), va_re ad (grC S q 5), va_re ad (grC S q 6), .int (giC S q 7), .int (giC S q 8), .int (giC S q 9), va_re ad (grC S q 10)].set 8 (.int v))) = wsC K ad (siC S q 8 v) := by
  refine wsC_set _ ?_
  unfold cCe
  dsimp only
  rw [h.2]
  rfl
theorem st_0_9 {K : Nat → ClassId} {ad : Nat → Nat} {S : Cst} {q : Nat} (h : iK S q 0) (v : Int32) : (wsC K ad S).set q (ad q, .inr (0, [va_re ad (grC S q 0), va_re ad (grC S q 1), va_re ad (grC S q 2), va_re ad (grC S q 3), va_re ad (grC S q 4), va_re ad (grC S q 5), va_re ad (grC S q 6), .int (giC S q 7), .int (giC S q 8), .int (giC S q 9), va_re ad (grC S q 10)].set 9 (.int v))) = wsC K ad (siC S q 9 v) := by
  refine wsC_set _ ?_
  unfold cCe
  dsimp only
  rw [h.2]
  rfl
theorem st_0_10 {K : Nat → ClassId} {ad : Nat → Nat} {S : Cst} {q : Nat} (h : iK S q 0) (r : Option Nat) : (wsC K ad S).set q (ad q, .inr (0, [va_re ad (grC S q 0), va_re ad (grC S q 1), va_re ad (grC S q 2), va_re ad (grC S q 3), va_re ad (grC S q 4), va_re ad (grC S q 5), va_re ad (grC S q 6), .int (giC S q 7), .int (giC S q 8), .int (giC S q 9), va_re ad (grC S q 10)].set 10 (va_re ad r))) = wsC K ad (srC S q 10 r) := by
  refine wsC_set _ ?_
  unfold cCe
  dsimp only
  rw [h.2]
  rfl
theorem st_1_0 {K : Nat → ClassId} {ad : Nat → Nat} {S : Cst} {q : Nat} (h : iK S q 1) (v : Int32) : (wsC K ad S).set q (ad q, .inr (1, [.int (giC S q 0), va_re ad (grC S q 1), .int (giC S q 2), .int (giC S q 3), .int (giC S q 4), .int (giC S q 5), .int (giC S q 6), va_re ad (grC S q 7)].set 0 (.int v))) = wsC K ad (siC S q 0 v) := by
  refine wsC_set _ ?_
  unfold cCe
  dsimp only
  rw [h.2]
  rfl
theorem st_1_2 {K : Nat → ClassId} {ad : Nat → Nat} {S : Cst} {q : Nat} (h : iK S q 1) (v : Int32) : (wsC K ad S).set q (ad q, .inr (1, [.int (giC S q 0), va_re ad (grC S q 1), .int (giC S q 2), .int (giC S q 3), .int (giC S q 4), .int (giC S q 5), .int (giC S q 6), va_re ad (grC S q 7)].set 2 (.int v))) = wsC K ad (siC S q 2 v) := by
  refine wsC_set _ ?_
  unfold cCe
  dsimp only
  rw [h.2]
  rfl
theorem st_1_3 {K : Nat → ClassId} {ad : Nat → Nat} {S : Cst} {q : Nat} (h : iK S q 1) (v : Int32) : (wsC K ad S).set q (ad q, .inr (1, [.int (giC S q 0), va_re ad (grC S q 1), .int (giC S q 2), .int (giC S q 3), .int (giC S q 4), .int (giC S q 5), .int (giC S q 6), va_re ad (grC S q 7)].set 3 (.int v))) = wsC K ad (siC S q 3 v) := by
  refine wsC_set _ ?_
  unfold cCe
  dsimp only
  rw [h.2]
  rfl
theorem st_1_4 {K : Nat → ClassId} {ad : Nat → Nat} {S : Cst} {q : Nat} (h : iK S q 1) (v : Int32) : (wsC K ad S).set q (ad q, .inr (1, [.int (giC S q 0), va_re ad (grC S q 1), .int (giC S q 2), .int (giC S q 3), .int (giC S q 4), .int (giC S q 5), .int (giC S q 6), va_re ad (grC S q 7)].set 4 (.int v))) = wsC K ad (siC S q 4 v) := by
  refine wsC_set _ ?_
  unfold cCe
  dsimp only
  rw [h.2]
  rfl
theorem st_1_5 {K : Nat → ClassId} {ad : Nat → Nat} {S : Cst} {q : Nat} (h : iK S q 1) (v : Int32) : (wsC K ad S).set q (ad q, .inr (1, [.int (giC S q 0), va_re ad (grC S q 1), .int (giC S q 2), .int (giC S q 3), .int (giC S q 4), .int (giC S q 5), .int (giC S q 6), va_re ad (grC S q 7)].set 5 (.int v))) = wsC K ad (siC S q 5 v) := by
  refine wsC_set _ ?_
  unfold cCe
  dsimp only
  rw [h.2]
  rfl
theorem st_1_6 {K : Nat → ClassId} {ad : Nat → Nat} {S : Cst} {q : Nat} (h : iK S q 1) (v : Int32) : (wsC K ad S).set q (ad q, .inr (1, [.int (giC S q 0), va_re ad (grC S q 1), .int (giC S q 2), .int (giC S q 3), .int (giC S q 4), .int (giC S q 5), .int (giC S q 6), va_re ad (grC S q 7)].set 6 (.int v))) = wsC K ad (siC S q 6 v) := by
  refine wsC_set _ ?_
  unfold cCe
  dsimp only
  rw [h.2]
  rfl
theorem st_2_0 {K : Nat → ClassId} {ad : Nat → Nat} {S : Cst} {q : Nat} (h : iK S q 2) (v : Int32) : (wsC K ad S).set q (ad q, .inr (2, [.int (giC S q 0), .int (giC S q 1), va_re ad (grC S q 2), .int (giC S q 3)].set 0 (.int v))) = wsC K ad (siC S q 0 v) := by
  refine wsC_set _ ?_
  unfold cCe
  dsimp only
  rw [h.2]
  rfl
theorem st_2_1 {K : Nat → ClassId} {ad : Nat → Nat} {S : Cst} {q : Nat} (h : iK S q 2) (v : Int32) : (wsC K ad S).set q (ad q, .inr (2, [.int (giC S q 0), .int (giC S q 1), va_re ad (grC S q 2), .int (giC S q 3)].set 1 (.int v))) = wsC K ad (siC S q 1 v) := by
  refine wsC_set _ ?_
  unfold cCe
  dsimp only
  rw [h.2]
  rfl
theorem st_2_2 {K : Nat → ClassId} {ad : Nat → Nat} {S : Cst} {q : Nat} (h : iK S q 2) (r : Option Nat) : (wsC K ad S).set q (ad q, .inr (2, [.int (giC S q 0), .int (giC S q 1), va_re ad (grC S q 2), .int (giC S q 3)].set 2 (va_re ad r))) = wsC K ad (srC S q 2 r) := by
  refine wsC_set _ ?_
  unfold cCe
  dsimp only
  rw [h.2]
  rfl
theorem st_2_3 {K : Nat → ClassId} {ad : Nat → Nat} {S : Cst} {q : Nat} (h : iK S q 2) (v : Int32) : (wsC K ad S).set q (ad q, .inr (2, [.int (giC S q 0), .int (giC S q 1), va_re ad (grC S q 2), .int (giC S q 3)].set 3 (.int v))) = wsC K ad (siC S q 3 v) := by
  refine wsC_set _ ?_
  unfold cCe
  dsimp only
  rw [h.2]
  rfl
theorem st_3_0 {K : Nat → ClassId} {ad : Nat → Nat} {S : Cst} {q : Nat} (h : iK S q 3) (v : Int32) : (wsC K ad S).set q (ad q, .inr (3, [.int (giC S q 0), .int (giC S q 1), .int (giC S q 2), .int (giC S q 3), .int (giC S q 4), .int (giC S q 5), .int (giC S q 6), .int (giC S q 7), .int (giC S q 8), .int (giC S q 9), .int (giC S q 10), .int (giC S q 11), va_re ad (grC S q 12), va_re ad (grC S q 13), .int (giC S q 14), va_re ad (grC S q 15)].set 0 (.int v))) = wsC K ad (siC S q 0 v) := by
  refine wsC_set _ ?_
  unfold cCe
  dsimp only
  rw [h.2]
  rfl
theorem st_3_1 {K : Nat → ClassId} {ad : Nat → Nat} {S : Cst} {q : Nat} (h : iK S q 3) (v : Int32) : (wsC K ad S).set q (ad q, .inr (3, [.int (giC S q 0), .int (giC S q 1), .int (giC S q 2), .int (giC S q 3), .int (giC S q 4), .int (giC S q 5), .int (giC S q 6), .int (giC S q 7), .int (giC S q 8), .int (giC S q 9), .int (giC S q 10), .int (giC S q 11), va_re ad (grC S q 12), va_re ad (grC S q 13), .int (giC S q 14), va_re ad (grC S q 15)].set 1 (.int v))) = wsC K ad (siC S q 1 v) := by
  refine wsC_set _ ?_
  unfold cCe
  dsimp only
  rw [h.2]
  rfl
theorem st_3_2 {K : Nat → ClassId} {ad : Nat → Nat} {S : Cst} {q : Nat} (h : iK S q 3) (v : Int32) : (wsC K ad S).set q (ad q, .inr (3, [.int (giC S q 0), .int (giC S q 1), .int (giC S q 2), .int (giC S q 3), .int (giC S q 4), .int (giC S q 5), .int (giC S q 6), .int (giC S q 7), .int (giC S q 8), .int (giC S q 9), .int (giC S q 10), .int (giC S q 11), va_re ad (grC S q 12), va_re ad (grC S q 13), .int (giC S q 14), va_re ad (grC S q 15)].set 2 (.int v))) = wsC K ad (siC S q 2 v) := by
  refine wsC_set _ ?_
  unfold cCe
  dsimp only
  rw [h.2]
  rfl
theorem st_3_3 {K : Nat → ClassId} {ad : Nat → Nat} {S : Cst} {q : Nat} (h : iK S q 3) (v : Int32) : (wsC K ad S).set q (ad q, .inr (3, [.int (giC S q 0), .int (giC S q 1), .int (giC S q 2), .int (giC S q 3), .int (giC S q 4), .int (giC S q 5), .int (giC S q 6), .int (giC S q 7), .int (giC S q 8), .int (giC S q 9), .int (giC S q 10), .int (giC S q 11), va_re ad (grC S q 12), va_re ad (grC S q 13), .int (giC S q 14), va_re ad (grC S q 15)].set 3 (.int v))) = wsC K ad (siC S q 3 v) := by
  refine wsC_set _ ?_
  unfold cCe
  dsimp only
  rw [h.2]
  rfl
theorem st_3_4 {K : Nat → ClassId} {ad : Nat → Nat} {S : Cst} {q : Nat} (h : iK S q 3) (v : Int32) : (wsC K ad S).set q (ad q, .inr (3, [.int (giC S q 0), .int (giC S q 1), .int (giC S q 2), .int (giC S q 3), .int (giC S q 4), .int (giC S q 5), .int (giC S q 6), .int (giC S q 7), .int (giC S q 8), .int (giC S q 9), .int (giC S q 10), .int (giC S q 11), va_re ad (grC S q 12), va_re ad (grC S q 13), .int (giC S q 14), va_re ad (grC S q 15)].set 4 (.int v))) = wsC K ad (siC S q 4 v) := by
  refine wsC_set _ ?_
  unfold cCe
  dsimp only
  rw [h.2]
  rfl
theorem st_3_5 {K : Nat → ClassId} {ad : Nat → Nat} {S : Cst} {q : Nat} (h : iK S q 3) (v : Int32) : (wsC K ad S).set q (ad q, .inr (3, [.int (giC S q 0), .int (giC S q 1), .int (giC S q 2), .int (giC S q 3), .int (giC S q 4), .int (giC S q 5), .int (giC S q 6), .int (giC S q 7), .int (giC S q 8), .int (giC S q 9), .int (giC S q 10), .int (giC S q 11), va_re ad (grC S q 12), va_re ad (grC S q 13), .int (giC S q 14), va_re ad (grC S q 15)].set 5 (.int v))) = wsC K ad (siC S q 5 v) := by
  refine wsC_set _ ?_
  unfold cCe
  dsimp only
  rw [h.2]
  rfl
theorem st_3_6 {K : Nat → ClassId} {ad : Nat → Nat} {S : Cst} {q : Nat} (h : iK S q 3) (v : Int32) : (wsC K ad S).set q (ad q, .inr (3, [.int (giC S q 0), .int (giC S q 1), .int (giC S q 2), .int (giC S q 3), .int (giC S q 4), .int (giC S q 5), .int (giC S q 6), .int (giC S q 7), .int (giC S q 8), .int (giC S q 9), .int (giC S q 10), .int (giC S q 11), va_re ad (grC S q 12), va_re ad (grC S q 13), .int (giC S q 14), va_re ad (grC S q 15)].set 6 (.int v))) = wsC K ad (siC S q 6 v) := by
  refine wsC_set _ ?_
  unfold cCe
  dsimp only
  rw [h.2]
  rfl
theorem st_3_7 {K : Nat → ClassId} {ad : Nat → Nat} {S : Cst} {q : Nat} (h : iK S q 3) (v : Int32) : (wsC K ad S).set q (ad q, .inr (3, [.int (giC S q 0), .int (giC S q 1), .int (giC S q 2), .int (giC S q 3), .int (giC S q 4), .int (giC S q 5), .int (giC S q 6), .int (giC S q 7), .int (giC S q 8), .int (giC S q 9), .int (giC S q 10), .int (giC S q 11), va_re ad (grC S q 12), va_re ad (grC S q 13), .int (giC S q 14), va_re ad (grC S q 15)].set 7 (.int v))) = wsC K ad (siC S q 7 v) := by
  refine wsC_set _ ?_
  unfold cCe
  dsimp only
  rw [h.2]
  rfl
theorem st_3_8 {K : Nat → ClassId} {ad : Nat → Nat} {S : Cst} {q : Nat} (h : iK S q 3) (v : Int32) : (wsC K ad S).set q (ad q, .inr (3, [.int (giC S q 0), .int (giC S q 1), .int (giC S q 2), .int (giC S q 3), .int (giC S q 4), .int (giC S q 5), .int (giC S q 6), .int (giC S q 7), .int (giC S q 8), .int (giC S q 9), .int (giC S q 10), .int (giC S q 11), va_re ad (grC S q 12), va_re ad (grC S q 13), .int (giC S q 14), va_re ad (grC S q 15)].set 8 (.int v))) = wsC K ad (siC S q 8 v) := by
  refine wsC_set _ ?_
  unfold cCe
  dsimp only
  rw [h.2]
  rfl
theorem st_3_9 {K : Nat → ClassId} {ad : Nat → Nat} {S : Cst} {q : Nat} (h : iK S q 3) (v : Int32) : (wsC K ad S).set q (ad q, .inr (3, [.int (giC S q 0), .int (giC S q 1), .int (giC S q 2), .int (giC S q 3), .int (giC S q 4), .int (giC S q 5), .int (giC S q 6), .int (giC S q 7), .int (giC S q 8), .int (giC S q 9), .int (giC S q 10), .int (giC S q 11), va_re ad (grC S q 12), va_re ad (grC S q 13), .int (giC S q 14), va_re ad (grC S q 15)].set 9 (.int v))) = wsC K ad (siC S q 9 v) := by
  refine wsC_set _ ?_
  unfold cCe
  dsimp only
  rw [h.2]
  rfl
theorem st_3_10 {K : Nat → ClassId} {ad : Nat → Nat} {S : Cst} {q : Nat} (h : iK S q 3) (v : Int32) : (wsC K ad S).set q (ad q, .inr (3, [.int (giC S q 0), .int (giC S q 1), .int (giC S q 2), .int (giC S q 3), .int (giC S q 4), .int (giC S q 5), .int (giC S q 6), .int (giC S q 7), .int (giC S q 8), .int (giC S q 9), .int (giC S q 10), .int (giC S q 11), va_re ad (grC S q 12), va_re ad (grC S q 13), .int (giC S q 14), va_re ad (grC S q 15)].set 10 (.int v))) = wsC K ad (siC S q 10 v) := by
  refine wsC_set _ ?_
  unfold cCe
  dsimp only
  rw [h.2]
  rfl
theorem st_3_11 {K : Nat → ClassId} {ad : Nat → Nat} {S : Cst} {q : Nat} (h : iK S q 3) (v : Int32) : (wsC K ad S).set q (ad q, .inr (3, [.int (giC S q 0), .int (giC S q 1), .int (giC S q 2), .int (giC S q 3), .int (giC S q 4), .int (giC S q 5), .int (giC S q 6), .int (giC S q 7), .int (giC S q 8), .int (giC S q 9), .int (giC S q 10), .int (giC S q 11), va_re ad (grC S q 12), va_re ad (grC S q 13), .int (giC S q 14), va_re ad (grC S q 15)].set 11 (.int v))) = wsC K ad (siC S q 11 v) := by
  refine wsC_set _ ?_
  unfold cCe
  dsimp only
  rw [h.2]
  rfl
theorem st_3_14 {K : Nat → ClassId} {ad : Nat → Nat} {S : Cst} {q : Nat} (h : iK S q 3) (v : Int32) : (wsC K ad S).set q (ad q, .inr (3, [.int (giC S q 0), .int (giC S q 1), .int (giC S q 2), .int (giC S q 3), .int (giC S q 4), .int (giC S q 5), .int (giC S q 6), .int (giC S q 7), .int (giC S q 8), .int (giC S q 9), .int (giC S q 10), .int (giC S q 11), va_re ad (grC S q 12), va_re ad (grC S q 13), .int (giC S q 14), va_re ad (grC S q 15)].set 14 (.int v))) = wsC K ad (siC S q 14 v) := by
  refine wsC_set _ ?_
  unfold cCe
  dsimp only
  rw [h.2]
  rfl
theorem st_3_15 {K : Nat → ClassId} {ad : Nat → Nat} {S : Cst} {q : Nat} (h : iK S q 3) (r : Option Nat) : (wsC K ad S).set q (ad q, .inr (3, [.int (giC S q 0), .int (giC S q 1), .int (giC S q 2), .int (giC S q 3), .int (giC S q 4), .int (giC S q 5), .int (giC S q 6), .int (giC S q 7), .int (giC S q 8), .int (giC S q 9), .int (giC S q 10), .int (giC S q 11), va_re ad (grC S q 12), va_re ad (grC S q 13), .int (giC S q 14), va_re ad (grC S q 15)].set 15 (va_re ad r))) = wsC K ad (srC S q 15 r) := by
  refine wsC_set _ ?_
  unfold cCe
  dsimp only
  rw [h.2]
  rfl
theorem st_4_1 {K : Nat → ClassId} {ad : Nat → Nat} {S : Cst} {q : Nat} (h : iK S q 4) (v : Int32) : (wsC K ad S).set q (ad q, .inr (4, [va_re ad (grC S q 0), .int (giC S q 1)].set 1 (.int v))) = wsC K ad (siC S q 1 v) := by
  refine wsC_set _ ?_
  unfold cCe
  dsimp only
  rw [h.2]
  rfl
theorem st_5_0 {K : Nat → ClassId} {ad : Nat → Nat} {S : Cst} {q : Nat} (h : iK S q 5) (v : Int32) : (wsC K ad S).set q (ad q, .inr (5, [.int (giC S q 0), va_re ad (grC S q 1)].set 0 (.int v))) = wsC K ad (siC S q 0 v) := by
  refine wsC_set _ ?_
  unfold cCe
  dsimp only
  rw [h.2]
  rfl
theorem st_6_1 {K : Nat → ClassId} {ad : Nat → Nat} {S : Cst} {q : Nat} (h : iK S q 6) (v : Int32) : (wsC K ad S).set q (ad q, .inr (6, [va_re ad (grC S q 0), .int (giC S q 1)].set 1 (.int v))) = wsC K ad (siC S q 1 v) := by
  refine wsC_set _ ?_
  unfold cCe
  dsimp only
  rw [h.2]
  rfl
theorem st_7_2 {K : Nat → ClassId} {ad : Nat → Nat} {S : Cst} {q : Nat} (h : iK S q 7) (r : Option Nat) : (wsC K ad S).set q (ad q, .inr (7, [va_re ad (grC S q 0), va_re ad (grC S q 1), va_re ad (grC S q 2), va_re ad (grC S q 3), va_re ad (grC S q 4)].set 2 (va_re ad r))) = wsC K ad (srC S q 2 r) := by
  refine wsC_set _ ?_
  unfold cCe
  dsimp only
  rw [h.2]
  rfl
theorem st_7_3 {K : Nat → ClassId} {ad : Nat → Nat} {S : Cst} {q : Nat} (h : iK S q 7) (r : Option Nat) : (wsC K ad S).set q (ad q, .inr (7, [va_re ad (grC S q 0), va_re ad (grC S q 1), va_re ad (grC S q 2), va_re ad (grC S q 3), va_re ad (grC S q 4)].set 3 (va_re ad r))) = wsC K ad (srC S q 3 r) := by
  refine wsC_set _ ?_
  unfold cCe
  dsimp only
  rw [h.2]
  rfl
theorem sa_20 {K : Nat → ClassId} {ad : Nat → Nat} {S : Cst} {q : Nat} (h : iK S q 20) (i : Nat) (v : Int32) : (wsC K ad S).set q (ad q, .inl (K 0, lnC S q, .inl (upd (giC S q) i v))) = wsC K ad (siC S q i v) := by
  refine wsC_set _ ?_
  unfold cCe
  dsimp only
  rw [h.2]
  rfl
theorem sf_20 {K : Nat → ClassId} {ad : Nat → Nat} {S : Cst} {q : Nat} (h : iK S q 20) (f : Nat → Int32) : (wsC K ad S).set q (ad q, .inl (K 0, lnC S q, .inl f)) = wsC K ad (sfC S q f) := by
  refine wsC_set _ ?_
  unfold cCe
  dsimp only
  rw [h.2]
  rfl
theorem sa_21 {K : Nat → ClassId} {ad : Nat → Nat} {S : Cst} {q : Nat} (h : iK S q 21) (i : Nat) (v : Int32) : (wsC K ad S).set q (ad q, .inl (K 1, lnC S q, .inl (upd (giC S q) i v))) = wsC K ad (siC S q i v) := by
  refine wsC_set _ ?_
  unfold cCe
  dsimp only
  rw [h.2]
  rfl
theorem sf_21 {K : Nat → ClassId} {ad : Nat → Nat} {S : Cst} {q : Nat} (h : iK S q 21) (f : Nat → Int32) : (wsC K ad S).set q (ad q, .inl (K 1, lnC S q, .inl f)) = wsC K ad (sfC S q f) := by
  refine wsC_set _ ?_
  unfold cCe
  dsimp only
  rw [h.2]
  rfl
theorem sa_22 {K : Nat → ClassId} {ad : Nat → Nat} {S : Cst} {q : Nat} (h : iK S q 22) (i : Nat) (v : Int32) : (wsC K ad S).set q (ad q, .inl (K 2, lnC S q, .inl (upd (giC S q) i v))) = wsC K ad (siC S q i v) := by
  refine wsC_set _ ?_
  unfold cCe
  dsimp only
  rw [h.2]
  rfl
theorem sf_22 {K : Nat → ClassId} {ad : Nat → Nat} {S : Cst} {q : Nat} (h : iK S q 22) (f : Nat → Int32) : (wsC K ad S).set q (ad q, .inl (K 2, lnC S q, .inl f)) = wsC K ad (sfC S q f) := by
  refine wsC_set _ ?_
  unfold cCe
  dsimp only
  rw [h.2]
  rfl
theorem sa_23 {K : Nat → ClassId} {ad : Nat → Nat} {S : Cst} {q : Nat} (h : iK S q 23) (i : Nat) (r : Option Nat) : (wsC K ad S).set q (ad q, .inl (K 3, lnC S q, .inr (.inr (.inr (.inr (va_up (fun i => (grC S q i).map ad) i (r.map ad))))))) = wsC K ad (srC S q i r) := by
  refine wsC_set _ ?_
  unfold cCe
  dsimp only
  rw [h.2]
  show Sum.inl (K 3, lnC S q, Sum.inr (Sum.inr (Sum.inr (Sum.inr (va_up (fun i => (grC S q i).map ad) i (r.map ad)))))) = Sum.inl (K 3, lnC S q, Sum.inr (Sum.inr (Sum.inr (Sum.inr (fun j => (va_up (grC S q) i r j).map ad)))))
  congr 7
  funext j
  unfold va_up
  split <;> rfl
theorem sa_24 {K : Nat → ClassId} {ad : Nat → Nat} {S : Cst} {q : Nat} (h : iK S q 24) (i : Nat) (r : Option Nat) : (wsC K ad S).set q (ad q, .inl (K 4, lnC S q, .inr (.inr (.inr (.inr (va_up (fun i => (grC S q i).map ad) i (r.map ad))))))) = wsC K ad (srC S q i r) := by
  refine wsC_set _ ?_
  unfold cCe
  dsimp only
  rw [h.2]
  show Sum.inl (K 4, lnC S q, Sum.inr (Sum.inr (Sum.inr (Sum.inr (va_up (fun i => (grC S q i).map ad) i (r.map ad)))))) = Sum.inl (K 4, lnC S q, Sum.inr (Sum.inr (Sum.inr (Sum.inr (fun j => (va_up (grC S q) i r j).map ad)))))
  congr 7
  funext j
  unfold va_up
  split <;> rfl
theorem ss_23 {K : Nat → ClassId} {ad : Nat → Nat} {S : Cst} {q : Nat} (h : iK S q 23) (i z : Nat) : (wsC K ad S).set q (ad q, .inl (K 3, lnC S q, .inr (.inr (.inr (.inr (va_up (fun i => (grC S q i).map ad) i (some (ad z)))))))) = wsC K ad (srC S q i (some z)) := sa_23 h i (some z)
theorem sn_23 {K : Nat → ClassId} {ad : Nat → Nat} {S : Cst} {q : Nat} (h : iK S q 23) (i : Nat) : (wsC K ad S).set q (ad q, .inl (K 3, lnC S q, .inr (.inr (.inr (.inr (va_up (fun i => (grC S q i).map ad) i none)))))) = wsC K ad (srC S q i none) := sa_23 h i none
theorem ss_24 {K : Nat → ClassId} {ad : Nat → Nat} {S : Cst} {q : Nat} (h : iK S q 24) (i z : Nat) : (wsC K ad S).set q (ad q, .inl (K 4, lnC S q, .inr (.inr (.inr (.inr (va_up (fun i => (grC S q i).map ad) i (some (ad z)))))))) = wsC K ad (srC S q i (some z)) := sa_24 h i (some z)
theorem sn_24 {K : Nat → ClassId} {ad : Nat → Nat} {S : Cst} {q : Nat} (h : iK S q 24) (i : Nat) : (wsC K ad S).set q (ad q, .inl (K 4, lnC S q, .inr (.inr (.inr (.inr (va_up (fun i => (grC S q i).map ad) i none)))))) = wsC K ad (srC S q i none) := sa_24 h i none
theorem re_cat (ad : Nat → Nat) (r : Option Nat) : (va_re ad r).category = 1 := by
  cases r <;> rfl
theorem re_none {ad : Nat → Nat} {r : Option Nat} (h : r = none) : va_re ad r = .null := by rw [h]; rfl
theorem re_some {ad : Nat → Nat} {r : Option Nat} (h : r ≠ none) : va_re ad r = .ref (ad (r.getD 0)) := by
  cases r with
  | none => exact absurd rfl h
  | some x => rfl
theorem re_mk (ad : Nat → Nat) (q : Nat) : Value.ref (ad q) = va_re ad (some q) := rfl
/-- a start over the class's store -/
def cSt (G : va_G) (K : Nat → ClassId) (ad : Nat → Nat) (sz : Nat) (S : Cst) (P : Prop) (U : State) : Prop := wS G K sz (wsC K ad S) U ∧ P
def cBt (G : va_G) (K : Nat → ClassId) (ad : Nat → Nat) (A : Nat → Prop) (u : Cst) (t : State) : Prop := wB G A (wsC K ad u) t
theorem cFB {G : va_G} {K : Nat → ClassId} {ad : Nat → Nat} {sz : Nat} {S : Cst} {P : Prop} {av : List Value} : FrameBlind (va_Pc av (cSt G K ad sz S P)) := fun a U g' mk q => ⟨q.1, (wFB (av := av) a U g' mk ⟨q.1, q.2.1⟩).2, q.2.2⟩
theorem cPV {G : va_G} {K : Nat → ClassId} {ad : Nat → Nat} {S : Cst} {P : Prop} {H : Heap} {s : State} {As : List Value} {A : Nat → Prop} (hK : va_K G vwCl (wTY K) s) (hE : wE s) (hP : va_P G vwCl (wsC K ad S) H) (hD : va_D A (wsC K ad S)) (ci : Nat) {q0 b : Nat} {q : vw_C} {fs : List Value} (hc : vwCl[ci]? = some q) (he : (wsC K ad S)[q0]? = some (b, .inr (ci, fs))) (p : P) : PreV s H q.1 b (va_Pc (.ref b :: As) (cSt G K ad H.size S P)) As :=
  ⟨cFB, va_recv hK hP hc he, fun U hU hW' => ⟨rfl, (((wPS (av := []) hK hE hP hD).2 U hU hW').2), p⟩⟩
theorem cPS {G : va_G} {K : Nat → ClassId} {ad : Nat → Nat} {S : Cst} {P : Prop} {H : Heap} {s : State} {As : List Value} {A : Nat → Prop} (hK : va_K G vwCl (wTY K) s) (hE : wE s) (hP : va_P G vwCl (wsC K ad S) H) (hD : va_D A (wsC K ad S)) (p : P) : PreS s H (va_Pc As (cSt G K ad H.size S P)) As :=
  ⟨cFB, fun U hU hW' => ⟨rfl, (((wPS (av := []) hK hE hP hD).2 U hU hW').2), p⟩⟩
section WC
variable {p : Program} {l : Launch} {e : Env} {R : Room} {s : State} {m : MethodId} {args : Array Value} {below : List Frame} {meth : Method} {c : Code} {H : Heap} {locs : List Loc} {cells slots : Nat} {Q : State → Prop}
variable {pc : Nat} {ls : Array Slot} {rest st0 : List Value} {a : Array Value} {A0 : Nat → Prop} {mc ms : Nat} {G : va_G} {ws : va_W} {K : Nat → ClassId} {ad : Nat → Nat} {cc : ByteArray}
theorem cAload_n {r : Option Nat} (hexec : p.tables.exec = Jvm.exec) (hb : c.code = cc) {k : Fin 4} {i : Nat} (hdg : decode cc pc = .ok (.aload_n k, 1)) (hi : (k : Nat) = i) (hl : ls[i]? = some (.val (va_re ad r))) (k1 : W p l e R s m args below meth c H locs cells slots Q (F0 m (pc + 1) ls (va_re ad r :: rest))) : W p l e R s m args below meth c H locs cells slots Q (F0 m pc ls rest) := by
  cases r with
  | none => exact lv_aload_nN hexec hb hdg hi hl k1
  | some x => exact lv_aload_n hexec hb hdg hi hl k1
theorem cAload {r : Option Nat} (hexec : p.tables.exec = Jvm.exec) (hb : c.code = cc) {i : Nat} (hdg : decode cc pc = .ok (.aload i, 2)) (hl : ls[i]? = some (.val (va_re ad r))) (k1 : W p l e R s m args below meth c H locs cells slots Q (F0 m (pc + 2) ls (va_re ad r :: rest))) : W p l e R s m args below meth c H locs cells slots Q (F0 m pc ls rest) := by
  cases r with
  | none => exact lv_aloadN hexec hb hdg hl k1
  | some x => exact lv_aload hexec hb hdg hl k1
theorem cAstore_n {r : Option Nat} (hexec : p.tables.exec = Jvm.exec) (hb : c.code = cc) {k : Fin 4} {i nL : Nat} {lv lv' : List (Nat × Value)} (hdg : decode cc pc = .ok (.astore_n k, 1)) (hi : (k : Nat) = i) (h : lv_has ls nL lv) (hn : i < nL) (hl : (i, va_re ad r) :: lv.filter (fun q => !(q.1 == i) && !(q.1 + 1 == i && q.2.category == 2)) = lv')
    (k1 : ∀ ls' : Array Slot, lv_has ls' nL lv' → W p l e R s m args below meth c H locs cells slots Q (F0 m (pc + 1) ls' rest)) : W p l e R s m args below meth c H locs cells slots Q (F0 m pc ls (va_re ad r :: rest)) := by
  cases r with
  | none => exact lv_astore_nN hexec hb hdg hi h hn hl k1
  | some x => exact lv_astore_n hexec hb hdg hi h hn hl k1
theorem cAstore {r : Option Nat} (hexec : p.tables.exec = Jvm.exec) (hb : c.code = cc) {i nL : Nat} {lv lv' : List (Nat × Value)} (hdg : decode cc pc = .ok (.astore i, 2)) (h : lv_has ls nL lv) (hn : i < nL) (hl : (i, va_re ad r) :: lv.filter (fun q => !(q.1 == i) && !(q.1 + 1 == i && q.2.category == 2)) = lv')
    (k1 : ∀ ls' : Array Slot, lv_has ls' nL lv' → W p l e R s m args below meth c H locs cells slots Q (F0 m (pc + 2) ls' rest)) : W p l e R s m args below meth c H locs cells slots Q (F0 m pc ls (va_re ad r :: rest)) := by
  cases r with
  | none => exact lv_astoreN hexec hb hdg h hn hl k1
  | some x => exact lv_astore hexec hb hdg h hn hl k1
theorem cIfnull {r : Option Nat} (hexec : p.tables.exec = Jvm.exec) (hb : c.code = cc) {off : Int} {tgt : Nat} (hdg : decode cc pc = .ok (.ifnull off, 3)) (ht : (pc : Int) + off = (tgt : Int)) (k1 : r = none → W p l e R s m args below meth c H locs cells slots Q (F0 m tgt ls rest)) (k2 : ¬ r = none → W p l e R s m args below meth c H locs cells slots Q (F0 m (pc + 3) ls rest)) : W p l e R s m args below meth c H locs cells slots Q (F0 m pc ls (va_re ad r :: rest)) := by
  cases r with
  | none => exact lv_ifnullN hexec hb hdg ht (k1 rfl)
  | some x => exact lv_ifnull hexec hb hdg (k2 (fun h => by cases h))
theorem cIfnonnull {r : Option Nat} (hexec : p.tables.exec = Jvm.exec) (hb : c.code = cc) {off : Int} {tgt : Nat} (hdg : decode cc pc = .ok (.ifnonnull off, 3)) (ht : (pc : Int) + off = (tgt : Int)) (k1 : r = none → W p l e R s m args below meth c H locs cells slots Q (F0 m (pc + 3) ls rest)) (k2 : ¬ r = none → W p l e R s m args below meth c H locs cells slots Q (F0 m tgt ls rest)) : W p l e R s m args below meth c H locs cells slots Q (F0 m pc ls (va_re ad r :: rest)) := by
  cases r with
  | none => exact lv_ifnonnullN hexec hb hdg (k1 rfl)
  | some x => exact lv_ifnonnull hexec hb hdg ht (k2 (fun h => by cases h))
/-- the reference on the top is one -/
theorem cTop {r : Option Nat} (h : r ≠ none) (k : W p l e R s m args below meth c H locs cells slots Q (F0 m pc ls (.ref (ad (r.getD 0)) :: rest))) : W p l e R s m args below meth c H locs cells slots Q (F0 m pc ls (va_re ad r :: rest)) := by
  rw [re_some h]
  exact k
theorem cTop2 {v : Value} {r : Option Nat} (h : r ≠ none) (k : W p l e R s m args below meth c H locs cells slots Q (F0 m pc ls (v :: .ref (ad (r.getD 0)) :: rest))) : W p l e R s m args below meth c H locs cells slots Q (F0 m pc ls (v :: va_re ad r :: rest)) := by
  rw [re_some h]
  exact k
theorem cTop3 {v w : Value} {r : Option Nat} (h : r ≠ none) (k : W p l e R s m args below meth c H locs cells slots Q (F0 m pc ls (v :: w :: .ref (ad (r.getD 0)) :: rest))) : W p l e R s m args below meth c H locs cells slots Q (F0 m pc ls (v :: w :: va_re ad r :: rest)) := by
  rw [re_some h]
  exact k
theorem cTop4 {v0 v1 v2 : Value} {r : Option Nat} (h : r ≠ none) (k : W p l e R s m args below meth c H locs cells slots Q (F0 m pc ls (v0 :: v1 :: v2 :: .ref (ad (r.getD 0)) :: rest))) : W p l e R s m args below meth c H locs cells slots Q (F0 m pc ls (v0 :: v1 :: v2 :: va_re ad r :: rest)) := by
  rw [re_some h]
  exact k
theorem cTop5 {v0 v1 v2 v3 : Value} {r : Option Nat} (h : r ≠ none) (k : W p l e R s m args below meth c H locs cells slots Q (F0 m pc ls (v0 :: v1 :: v2 :: v3 :: .ref (ad (r.getD 0)) :: rest))) : W p l e R s m args below meth c H locs cells slots Q (F0 m pc ls (v0 :: v1 :: v2 :: v3 :: va_re ad r :: rest)) := by
  rw [re_some h]
  exact k
theorem cTop6 {v0 v1 v2 v3 v4 : Value} {r : Option Nat} (h : r ≠ none) (k : W p l e R s m args below meth c H locs cells slots Q (F0 m pc ls (v0 :: v1 :: v2 :: v3 :: v4 :: .ref (ad (r.getD 0)) :: rest))) : W p l e R s m args below meth c H locs cells slots Q (F0 m pc ls (v0 :: v1 :: v2 :: v3 :: v4 :: va_re ad r :: rest)) := by
  rw [re_some h]
  exact k
theorem cTop7 {v0 v1 v2 v3 v4 v5 : Value} {r : Option Nat} (h : r ≠ none) (k : W p l e R s m args below meth c H locs cells slots Q (F0 m pc ls (v0 :: v1 :: v2 :: v3 :: v4 :: v5 :: .ref (ad (r.getD 0)) :: rest))) : W p l e R s m args below meth c H locs cells slots Q (F0 m pc ls (v0 :: v1 :: v2 :: v3 :: v4 :: v5 :: va_re ad r :: rest)) := by
  rw [re_some h]
  exact k
theorem cGoi {S : Cst} {post : Int32 → Cst → Prop} (hr : va_Run p l e R s m args below meth c H locs cells slots mc ms (F0 m pc ls st0) rest (va_Qi post (cBt G K ad (va_A (wsC K ad S) H.size)) (va_A (wsC K ad S) H.size) a) (va_A (wsC K ad S) H.size)) (hP : va_P G vwCl (wsC K ad S) H) (hD : va_D A0 (wsC K ad S)) (hS : va_S A0 s.heap H locs) (hA : ∀ q, s.heap.size ≤ q → A0 q)
    (kk : ∀ (r : Int32) (u : Cst) (H1 : Heap) (locs1 : List Loc), post r u → va_P G vwCl (wsC K ad u) H1 → va_D A0 (wsC K ad u) → va_S A0 s.heap H1 locs1 → W p l e R s m args below meth c H1 locs1 (cells + mc) (slots + ms) Q (F0 m (pc + 3) ls (.int r :: rest))) : W p l e R s m args below meth c H locs cells slots Q (F0 m pc ls st0) := by
  have hz : ∀ q, va_A (wsC K ad S) H.size q → A0 q := fun q hq => by
    rcases hq with ⟨k, e', h1⟩ | h1
    · exact hD.2 k (q, e') h1
    · exact hA q (Nat.le_trans hS.1 h1)
  refine va_calli hr hS (fun q _ h => hz q h) hz (fun r u t H1 locs1 ht _ hw hB' _ _ hS1 => ?_)
  obtain ⟨hP1, hD1⟩ := hB'
  rw [ht] at hP1
  exact kk r u H1 locs1 hw hP1 (hD1.weaken (fun k q _ h => hz q.1 h)) hS1
theorem cGov {S : Cst} {post : Cst → Prop} (hr : va_Run p l e R s m args below meth c H locs cells slots mc ms (F0 m pc ls st0) rest (va_Qv post (cBt G K ad (va_A (wsC K ad S) H.size)) (va_A (wsC K ad S) H.size) a) (va_A (wsC K ad S) H.size)) (hP : va_P G vwCl (wsC K ad S) H) (hD : va_D A0 (wsC K ad S)) (hS : va_S A0 s.heap H locs) (hA : ∀ q, s.heap.size ≤ q → A0 q)
    (kk : ∀ (u : Cst) (H1 : Heap) (locs1 : List Loc), post u → va_P G vwCl (wsC K ad u) H1 → va_D A0 (wsC K ad u) → va_S A0 s.heap H1 locs1 → W p l e R s m args below meth c H1 locs1 (cells + mc) (slots + ms) Q (F0 m (pc + 3) ls rest)) : W p l e R s m args below meth c H locs cells slots Q (F0 m pc ls st0) := by
  have hz : ∀ q, va_A (wsC K ad S) H.size q → A0 q := fun q hq => by
    rcases hq with ⟨k, e', h1⟩ | h1
    · exact hD.2 k (q, e') h1
    · exact hA q (Nat.le_trans hS.1 h1)
  refine va_callv hr hS (fun q _ h => hz q h) hz (fun u t H1 locs1 ht _ hw hB' _ _ hS1 => ?_)
  obtain ⟨hP1, hD1⟩ := hB'
  rw [ht] at hP1
  exact kk u H1 locs1 hw hP1 (hD1.weaken (fun k q _ h => hz q.1 h)) hS1
theorem cGoq {S : Cst} {post : Option Nat → Cst → Prop} (hr : va_Run p l e R s m args below meth c H locs cells slots mc ms (F0 m pc ls st0) rest (va_Qq (fun r u => ∃ r', r = r'.map ad ∧ post r' u) (cBt G K ad (va_A (wsC K ad S) H.size)) (va_A (wsC K ad S) H.size) a) (va_A (wsC K ad S) H.size)) (hP : va_P G vwCl (wsC K ad S) H) (hD : va_D A0 (wsC K ad S)) (hS : va_S A0 s.heap H locs) (hA : ∀ q, s.heap.size ≤ q → A0 q)
    (kk : ∀ (r : Option Nat) (u : Cst) (H1 : Heap) (locs1 : List Loc), post r u → va_P G vwCl (wsC K ad u) H1 → va_D A0 (wsC K ad u) → va_S A0 s.heap H1 locs1 → W p l e R s m args below meth c H1 locs1 (cells + mc) (slots + ms) Q (F0 m (pc + 3) ls (va_re ad r :: rest))) : W p l e R s m args below meth c H locs cells slots Q (F0 m pc ls st0) := by
  have hz : ∀ q, va_A (wsC K ad S) H.size q → A0 q := fun q hq => by
    rcases hq with ⟨k, e', h1⟩ | h1
    · exact hD.2 k (q, e') h1
    · exact hA q (Nat.le_trans hS.1 h1)
  refine va_callq hr hS (fun q _ h => hz q h) hz (fun r u t H1 locs1 ht _ hw hB' _ _ hS1 => ?_)
  obtain ⟨hP1, hD1⟩ := hB'
  rw [ht] at hP1
  obtain ⟨r', e1, e2⟩ := hw
  subst e1
  exact kk r' u H1 locs1 e2 hP1 (hD1.weaken (fun k q _ h => hz q.1 h)) hS1
/-- a reference out of a row, into a row -/
theorem cAald (hexec : p.tables.exec = Jvm.exec) (hb : c.code = cc) {S : Cst} (hK : va_K G vwCl (wTY K) s) (hP : va_P G vwCl (wsC K ad S) H) (q0 t0 : Nat) {x : Nat} {C : String} {n : Nat} {f : Nat → Option Nat} (ha : (wsC K ad S)[q0]? = some (x, .inl (K t0, n, .inr (.inr (.inr (.inr (fun i => (f i).map ad))))))) (ht : (wTY K)[t0]? = some (K t0, .object C)) {i : Int32} (hin : vp_in i n) (hdg : decode cc pc = .ok (.aaload, 1))
    (kk : W p l e R s m args below meth c H locs cells slots Q (F0 m (pc + 1) ls (va_re ad (f i.toNatClampNeg) :: rest))) : W p l e R s m args below meth c H locs cells slots Q (F0 m pc ls (.int i :: .ref x :: rest)) := va_aldq hexec hb hK hP q0 t0 ha ht hin hdg kk
end WC
theorem re_nar (ad : Nat → Nat) (r : Option Nat) (C : String) : narrow (.object C) (va_re ad r) = va_re ad r := by
  cases r <;> rfl
theorem re_fit (ad : Nat → Nat) (r : Option Nat) (C : String) : fits (.object C) (va_re ad r) = true := by
  cases r <;> rfl
theorem pair_i {α : Type} {a b : α} {S : Cst} (h : a = b) : (a, S) = (b, S) := by rw [h]
/-! ===== cells made anew ===== -/
def clS (S : Cst) : Prop := ∀ q, q < S.1 → ∀ k z, grC S q k = some z → z < S.1
def vR (S : Cst) (r : Option Nat) : Prop := ∀ z, r = some z → z < S.1
def dCe : Cel := (0, 0, fun _ => 0, fun _ => none)
def adX (ad : Nat → Nat) (n : Nat) (as : List Nat) : Nat → Nat := fun j => if j < n then ad j else as.getD (j - n) 0
def puC (S : Cst) (cs : List Cel) (sl : Nat) : Cst := (S.1 + cs.length, S.2.1 + sl, fun j => if j < S.1 then S.2.2 j else cs.getD (j - S.1) dCe)
theorem adX_old {ad : Nat → Nat} {n j : Nat} {as : List Nat} (h : j < n) : adX ad n as j = ad j := if_pos h
theorem adX_new {ad : Nat → Nat} {n i : Nat} {as : List Nat} : adX ad n as (n + i) = as.getD i 0 := by
  unfold adX
  rw [if_neg (by omega), Nat.add_sub_cancel_left]
theorem puC_old {S : Cst} {cs : List Cel} {sl j : Nat} (h : j < S.1) : (puC S cs sl).2.2 j = S.2.2 j := if_pos h
theorem puC_new {S : Cst} {cs : List Cel} {sl i : Nat} : (puC S cs sl).2.2 (S.1 + i) = cs.getD i dCe := by
  show (if S.1 + i < S.1 then _ else _) = _
  rw [if_neg (by omega), Nat.add_sub_cancel_left]
theorem re_ad {ad ad' : Nat → Nat} {S : Cst} {r : Option Nat} (h : ∀ q, q < S.1 → ad' q = ad q) (v : vR S r) : va_re ad' r = va_re ad r := by
  cases r with
  | none => rfl
  | some z =>
    show Value.ref (ad' z) = Value.ref (ad z)
    rw [h z (v z rfl)]
theorem cCe_ad {K : Nat → ClassId} {ad ad' : Nat → Nat} {n : Nat} (h : ∀ q, q < n → ad' q = ad q) (c : Cel) (v : ∀ k z, c.2.2.2 k = some z → z < n) : cCe K ad' c = cCe K ad c := by
  unfold cCe
  rw [cKd_g, cKd_g]
  congr 1
  funext k
  cases e : c.2.2.2 k with
  | none => rfl
  | some z =>
    show some (ad' z) = some (ad z)
    rw [h z (v k z e)]
theorem wsC_app {K : Nat → ClassId} {ad : Nat → Nat} {S : Cst} (as : List Nat) (cs : List Cel) (sl : Nat) (hc : clS S) {W' : va_W} (hW : W' = (List.range cs.length).map (fun i => (as.getD i 0, cCe K (adX ad S.1 as) (cs.getD i dCe)))) : wsC K ad S ++ W' = wsC K (adX ad S.1 as) (puC S cs sl) := by
  subst hW
  unfold wsC
  show _ = (List.range (S.1 + cs.length)).map _
  rw [List.range_add, List.map_append, List.map_map]
  congr 1
  · refine List.map_congr_left (fun q hq => ?_)
    have hq := List.mem_range.mp hq
    rw [adX_old hq, puC_old hq, cCe_ad (fun z a => adX_old a) _ (hc q hq)]
  · refine List.map_congr_left (fun i hi => ?_)
    show _ = (adX ad S.1 as (S.1 + i), cCe K (adX ad S.1 as) ((puC S cs sl).2.2 (S.1 + i)))
    rw [adX_new, puC_new]
theorem eN.pu (S : Cst) (cs : List Cel) (sl : Nat) : eN S (puC S cs sl) := ⟨⟨Nat.le_add_right _ _, Nat.le_add_right _ _⟩, fun q a => by
  unfold kdC lnC
  rw [puC_old a]
  exact ⟨rfl, rfl⟩⟩
/-- within a method that makes objects: what stood stands, under the same addresses -/
def nH (S0 : Cst) (ad0 : Nat → Nat) (lc ls : Nat) (S : Cst) (ad : Nat → Nat) : Prop := eN S0 S ∧ (∀ q, q < S0.1 → ad q = ad0 q) ∧ S.1 ≤ lc ∧ S.2.1 ≤ ls
theorem nH.rf {lc ls : Nat} (S0 : Cst) (ad0 : Nat → Nat) (h : S0.1 ≤ lc ∧ S0.2.1 ≤ ls) : nH S0 ad0 lc ls S0 ad0 := ⟨eN.rf S0, fun _ _ => rfl, h⟩
theorem nH.k {lc ls : Nat} {S0 S T : Cst} {ad0 ad : Nat → Nat} (h : nH S0 ad0 lc ls S ad) (g : eK S T) : nH S0 ad0 lc ls T ad := ⟨h.1.tr g.n, h.2.1, by rw [← g.1.1]; exact h.2.2.1, by rw [← g.1.2]; exact h.2.2.2⟩
theorem nH.n {lc ls : Nat} {S0 S T : Cst} {ad0 ad ad' : Nat → Nat} (h : nH S0 ad0 lc ls S ad) (g : eN S T) (a : ∀ q, q < S.1 → ad' q = ad q) (h1 : T.1 ≤ lc) (h2 : T.2.1 ≤ ls) : nH S0 ad0 lc ls T ad' := ⟨h.1.tr g, fun q b => (a q (Nat.lt_of_lt_of_le b h.1.1.1)).trans (h.2.1 q b), h1, h2⟩
section WN
variable {p : Program} {l : Launch} {e : Env} {R : Room} {s : State} {m : MethodId} {args : Array Value} {below : List Frame} {meth : Method} {c : Code} {H : Heap} {locs : List Loc} {cells slots : Nat} {Q : State → Prop}
variable {pc : Nat} {ls : Array Slot} {rest st0 : List Value} {a : Array Value} {A0 : Nat → Prop} {mc ms : Nat} {G : va_G} {ws : va_W} {K : Nat → ClassId} {ad : Nat → Nat} {cc : ByteArray}
theorem cCells {cells' slots' : Nat} {g : JFrame} (h1 : cells = cells') (h2 : slots = slots') (k : W p l e R s m args below meth c H locs cells' slots' Q g) : W p l e R s m args below meth c H locs cells slots Q g := by
  subst h1
  subst h2
  exact k
theorem cNoi {S : Cst} {post : Int32 → Cst × (Nat → Nat) → Prop} (hr : va_Run p l e R s m args below meth c H locs cells slots mc ms (F0 m pc ls st0) rest (va_Qi post (fun u t => cBt G K u.2 (va_A (wsC K ad S) H.size) u.1 t) (va_A (wsC K ad S) H.size) a) (va_A (wsC K ad S) H.size)) (hP : va_P G vwCl (wsC K ad S) H) (hD : va_D A0 (wsC K ad S)) (hS : va_S A0 s.heap H locs) (hA : ∀ q, s.heap.size ≤ q → A0 q)
    (kk : ∀ (r : Int32) (u : Cst × (Nat → Nat)) (H1 : Heap) (locs1 : List Loc), post r u → va_P G vwCl (wsC K u.2 u.1) H1 → va_D A0 (wsC K u.2 u.1) → va_S A0 s.heap H1 locs1 → W p l e R s m args below meth c H1 locs1 (cells + mc) (slots + ms) Q (F0 m (pc + 3) ls (.int r :: rest))) : W p l e R s m args below meth c H locs cells slots Q (F0 m pc ls st0) := by
  have hz : ∀ q, va_A (wsC K ad S) H.size q → A0 q := fun q hq => by
    rcases hq with ⟨k, e', h1⟩ | h1
    · exact hD.2 k (q, e') h1
    · exact hA q (Nat.le_trans hS.1 h1)
  refine va_calli hr hS (fun q _ h => hz q h) hz (fun r u t H1 locs1 ht _ hw hB' _ _ hS1 => ?_)
  obtain ⟨hP1, hD1⟩ := hB'
  rw [ht] at hP1
  exact kk r u H1 locs1 hw hP1 (hD1.weaken (fun k q _ h => hz q.1 h)) hS1
theorem cNov {S : Cst} {post : Cst × (Nat → Nat) → Prop} (hr : va_Run p l e R s m args below meth c H locs cells slots mc ms (F0 m pc ls st0) rest (va_Qv post (fun u t => cBt G K u.2 (va_A (wsC K ad S) H.size) u.1 t) (va_A (wsC K ad S) H.size) a) (va_A (wsC K ad S) H.size)) (hP : va_P G vwCl (wsC K ad S) H) (hD : va_D A0 (wsC K ad S)) (hS : va_S A0 s.heap H locs) (hA : ∀ q, s.heap.size ≤ q → A0 q)
    (kk : ∀ (u : Cst × (Nat → Nat)) (H1 : Heap) (locs1 : List Loc), post u → va_P G vwCl (wsC K u.2 u.1) H1 → va_D A0 (wsC K u.2 u.1) → va_S A0 s.heap H1 locs1 → W p l e R s m args below meth c H1 locs1 (cells + mc) (slots + ms) Q (F0 m (pc + 3) ls rest)) : W p l e R s m args below meth c H locs cells slots Q (F0 m pc ls st0) := by
  have hz : ∀ q, va_A (wsC K ad S) H.size q → A0 q := fun q hq => by
    rcases hq with ⟨k, e', h1⟩ | h1
    · exact hD.2 k (q, e') h1
    · exact hA q (Nat.le_trans hS.1 h1)
  refine va_callv hr hS (fun q _ h => hz q h) hz (fun u t H1 locs1 ht _ hw hB' _ _ hS1 => ?_)
  obtain ⟨hP1, hD1⟩ := hB'
  rw [ht] at hP1
  exact kk u H1 locs1 hw hP1 (hD1.weaken (fun k q _ h => hz q.1 h)) hS1
theorem cNoq {S : Cst} {post : Option Nat → Cst × (Nat → Nat) → Prop} (hr : va_Run p l e R s m args below meth c H locs cells slots mc ms (F0 m pc ls st0) rest (va_Qq (fun r u => ∃ r', r = r'.map u.2 ∧ post r' u) (fun u t => cBt G K u.2 (va_A (wsC K ad S) H.size) u.1 t) (va_A (wsC K ad S) H.size) a) (va_A (wsC K ad S) H.size)) (hP : va_P G vwCl (wsC K ad S) H) (hD : va_D A0 (wsC K ad S)) (hS : va_S A0 s.heap H locs) (hA : ∀ q, s.heap.size ≤ q → A0 q)
    (kk : ∀ (r : Option Nat) (u : Cst × (Nat → Nat)) (H1 : Heap) (locs1 : List Loc), post r u → va_P G vwCl (wsC K u.2 u.1) H1 → va_D A0 (wsC K u.2 u.1) → va_S A0 s.heap H1 locs1 → W p l e R s m args below meth c H1 locs1 (cells + mc) (slots + ms) Q (F0 m (pc + 3) ls (va_re u.2 r :: rest))) : W p l e R s m args below meth c H locs cells slots Q (F0 m pc ls st0) := by
  have hz : ∀ q, va_A (wsC K ad S) H.size q → A0 q := fun q hq => by
    rcases hq with ⟨k, e', h1⟩ | h1
    · exact hD.2 k (q, e') h1
    · exact hA q (Nat.le_trans hS.1 h1)
  refine va_callq hr hS (fun q _ h => hz q h) hz (fun r u t H1 locs1 ht _ hw hB' _ _ hS1 => ?_)
  obtain ⟨hP1, hD1⟩ := hB'
  rw [ht] at hP1
  obtain ⟨r', e1, e2⟩ := hw
  subst e1
  exact kk r' u H1 locs1 e2 hP1 (hD1.weaken (fun k q _ h => hz q.1 h)) hS1
end WN
theorem up_map (ad : Nat → Nat) (f : Nat → Option Nat) (k z : Nat) : (fun i => (va_up f k (some z) i).map ad) = va_up (fun i => (f i).map ad) k (some (ad z)) := by
  funext i
  unfold va_up
  split <;> rfl
section WI
variable {p : Program} {l : Launch} {e : Env} {R : Room} {s : State} {m : MethodId} {args : Array Value} {below : List Frame} {meth : Method} {c : Code} {H : Heap} {locs : List Loc} {cells slots : Nat} {Q : State → Prop}
variable {pc : Nat} {ls : Array Slot} {rest st0 : List Value} {a : Array Value} {A0 : Nat → Prop} {mc ms : Nat} {G : va_G} {ws : va_W} {K : Nat → ClassId} {ad : Nat → Nat} {cc : ByteArray}
/-- a constructor's call over the object just made -/
theorem cInit {x : Nat × va_E} {post : va_W → Prop} (hr : va_Run p l e R s m args below meth c H locs cells slots mc ms (F0 m pc ls st0) rest (va_Qv post (wB G (va_A [x] H.size)) (va_A [x] H.size) a) (va_A [x] H.size)) (hP : va_P G vwCl (ws ++ [x]) H) (hD : va_D A0 (ws ++ [x])) (hS : va_S A0 s.heap H locs) (hA : ∀ q, s.heap.size ≤ q → A0 q)
    (kk : ∀ (u : va_W) (H1 : Heap) (locs1 : List Loc), post u → va_P G vwCl (ws ++ u) H1 → va_D A0 (ws ++ u) → va_S A0 s.heap H1 locs1 → W p l e R s m args below meth c H1 locs1 (cells + mc) (slots + ms) Q (F0 m (pc + 3) ls rest)) : W p l e R s m args below meth c H locs cells slots Q (F0 m pc ls st0) := by
  have hlast : (ws ++ [x])[ws.length]? = some x := by
    rw [List.getElem?_append_right (Nat.le_refl _), Nat.sub_self]
    rfl
  have hold : ∀ (k : Nat) (y : Nat × va_E), ws[k]? = some y → (ws ++ [x])[k]? = some y := fun k y h => by
    rw [List.getElem?_append_left (List.getElem?_eq_some_iff.mp h).1]
    exact h
  have hz : ∀ q, va_A [x] H.size q → A0 q := fun q hq => by
    rcases hq with ⟨k, e', h1⟩ | h1
    · cases k with
      | zero =>
        have e1 : x = (q, e') := Option.some.inj h1
        have := hD.2 ws.length x hlast
        rw [e1] at this
        exact this
      | succ k => cases h1
    · exact hA q (Nat.le_trans hS.1 h1)
  have hne : ∀ (k : Nat) (y : Nat × va_E), ws[k]? = some y → ¬ va_A [x] H.size y.1 := fun k y h hq => by
    rcases hq with ⟨j, e', h1⟩ | h1
    · cases j with
      | zero =>
        have e1 : x = (y.1, e') := Option.some.inj h1
        have := hD.1 k ws.length y x (hold k y h) hlast (by rw [e1])
        have := (List.getElem?_eq_some_iff.mp h).1
        omega
      | succ j => cases h1
    · exact absurd ((hP k y (hold k y h)).lt) (Nat.not_lt.mpr h1)
  refine va_callv hr hS (fun q _ h => hz q h) hz (fun u t H1 locs1 ht _ hw hB' _ hk hS1 => ?_)
  obtain ⟨hP1, hD1⟩ := hB'
  rw [ht] at hP1
  have hPw : va_P G vwCl ws H1 := fun k y h => (hP k y (hold k y h)).kept (hk y.1 ((hP k y (hold k y h)).lt) (hne k y h))
  have hDw : va_D A0 ws := ⟨fun i j y z h1 h2 h3 => hD.1 i j y z (hold i y h1) (hold j z h2) h3, fun k y h => hD.2 k y (hold k y h)⟩
  exact kk u H1 locs1 hw (hPw.app hP1) (hDw.app (hD1.weaken (fun k q _ h => hz q.1 h)) (fun i j y z h1 h2 h3 => hne i y h1 (by rw [h3]; exact hD1.2 j z h2))) hS1
end WI
theorem pu_at {K : Nat → ClassId} {ad : Nat → Nat} (S : Cst) (x : Nat × va_E) : [S.1].filterMap (fun i => (wsC K ad S ++ [x])[i]?) = [x] := by
  have hl : (wsC K ad S).length = S.1 := by
    unfold wsC
    rw [List.length_map, List.length_range]
  have e : (wsC K ad S ++ [x])[S.1]? = some x := by
    rw [List.getElem?_append_right (by omega), hl, Nat.sub_self]
    rfl
  simp [List.filterMap, e]
theorem pu_at2 {K : Nat → ClassId} {ad : Nat → Nat} (S : Cst) (x : Nat × va_E) : [S.1].map (fun i => (wsC K ad S ++ [x])[i]?) = [x].map some := by
  have hl : (wsC K ad S).length = S.1 := by
    unfold wsC
    rw [List.length_map, List.length_range]
  have e : (wsC K ad S ++ [x])[S.1]? = some x := by
    rw [List.getElem?_append_right (by omega), hl, Nat.sub_self]
    rfl
  simp [e]
