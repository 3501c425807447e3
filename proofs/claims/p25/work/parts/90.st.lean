section
/-! ===== the class's store: what is read where something was written ===== -/
theorem gi_si (S : Cst) (a b q k : Nat) (v : Int32) : giC (siC S a b v) q k = if q = a ∧ k = b then v else giC S q k := by
  show ((if q = a then _ else S.2.2 q) : Cel).2.2.1 k = _
  by_cases h : q = a
  · subst h
    rw [if_pos rfl]
    show (if k = b then v else giC S q k) = _
    simp
  · rw [if_neg h, if_neg (fun z => h z.1)]
    rfl
theorem gr_si (S : Cst) (a b q k : Nat) (v : Int32) : grC (siC S a b v) q k = grC S q k := by
  show ((if q = a then _ else S.2.2 q) : Cel).2.2.2 k = _
  by_cases h : q = a
  · subst h
    rw [if_pos rfl]
  · rw [if_neg h]
    rfl
theorem kd_si (S : Cst) (a b q : Nat) (v : Int32) : kdC (siC S a b v) q = kdC S q := by
  show ((if q = a then _ else S.2.2 q) : Cel).1 = _
  by_cases h : q = a
  · subst h
    rw [if_pos rfl]
  · rw [if_neg h]
    rfl
theorem ln_si (S : Cst) (a b q : Nat) (v : Int32) : lnC (siC S a b v) q = lnC S q := by
  show ((if q = a then _ else S.2.2 q) : Cel).2.1 = _
  by_cases h : q = a
  · subst h
    rw [if_pos rfl]
  · rw [if_neg h]
    rfl
theorem n1_si (S : Cst) (a b : Nat) (v : Int32) : (siC S a b v).1 = S.1 := rfl
theorem n2_si (S : Cst) (a b : Nat) (v : Int32) : (siC S a b v).2.1 = S.2.1 := rfl
theorem gr_sr (S : Cst) (a b q k : Nat) (v : Option Nat) : grC (srC S a b v) q k = if q = a ∧ k = b then v else grC S q k := by
  show ((if q = a then _ else S.2.2 q) : Cel).2.2.2 k = _
  by_cases h : q = a
  · subst h
    rw [if_pos rfl]
    show (if k = b then v else grC S q k) = _
    simp
  · rw [if_neg h, if_neg (fun z => h z.1)]
    rfl
theorem gi_sr (S : Cst) (a b q k : Nat) (v : Option Nat) : giC (srC S a b v) q k = giC S q k := by
  show ((if q = a then _ else S.2.2 q) : Cel).2.2.1 k = _
  by_cases h : q = a
  · subst h
    rw [if_pos rfl]
  · rw [if_neg h]
    rfl
theorem kd_sr (S : Cst) (a b q : Nat) (v : Option Nat) : kdC (srC S a b v) q = kdC S q := by
  show ((if q = a then _ else S.2.2 q) : Cel).1 = _
  by_cases h : q = a
  · subst h
    rw [if_pos rfl]
  · rw [if_neg h]
    rfl
theorem ln_sr (S : Cst) (a b q : Nat) (v : Option Nat) : lnC (srC S a b v) q = lnC S q := by
  show ((if q = a then _ else S.2.2 q) : Cel).2.1 = _
  by_cases h : q = a
  · subst h
    rw [if_pos rfl]
  · rw [if_neg h]
    rfl
theorem n1_sr (S : Cst) (a b : Nat) (v : Option Nat) : (srC S a b v).1 = S.1 := rfl
theorem n2_sr (S : Cst) (a b : Nat) (v : Option Nat) : (srC S a b v).2.1 = S.2.1 := rfl
theorem gi_sf (S : Cst) (a q k : Nat) (f : Nat → Int32) : giC (sfC S a f) q k = if q = a then f k else giC S q k := by
  show ((if q = a then _ else S.2.2 q) : Cel).2.2.1 k = _
  by_cases h : q = a
  · subst h
    rw [if_pos rfl, if_pos rfl]
  · rw [if_neg h, if_neg h]
    rfl
theorem gr_sf (S : Cst) (a q k : Nat) (f : Nat → Int32) : grC (sfC S a f) q k = grC S q k := by
  show ((if q = a then _ else S.2.2 q) : Cel).2.2.2 k = _
  by_cases h : q = a
  · subst h
    rw [if_pos rfl]
  · rw [if_neg h]
    rfl
theorem kd_sf (S : Cst) (a q : Nat) (f : Nat → Int32) : kdC (sfC S a f) q = kdC S q := by
  show ((if q = a then _ else S.2.2 q) : Cel).1 = _
  by_cases h : q = a
  · subst h
    rw [if_pos rfl]
  · rw [if_neg h]
    rfl
theorem ln_sf (S : Cst) (a q : Nat) (f : Nat → Int32) : lnC (sfC S a f) q = lnC S q := by
  show ((if q = a then _ else S.2.2 q) : Cel).2.1 = _
  by_cases h : q = a
  · subst h
    rw [if_pos rfl]
  · rw [if_neg h]
    rfl
theorem n1_sf (S : Cst) (a : Nat) (f : Nat → Int32) : (sfC S a f).1 = S.1 := rfl
theorem n2_sf (S : Cst) (a : Nat) (f : Nat → Int32) : (sfC S a f).2.1 = S.2.1 := rfl
theorem ce_si {S : Cst} {a q : Nat} (b : Nat) (v : Int32) (h : q ≠ a) : (siC S a b v).2.2 q = S.2.2 q := if_neg h
theorem ce_sr {S : Cst} {a q : Nat} (b : Nat) (v : Option Nat) (h : q ≠ a) : (srC S a b v).2.2 q = S.2.2 q := if_neg h
theorem ce_sf {S : Cst} {a q : Nat} (f : Nat → Int32) (h : q ≠ a) : (sfC S a f).2.2 q = S.2.2 q := if_neg h
theorem ik_si {S : Cst} {a b q c : Nat} {v : Int32} : iK (siC S a b v) q c ↔ iK S q c := by
  unfold iK
  rw [kd_si]
  exact Iff.rfl
theorem ik_sr {S : Cst} {a b q c : Nat} {v : Option Nat} : iK (srC S a b v) q c ↔ iK S q c := by
  unfold iK
  rw [kd_sr]
  exact Iff.rfl
theorem ik_sf {S : Cst} {a q c : Nat} {f : Nat → Int32} : iK (sfC S a f) q c ↔ iK S q c := by
  unfold iK
  rw [kd_sf]
  exact Iff.rfl
theorem ir_si {S : Cst} {a b c : Nat} {r : Option Nat} {v : Int32} : iR (siC S a b v) r c ↔ iR S r c := and_congr_right (fun _ => ik_si)
theorem ir_sr {S : Cst} {a b c : Nat} {r v : Option Nat} : iR (srC S a b v) r c ↔ iR S r c := and_congr_right (fun _ => ik_sr)
theorem ir_sf {S : Cst} {a c : Nat} {r : Option Nat} {f : Nat → Int32} : iR (sfC S a f) r c ↔ iR S r c := and_congr_right (fun _ => ik_sf)
theorem ir_so {S : Cst} {c z : Nat} : iR S (some z) c ↔ iK S z c := ⟨fun h => h.2, fun h => ⟨fun e => (by cases e), h⟩⟩
/-! ===== every cell is as its kind says ===== -/
def rK (S : Cst) (r : Option Nat) (c : Nat) : Prop := r = none ∨ ∃ z, r = some z ∧ iK S z c
def bZ (v : Int32) : Prop := v = 0 ∨ v = 1
def rg (v : Int32) (lo hi : Int) : Prop := lo ≤ v.toInt ∧ v.toInt ≤ hi
def W0 (S : Cst) (q : Nat) : Prop := (iK S (q + 37) 1 ∧ iK S (q + 1) 4 ∧ iK S (q + 3) 5 ∧ iK S (q + 6) 24 ∧ iK S (q + 7) 2 ∧ iK S (q + 9) 2 ∧ iK S (q + 11) 6) ∧ (grC S q 0 = some (q + 37) ∧ grC S q 1 = some (q + 1) ∧ grC S q 2 = some (q + 3) ∧ grC S q 3 = some (q + 6) ∧ grC S q 4 = some (q + 7) ∧ grC S q 5 = some (q + 9) ∧ grC S q 6 = some (q + 11)) ∧ rK S (grC S q 10) 3
def W1 (S : Cst) (q : Nat) : Prop := (iK S (q + 1) 21 ∧ lnC S (q + 1) = 200 ∧ iK S (q + 2) 20 ∧ lnC S (q + 2) = 9) ∧ (grC S q 1 = some (q + 1) ∧ grC S q 7 = some (q + 2)) ∧ rg (giC S q 0) 0 200
def W2 (S : Cst) (q : Nat) : Prop := ((giC S q 0 = 5 ∨ giC S q 0 = 6 ∨ giC S q 0 = 7) ∧ giC S q 1 = 600 ∧ rg (giC S q 3) 0 600) ∧ iR S (grC S q 2) 20 ∧ (1 ≤ lnC S ((grC S q 2).getD 0) ∧ (lnC S ((grC S q 2).getD 0) : Int) ≤ 600 * (giC S q 0).toInt)
def W3 (S : Cst) (q : Nat) : Prop := (iK S (q + 1) 6 ∧ iK S (q + 3) 22 ∧ lnC S (q + 3) = 200) ∧ (grC S q 12 = some (q + 1) ∧ grC S q 13 = some (q + 3)) ∧ (bZ (giC S q 7) ∧ bZ (giC S q 10) ∧ bZ (giC S q 11)) ∧ rK S (grC S q 15) 3
def W4 (S : Cst) (q : Nat) : Prop := (iK S (q + 1) 23 ∧ lnC S (q + 1) = 9) ∧ grC S q 0 = some (q + 1) ∧ rg (giC S q 1) 0 9
def W5 (S : Cst) (q : Nat) : Prop := iK S (q + 1) 4 ∧ grC S q 1 = some (q + 1)
def W6 (S : Cst) (q : Nat) : Prop := (iK S (q + 1) 20 ∧ lnC S (q + 1) = 400) ∧ grC S q 0 = some (q + 1) ∧ rg (giC S q 1) 0 400
def W7 (S : Cst) (q : Nat) : Prop := iR S (grC S q 0) 0 ∧ iR S (grC S q 1) 0 ∧ rK S (grC S q 2) 0 ∧ rK S (grC S q 3) 0 ∧ iR S (grC S q 4) 2
def W22 (S : Cst) (q : Nat) : Prop := ∀ i, fits .byte (.int (giC S q i)) = true
def W23 (S : Cst) (q : Nat) : Prop := ∀ i, rK S (grC S q i) 3
def W24 (S : Cst) (q : Nat) : Prop := lnC S q = 8 ∧ ∀ i, i < 8 → grC S q i = some (q + 7 + 3 * i) ∧ iK S (q + 7 + 3 * i) 5
def wfS (S : Cst) : Prop := clS S ∧ ∀ q, (iK S q 0 → W0 S q) ∧ (iK S q 1 → W1 S q) ∧ (iK S q 2 → W2 S q) ∧ (iK S q 3 → W3 S q) ∧ (iK S q 4 → W4 S q) ∧ (iK S q 5 → W5 S q) ∧ (iK S q 6 → W6 S q) ∧ (iK S q 7 → W7 S q) ∧ (iK S q 22 → W22 S q) ∧ (iK S q 23 → W23 S q) ∧ (iK S q 24 → W24 S q)
theorem wfS.w0 {S : Cst} (h : wfS S) {q : Nat} (k : iK S q 0) : W0 S q := (h.2 q).1 k
theorem wfS.w1 {S : Cst} (h : wfS S) {q : Nat} (k : iK S q 1) : W1 S q := (h.2 q).2.1 k
theorem wfS.w2 {S : Cst} (h : wfS S) {q : Nat} (k : iK S q 2) : W2 S q := (h.2 q).2.2.1 k
theorem wfS.w3 {S : Cst} (h : wfS S) {q : Nat} (k : iK S q 3) : W3 S q := (h.2 q).2.2.2.1 k
theorem wfS.w4 {S : Cst} (h : wfS S) {q : Nat} (k : iK S q 4) : W4 S q := (h.2 q).2.2.2.2.1 k
theorem wfS.w5 {S : Cst} (h : wfS S) {q : Nat} (k : iK S q 5) : W5 S q := (h.2 q).2.2.2.2.2.1 k
theorem wfS.w6 {S : Cst} (h : wfS S) {q : Nat} (k : iK S q 6) : W6 S q := (h.2 q).2.2.2.2.2.2.1 k
theorem wfS.w7 {S : Cst} (h : wfS S) {q : Nat} (k : iK S q 7) : W7 S q := (h.2 q).2.2.2.2.2.2.2.1 k
theorem wfS.w22 {S : Cst} (h : wfS S) {q : Nat} (k : iK S q 22) : W22 S q := (h.2 q).2.2.2.2.2.2.2.2.1 k
theorem wfS.w23 {S : Cst} (h : wfS S) {q : Nat} (k : iK S q 23) : W23 S q := (h.2 q).2.2.2.2.2.2.2.2.2.1 k
theorem wfS.w24 {S : Cst} (h : wfS S) {q : Nat} (k : iK S q 24) : W24 S q := (h.2 q).2.2.2.2.2.2.2.2.2.2 k
/-- which number may stand at field k of a cell of a kind; which reference -/
def okI (c k : Nat) (v : Int32) : Prop := (c = 1 → k = 0 → rg v 0 200) ∧ (c = 2 → k = 3 ∧ rg v 0 600) ∧ (c = 3 → k = 7 ∨ k = 10 ∨ k = 11 → bZ v) ∧ (c = 4 → k = 1 → rg v 0 9) ∧ (c = 6 → k = 1 → rg v 0 400) ∧ (c = 22 → fits .byte (.int v) = true)
theorem wf_si {S : Cst} {a b : Nat} {v : Int32} (h : wfS S) (ok : okI (kdC S a) b v) : wfS (siC S a b v) := by
  obtain ⟨o1, o2, o3, o4, o6, o22⟩ := ok
  refine ⟨fun q hq k z e => ?_, fun q => ⟨fun k => ?_, fun k => ?_, fun k => ?_, fun k => ?_, fun k => ?_, fun k => ?_, fun k => ?_, fun k => ?_, fun k => ?_, fun k => ?_, fun k => ?_⟩⟩
  · rw [gr_si] at e
    exact h.1 q hq k z e
  · have w := h.w0 (ik_si.mp k)
    unfold W0 rK at w ⊢
    simp only [gi_si, gr_si, ik_si]
    exact w
  · have k := ik_si.mp k
    have w := h.w1 k
    unfold W1 at w ⊢
    simp only [gi_si, gr_si, ik_si, ln_si]
    refine ⟨w.1, w.2.1, ?_⟩
    split
    · next e => exact o1 (by rw [← e.1]; exact k.2) e.2.symm
    · exact w.2.2
  · have k := ik_si.mp k
    have w := h.w2 k
    unfold W2 at w ⊢
    simp only [gi_si, gr_si, ln_si, ir_si]
    by_cases z : q = a
    · have o2 := o2 (by rw [← z]; exact k.2)
      rw [if_neg (fun e => by have := e.2; omega), if_neg (fun e => by have := e.2; omega), if_pos ⟨z, o2.1.symm⟩]
      exact ⟨⟨w.1.1, w.1.2.1, o2.2⟩, w.2⟩
    · rw [if_neg (fun e => z e.1), if_neg (fun e => z e.1), if_neg (fun e => z e.1)]
      exact w
  · have k := ik_si.mp k
    have w := h.w3 k
    unfold W3 rK at w ⊢
    simp only [gi_si, gr_si, ik_si, ln_si]
    refine ⟨w.1, w.2.1, ⟨?_, ?_, ?_⟩, w.2.2.2⟩
    · split
      · next e => exact o3 (by rw [← e.1]; exact k.2) (by have := e.2; omega)
      · exact w.2.2.1.1
    · split
      · next e => exact o3 (by rw [← e.1]; exact k.2) (by have := e.2; omega)
      · exact w.2.2.1.2.1
    · split
      · next e => exact o3 (by rw [← e.1]; exact k.2) (by have := e.2; omega)
      · exact w.2.2.1.2.2
  · have k := ik_si.mp k
    have w := h.w4 k
    unfold W4 at w ⊢
    simp only [gi_si, gr_si, ik_si, ln_si]
    refine ⟨w.1, w.2.1, ?_⟩
    split
    · next e => exact o4 (by rw [← e.1]; exact k.2) e.2.symm
    · exact w.2.2
  · have w := h.w5 (ik_si.mp k)
    unfold W5 at w ⊢
    simp only [gr_si, ik_si]
    exact w
  · have k := ik_si.mp k
    have w := h.w6 k
    unfold W6 at w ⊢
    simp only [gi_si, gr_si, ik_si, ln_si]
    refine ⟨w.1, w.2.1, ?_⟩
    split
    · next e => exact o6 (by rw [← e.1]; exact k.2) e.2.symm
    · exact w.2.2
  · have w := h.w7 (ik_si.mp k)
    unfold W7 rK at w ⊢
    simp only [gr_si, ik_si, ir_si]
    exact w
  · have k := ik_si.mp k
    have w := h.w22 k
    intro i
    rw [gi_si]
    split
    · next e => exact o22 (by rw [← e.1]; exact k.2)
    · exact w i
  · have w := h.w23 (ik_si.mp k)
    intro i
    have w := w i
    unfold rK at w ⊢
    simp only [gr_si, ik_si]
    exact w
  · have w := h.w24 (ik_si.mp k)
    unfold W24 at w ⊢
    simp only [gr_si, ik_si, ln_si]
    exact w
def okR (S : Cst) (a b : Nat) (v : Option Nat) : Prop := (∀ z, v = some z → z < S.1) ∧ (kdC S a = 0 → b = 10 ∧ rK S v 3) ∧ (kdC S a = 1 → False) ∧ (kdC S a = 2 → b = 2 ∧ iR S v 20 ∧ 1 ≤ lnC S (v.getD 0) ∧ (lnC S (v.getD 0) : Int) ≤ 600 * (giC S a 0).toInt) ∧ (kdC S a = 3 → b = 15 ∧ rK S v 3) ∧ (kdC S a = 4 → False) ∧ (kdC S a = 5 → False) ∧ (kdC S a = 6 → False) ∧ (kdC S a = 7 → (b = 2 ∨ b = 3) ∧ rK S v 0) ∧ (kdC S a = 23 → rK S v 3) ∧ (kdC S a = 24 → False)
theorem wf_sr {S : Cst} {a b : Nat} {v : Option Nat} (h : wfS S) (ok : okR S a b v) : wfS (srC S a b v) := by
  obtain ⟨o, o0, o1, o2, o3, o4, o5, o6, o7, o23, o24⟩ := ok
  refine ⟨fun q hq k z e => ?_, fun q => ⟨fun k => ?_, fun k => ?_, fun k => ?_, fun k => ?_, fun k => ?_, fun k => ?_, fun k => ?_, fun k => ?_, fun k => ?_, fun k => ?_, fun k => ?_⟩⟩
  · rw [gr_sr] at e
    split at e
    · exact o z e
    · exact h.1 q hq k z e
  · have k := ik_sr.mp k
    have w := h.w0 k
    unfold W0 rK at w ⊢
    simp only [gr_sr, ik_sr]
    by_cases e : q = a
    · have o0 := o0 (by rw [← e]; exact k.2)
      rw [if_neg (fun e => by have := e.2; omega), if_neg (fun e => by have := e.2; omega), if_neg (fun e => by have := e.2; omega), if_neg (fun e => by have := e.2; omega), if_neg (fun e => by have := e.2; omega), if_neg (fun e => by have := e.2; omega), if_neg (fun e => by have := e.2; omega), if_pos ⟨e, o0.1.symm⟩]
      exact ⟨w.1, w.2.1, o0.2⟩
    · simp only [e, false_and, if_false]
      exact w
  · have k := ik_sr.mp k
    have w := h.w1 k
    have e : q ≠ a := fun e => o1 (by rw [← e]; exact k.2)
    unfold W1 at w ⊢
    simp only [gi_sr, gr_sr, ik_sr, ln_sr, e, false_and, if_false]
    exact w
  · have k := ik_sr.mp k
    have w := h.w2 k
    unfold W2 at w ⊢
    simp only [gi_sr, gr_sr, ln_sr, ir_sr]
    by_cases e : q = a
    · have o2 := o2 (by rw [← e]; exact k.2)
      rw [if_pos ⟨e, o2.1.symm⟩]
      rw [e] at w ⊢
      exact ⟨w.1, o2.2.1, o2.2.2⟩
    · simp only [e, false_and, if_false]
      exact w
  · have k := ik_sr.mp k
    have w := h.w3 k
    unfold W3 rK at w ⊢
    simp only [gi_sr, gr_sr, ik_sr, ln_sr]
    by_cases e : q = a
    · have o3 := o3 (by rw [← e]; exact k.2)
      rw [if_neg (fun e => by have := e.2; omega), if_neg (fun e => by have := e.2; omega), if_pos ⟨e, o3.1.symm⟩]
      exact ⟨w.1, w.2.1, w.2.2.1, o3.2⟩
    · simp only [e, false_and, if_false]
      exact w
  · have k := ik_sr.mp k
    have w := h.w4 k
    have e : q ≠ a := fun e => o4 (by rw [← e]; exact k.2)
    unfold W4 at w ⊢
    simp only [gi_sr, gr_sr, ik_sr, ln_sr, e, false_and, if_false]
    exact w
  · have k := ik_sr.mp k
    have w := h.w5 k
    have e : q ≠ a := fun e => o5 (by rw [← e]; exact k.2)
    unfold W5 at w ⊢
    simp only [gr_sr, ik_sr, e, false_and, if_false]
    exact w
  · have k := ik_sr.mp k
    have w := h.w6 k
    have e : q ≠ a := fun e => o6 (by rw [← e]; exact k.2)
    unfold W6 at w ⊢
    simp only [gi_sr, gr_sr, ik_sr, ln_sr, e, false_and, if_false]
    exact w
  · have k := ik_sr.mp k
    have w := h.w7 k
    unfold W7 rK at w ⊢
    simp only [gr_sr, ik_sr, ir_sr]
    by_cases e : q = a
    · obtain ⟨o7, o8⟩ := o7 (by rw [← e]; exact k.2)
      rw [if_neg (show ¬ (q = a ∧ 0 = b) from fun e => by have := e.2; omega), if_neg (show ¬ (q = a ∧ 1 = b) from fun e => by have := e.2; omega), if_neg (show ¬ (q = a ∧ 4 = b) from fun e => by have := e.2; omega)]
      refine ⟨w.1, w.2.1, ?_, ?_, w.2.2.2.2⟩
      · split
        · exact o8
        · exact w.2.2.1
      · split
        · exact o8
        · exact w.2.2.2.1
    · simp only [e, false_and, if_false]
      exact w
  · have w := h.w22 (ik_sr.mp k)
    intro i
    rw [gi_sr]
    exact w i
  · have k := ik_sr.mp k
    have w := h.w23 k
    intro i
    have w := w i
    unfold rK at w ⊢
    simp only [gr_sr, ik_sr]
    split
    · next e => exact o23 (by rw [← e.1]; exact k.2)
    · exact w
  · have k := ik_sr.mp k
    have w := h.w24 k
    have e : q ≠ a := fun e => o24 (by rw [← e]; exact k.2)
    unfold W24 at w ⊢
    simp only [gr_sr, ik_sr, ln_sr, e, false_and, if_false]
    exact w
theorem wf_sf {S : Cst} {a : Nat} {f : Nat → Int32} (h : wfS S) (ok : kdC S a = 20 ∨ kdC S a = 21 ∨ (kdC S a = 22 ∧ ∀ i, fits .byte (.int (f i)) = true)) : wfS (sfC S a f) := by
  have ne : ∀ q c, c < 20 → iK S q c → q ≠ a := fun q c hc k e => by
    have := k.2
    rw [e] at this
    omega
  refine ⟨fun q hq k z e => ?_, fun q => ⟨fun k => ?_, fun k => ?_, fun k => ?_, fun k => ?_, fun k => ?_, fun k => ?_, fun k => ?_, fun k => ?_, fun k => ?_, fun k => ?_, fun k => ?_⟩⟩
  · rw [gr_sf] at e
    exact h.1 q hq k z e
  · have w := h.w0 (ik_sf.mp k)
    unfold W0 rK at w ⊢
    simp only [gr_sf, ik_sf]
    exact w
  · have k := ik_sf.mp k
    have w := h.w1 k
    unfold W1 at w ⊢
    simp only [gi_sf, gr_sf, ik_sf, ln_sf, ne q 1 (by omega) k, if_false]
    exact w
  · have k := ik_sf.mp k
    have w := h.w2 k
    unfold W2 at w ⊢
    simp only [gi_sf, gr_sf, ln_sf, ir_sf, ne q 2 (by omega) k, if_false]
    exact w
  · have k := ik_sf.mp k
    have w := h.w3 k
    unfold W3 rK at w ⊢
    simp only [gi_sf, gr_sf, ik_sf, ln_sf, ne q 3 (by omega) k, if_false]
    exact w
  · have k := ik_sf.mp k
    have w := h.w4 k
    unfold W4 at w ⊢
    simp only [gi_sf, gr_sf, ik_sf, ln_sf, ne q 4 (by omega) k, if_false]
    exact w
  · have w := h.w5 (ik_sf.mp k)
    unfold W5 at w ⊢
    simp only [gr_sf, ik_sf]
    exact w
  · have k := ik_sf.mp k
    have w := h.w6 k
    unfold W6 at w ⊢
    simp only [gi_sf, gr_sf, ik_sf, ln_sf, ne q 6 (by omega) k, if_false]
    exact w
  · have w := h.w7 (ik_sf.mp k)
    unfold W7 rK at w ⊢
    simp only [gr_sf, ik_sf, ir_sf]
    exact w
  · have k := ik_sf.mp k
    have w := h.w22 k
    intro i
    rw [gi_sf]
    split
    · next e =>
      rcases ok with o | o | o
      · rw [← e, k.2] at o; cases o
      · rw [← e, k.2] at o; cases o
      · exact o.2 i
    · exact w i
  · have w := h.w23 (ik_sf.mp k)
    intro i
    have w := w i
    unfold rK at w ⊢
    simp only [gr_sf, ik_sf]
    exact w
  · have w := h.w24 (ik_sf.mp k)
    unfold W24 at w ⊢
    simp only [gr_sf, ik_sf, ln_sf]
    exact w
end
section
/-! ===== the class's readers: safe in every well-formed store ===== -/
theorem iteI {c A B : Prop} {inst : Decidable c} (f : c → A) (g : ¬ c → B) : @ite Prop c inst A B := by
  by_cases z : c
  · rw [if_pos z]
    exact f z
  · rw [if_neg z]
    exact g z
theorem y_sizeWith (S : Cst) (x : Nat) (a b c : Int32) : p_Y9_sizeWith S x a b c := trivial
theorem ir_k {S : Cst} {r : Option Nat} {c : Nat} (h : iR S r c) : iK S (r.getD 0) c := h.2
theorem ir_of {S : Cst} {r : Option Nat} {z c : Nat} (e : r = some z) (k : iK S z c) : iR S r c := by
  rw [e]
  exact ir_so.mpr k
theorem rk_ir {S : Cst} {r : Option Nat} {c : Nat} (h : rK S r c) (n : ¬ r = none) : iR S r c := by
  rcases h with e | ⟨z, e, k⟩
  · exact absurd e n
  · exact ir_of e k
theorem g0_0 {S : Cst} {q : Nat} (h : wfS S) (k : iK S q 0) : iR S (grC S q 0) 1 := ir_of (h.w0 k).2.1.1 (h.w0 k).1.1
theorem g0_1 {S : Cst} {q : Nat} (h : wfS S) (k : iK S q 0) : iR S (grC S q 1) 4 := ir_of (h.w0 k).2.1.2.1 (h.w0 k).1.2.1
theorem g0_2 {S : Cst} {q : Nat} (h : wfS S) (k : iK S q 0) : iR S (grC S q 2) 5 := ir_of (h.w0 k).2.1.2.2.1 (h.w0 k).1.2.2.1
theorem g0_3 {S : Cst} {q : Nat} (h : wfS S) (k : iK S q 0) : iR S (grC S q 3) 24 := ir_of (h.w0 k).2.1.2.2.2.1 (h.w0 k).1.2.2.2.1
theorem g0_4 {S : Cst} {q : Nat} (h : wfS S) (k : iK S q 0) : iR S (grC S q 4) 2 := ir_of (h.w0 k).2.1.2.2.2.2.1 (h.w0 k).1.2.2.2.2.1
theorem g0_5 {S : Cst} {q : Nat} (h : wfS S) (k : iK S q 0) : iR S (grC S q 5) 2 := ir_of (h.w0 k).2.1.2.2.2.2.2.1 (h.w0 k).1.2.2.2.2.2.1
theorem g0_6 {S : Cst} {q : Nat} (h : wfS S) (k : iK S q 0) : iR S (grC S q 6) 6 := ir_of (h.w0 k).2.1.2.2.2.2.2.2 (h.w0 k).1.2.2.2.2.2.2
theorem g1_1 {S : Cst} {q : Nat} (h : wfS S) (k : iK S q 1) : iR S (grC S q 1) 21 := ir_of (h.w1 k).2.1.1 (h.w1 k).1.1
theorem g1_7 {S : Cst} {q : Nat} (h : wfS S) (k : iK S q 1) : iR S (grC S q 7) 20 := ir_of (h.w1 k).2.1.2 (h.w1 k).1.2.2.1
theorem g2_2 {S : Cst} {q : Nat} (h : wfS S) (k : iK S q 2) : iR S (grC S q 2) 20 := (h.w2 k).2.1
theorem g3_12 {S : Cst} {q : Nat} (h : wfS S) (k : iK S q 3) : iR S (grC S q 12) 6 := ir_of (h.w3 k).2.1.1 (h.w3 k).1.1
theorem g3_13 {S : Cst} {q : Nat} (h : wfS S) (k : iK S q 3) : iR S (grC S q 13) 22 := ir_of (h.w3 k).2.1.2 (h.w3 k).1.2.1
theorem g4_0 {S : Cst} {q : Nat} (h : wfS S) (k : iK S q 4) : iR S (grC S q 0) 23 := ir_of (h.w4 k).2.1 (h.w4 k).1.1
theorem g5_1 {S : Cst} {q : Nat} (h : wfS S) (k : iK S q 5) : iR S (grC S q 1) 4 := ir_of (h.w5 k).2 (h.w5 k).1
theorem g6_0 {S : Cst} {q : Nat} (h : wfS S) (k : iK S q 6) : iR S (grC S q 0) 20 := ir_of (h.w6 k).2.1 (h.w6 k).1.1
theorem g7_0 {S : Cst} {q : Nat} (h : wfS S) (k : iK S q 7) : iR S (grC S q 0) 0 := (h.w7 k).1
theorem g7_1 {S : Cst} {q : Nat} (h : wfS S) (k : iK S q 7) : iR S (grC S q 1) 0 := (h.w7 k).2.1
theorem g7_4 {S : Cst} {q : Nat} (h : wfS S) (k : iK S q 7) : iR S (grC S q 4) 2 := (h.w7 k).2.2.2.2
theorem ix_lt {x : Int32} {n : Nat} (h : ¬ x < 0) (g : x < Int32.ofNat n) : vp_in x n := by
  have h := mt iLt.mpr h
  have g := iLt.mp g
  rw [i0] at h
  refine vIn (by omega) ?_
  have e : (Int32.ofNat n).toInt ≤ n := by
    by_cases c : n < 2 ^ 31
    · rw [Int32.toInt_ofNat_of_lt c]
      omega
    · have := Int32.toInt_lt (Int32.ofNat n)
      omega
  omega
theorem ix_ge {x : Int32} {n : Nat} (h : ¬ x < 0) (g : ¬ Int32.ofNat n ≤ x) : vp_in x n := ix_lt h (iLt.mpr (by have := mt iLe.mpr g; omega))
theorem ix_l1 {x : Int32} {n : Nat} (h : ¬ x < 1) (g : x < Int32.ofNat n) : vp_in x n := ix_lt (fun z => h (iLt.mpr (by have := iLt.mp z; rw [i0] at this; rw [i1]; omega))) g
theorem y_has {S : Cst} {x : Nat} (h : wfS S) (k : iK S x 1) (a : Int32) : p_Y2_has S x a := by
  unfold p_Y2_has
  simp only [q_Y2_has_26, q_Y2_has_25]
  repeat' (first | with_reducible (first | exact trivial | assumption | exact nB0 | exact nB1 | refine And.intro ?_ ?_ | refine iteI (fun _ => ?_) (fun _ => ?_) | refine ir_k ?_ | refine g0_0 h ?_ | exact g5_1 h (by assumption) | exact g0_1 h (by assumption) | refine g5_1 h (ir_k (g0_2 h ?_)) | refine g0_1 h (ir_k (g7_0 h ?_)) | refine g0_1 h (ir_k (g7_1 h ?_)) | refine g5_1 h ?_ | refine g0_2 h ?_ | refine g0_3 h ?_ | exact g7_4 h (by assumption) | refine g0_4 h ?_ | refine g0_5 h ?_ | refine g0_6 h ?_ | refine g1_1 h ?_ | refine g1_7 h ?_ | refine g2_2 h ?_ | refine g3_12 h ?_ | refine g3_13 h ?_ | refine g4_0 h ?_ | refine g6_0 h ?_ | refine g7_0 h ?_ | refine g7_1 h ?_ | exact ix_lt (by assumption) (by assumption) | exact ix_ge (by assumption) (by assumption) | exact ix_l1 (by assumption) (by assumption) | exact rk_ir (by assumption) (by assumption) | exact y_sizeWith _ _ _ _ _) | split)
theorem y_isThere {S : Cst} {x : Nat} (h : wfS S) (k : iK S x 1) (a : Int32) : p_Y2_isThere S x a := by
  unfold p_Y2_isThere
  simp only [q_Y2_isThere_35, q_Y2_isThere_34]
  repeat' (first | with_reducible (first | exact trivial | assumption | exact nB0 | exact nB1 | refine And.intro ?_ ?_ | refine iteI (fun _ => ?_) (fun _ => ?_) | refine ir_k ?_ | refine g0_0 h ?_ | exact g5_1 h (by assumption) | exact g0_1 h (by assumption) | refine g5_1 h (ir_k (g0_2 h ?_)) | refine g0_1 h (ir_k (g7_0 h ?_)) | refine g0_1 h (ir_k (g7_1 h ?_)) | refine g5_1 h ?_ | refine g0_2 h ?_ | refine g0_3 h ?_ | exact g7_4 h (by assumption) | refine g0_4 h ?_ | refine g0_5 h ?_ | refine g0_6 h ?_ | refine g1_1 h ?_ | refine g1_7 h ?_ | refine g2_2 h ?_ | refine g3_12 h ?_ | refine g3_13 h ?_ | refine g4_0 h ?_ | refine g6_0 h ?_ | refine g7_0 h ?_ | refine g7_1 h ?_ | exact ix_lt (by assumption) (by assumption) | exact ix_ge (by assumption) (by assumption) | exact ix_l1 (by assumption) (by assumption) | exact rk_ir (by assumption) (by assumption) | refine y_has h ?_ _ | exact y_sizeWith _ _ _ _ _) | split)
theorem y_hasFloor (S : Cst) (x : Nat) (a : Int32) : p_Y2_hasFloor S x a := by
  unfold p_Y2_hasFloor
  simp only [q_Y2_hasFloor_18, q_Y2_hasFloor_17]
  repeat' (first | with_reducible (first | exact trivial | assumption | exact nB0 | exact nB1 | refine And.intro ?_ ?_ | refine iteI (fun _ => ?_) (fun _ => ?_) | refine ir_k ?_ | refine g0_0 h ?_ | exact g5_1 h (by assumption) | exact g0_1 h (by assumption) | refine g5_1 h (ir_k (g0_2 h ?_)) | refine g0_1 h (ir_k (g7_0 h ?_)) | refine g0_1 h (ir_k (g7_1 h ?_)) | refine g5_1 h ?_ | refine g0_2 h ?_ | refine g0_3 h ?_ | exact g7_4 h (by assumption) | refine g0_4 h ?_ | refine g0_5 h ?_ | refine g0_6 h ?_ | refine g1_1 h ?_ | refine g1_7 h ?_ | refine g2_2 h ?_ | refine g3_12 h ?_ | refine g3_13 h ?_ | refine g4_0 h ?_ | refine g6_0 h ?_ | refine g7_0 h ?_ | refine g7_1 h ?_ | exact ix_lt (by assumption) (by assumption) | exact ix_ge (by assumption) (by assumption) | exact ix_l1 (by assumption) (by assumption) | exact rk_ir (by assumption) (by assumption) | refine y_has h ?_ _ | refine y_isThere h ?_ _ | exact y_sizeWith _ _ _ _ _) | split)
theorem y_hasQuorum (S : Cst) (x : Nat) : p_Y2_hasQuorum S x := by
  unfold p_Y2_hasQuorum
  simp only [q_Y2_hasQuorum_16]
  repeat' (first | with_reducible (first | exact trivial | assumption | exact nB0 | exact nB1 | refine And.intro ?_ ?_ | refine iteI (fun _ => ?_) (fun _ => ?_) | refine ir_k ?_ | refine g0_0 h ?_ | exact g5_1 h (by assumption) | exact g0_1 h (by assumption) | refine g5_1 h (ir_k (g0_2 h ?_)) | refine g0_1 h (ir_k (g7_0 h ?_)) | refine g0_1 h (ir_k (g7_1 h ?_)) | refine g5_1 h ?_ | refine g0_2 h ?_ | refine g0_3 h ?_ | exact g7_4 h (by assumption) | refine g0_4 h ?_ | refine g0_5 h ?_ | refine g0_6 h ?_ | refine g1_1 h ?_ | refine g1_7 h ?_ | refine g2_2 h ?_ | refine g3_12 h ?_ | refine g3_13 h ?_ | refine g4_0 h ?_ | refine g6_0 h ?_ | refine g7_0 h ?_ | refine g7_1 h ?_ | exact ix_lt (by assumption) (by assumption) | exact ix_ge (by assumption) (by assumption) | exact ix_l1 (by assumption) (by assumption) | exact rk_ir (by assumption) (by assumption) | refine y_has h ?_ _ | refine y_isThere h ?_ _ | exact y_hasFloor _ _ _ | exact y_sizeWith _ _ _ _ _) | split)
theorem y_voteOf {S : Cst} {x : Nat} (h : wfS S) (k : iK S x 3) (a : Int32) : p_Y4_voteOf S x a := by
  unfold p_Y4_voteOf
  simp only [q_Y4_voteOf_25, q_Y4_voteOf_13]
  repeat' (first | with_reducible (first | exact trivial | assumption | exact nB0 | exact nB1 | refine And.intro ?_ ?_ | refine iteI (fun _ => ?_) (fun _ => ?_) | refine ir_k ?_ | refine g0_0 h ?_ | exact g5_1 h (by assumption) | exact g0_1 h (by assumption) | refine g5_1 h (ir_k (g0_2 h ?_)) | refine g0_1 h (ir_k (g7_0 h ?_)) | refine g0_1 h (ir_k (g7_1 h ?_)) | refine g5_1 h ?_ | refine g0_2 h ?_ | refine g0_3 h ?_ | exact g7_4 h (by assumption) | refine g0_4 h ?_ | refine g0_5 h ?_ | refine g0_6 h ?_ | refine g1_1 h ?_ | refine g1_7 h ?_ | refine g2_2 h ?_ | refine g3_12 h ?_ | refine g3_13 h ?_ | refine g4_0 h ?_ | refine g6_0 h ?_ | refine g7_0 h ?_ | refine g7_1 h ?_ | exact ix_lt (by assumption) (by assumption) | exact ix_ge (by assumption) (by assumption) | exact ix_l1 (by assumption) (by assumption) | exact rk_ir (by assumption) (by assumption) | refine y_has h ?_ _ | refine y_isThere h ?_ _ | exact y_hasFloor _ _ _ | exact y_hasQuorum _ _ | exact y_sizeWith _ _ _ _ _) | split)
theorem y_isMajority {S : Cst} {x : Nat} (h : wfS S) (k : iK S x 1) (a b c : Int32) : p_Y2_isMajority S x a b c := by
  unfold p_Y2_isMajority
  simp only [q_Y2_isMajority_85, q_Y2_isMajority_69, q_Y2_isMajority_68, q_Y2_isMajority_42, q_Y2_isMajority_24, q_Y2_isMajority_14]
  repeat' (first | with_reducible (first | exact trivial | assumption | exact nB0 | exact nB1 | refine And.intro ?_ ?_ | refine iteI (fun _ => ?_) (fun _ => ?_) | refine ir_k ?_ | refine g0_0 h ?_ | exact g5_1 h (by assumption) | exact g0_1 h (by assumption) | refine g5_1 h (ir_k (g0_2 h ?_)) | refine g0_1 h (ir_k (g7_0 h ?_)) | refine g0_1 h (ir_k (g7_1 h ?_)) | refine g5_1 h ?_ | refine g0_2 h ?_ | refine g0_3 h ?_ | exact g7_4 h (by assumption) | refine g0_4 h ?_ | refine g0_5 h ?_ | refine g0_6 h ?_ | refine g1_1 h ?_ | refine g1_7 h ?_ | refine g2_2 h ?_ | refine g3_12 h ?_ | refine g3_13 h ?_ | refine g4_0 h ?_ | refine g6_0 h ?_ | refine g7_0 h ?_ | refine g7_1 h ?_ | exact ix_lt (by assumption) (by assumption) | exact ix_ge (by assumption) (by assumption) | exact ix_l1 (by assumption) (by assumption) | exact rk_ir (by assumption) (by assumption) | refine y_has h ?_ _ | refine y_isThere h ?_ _ | exact y_hasFloor _ _ _ | exact y_hasQuorum _ _ | refine y_voteOf h ?_ _ | exact y_sizeWith _ _ _ _ _) | split)
theorem y_isFull (S : Cst) (x : Nat) : p_Y3_isFull S x := by
  unfold p_Y3_isFull
  simp only [q_Y3_isFull_16]
  repeat' (first | with_reducible (first | exact trivial | assumption | exact nB0 | exact nB1 | refine And.intro ?_ ?_ | refine iteI (fun _ => ?_) (fun _ => ?_) | refine ir_k ?_ | refine g0_0 h ?_ | exact g5_1 h (by assumption) | exact g0_1 h (by assumption) | refine g5_1 h (ir_k (g0_2 h ?_)) | refine g0_1 h (ir_k (g7_0 h ?_)) | refine g0_1 h (ir_k (g7_1 h ?_)) | refine g5_1 h ?_ | refine g0_2 h ?_ | refine g0_3 h ?_ | exact g7_4 h (by assumption) | refine g0_4 h ?_ | refine g0_5 h ?_ | refine g0_6 h ?_ | refine g1_1 h ?_ | refine g1_7 h ?_ | refine g2_2 h ?_ | refine g3_12 h ?_ | refine g3_13 h ?_ | refine g4_0 h ?_ | refine g6_0 h ?_ | refine g7_0 h ?_ | refine g7_1 h ?_ | exact ix_lt (by assumption) (by assumption) | exact ix_ge (by assumption) (by assumption) | exact ix_l1 (by assumption) (by assumption) | exact rk_ir (by assumption) (by assumption) | refine y_has h ?_ _ | refine y_isThere h ?_ _ | exact y_hasFloor _ _ _ | exact y_hasQuorum _ _ | refine y_voteOf h ?_ _ | refine y_isMajority h ?_ _ _ _ | exact y_sizeWith _ _ _ _ _) | split)
theorem y_ledAt {S : Cst} {x : Nat} (h : wfS S) (k : iK S x 2) (a b : Int32) : p_Y3_at S x a b := by
  unfold p_Y3_at
  simp only [q_Y3_at_24, q_Y3_at_58, q_Y3_at_48]
  repeat' (first | with_reducible (first | exact trivial | assumption | exact nB0 | exact nB1 | refine And.intro ?_ ?_ | refine iteI (fun _ => ?_) (fun _ => ?_) | refine ir_k ?_ | refine g0_0 h ?_ | exact g5_1 h (by assumption) | exact g0_1 h (by assumption) | refine g5_1 h (ir_k (g0_2 h ?_)) | refine g0_1 h (ir_k (g7_0 h ?_)) | refine g0_1 h (ir_k (g7_1 h ?_)) | refine g5_1 h ?_ | refine g0_2 h ?_ | refine g0_3 h ?_ | exact g7_4 h (by assumption) | refine g0_4 h ?_ | refine g0_5 h ?_ | refine g0_6 h ?_ | refine g1_1 h ?_ | refine g1_7 h ?_ | refine g2_2 h ?_ | refine g3_12 h ?_ | refine g3_13 h ?_ | refine g4_0 h ?_ | refine g6_0 h ?_ | refine g7_0 h ?_ | refine g7_1 h ?_ | exact ix_lt (by assumption) (by assumption) | exact ix_ge (by assumption) (by assumption) | exact ix_l1 (by assumption) (by assumption) | exact rk_ir (by assumption) (by assumption) | refine y_has h ?_ _ | refine y_isThere h ?_ _ | exact y_hasFloor _ _ _ | exact y_hasQuorum _ _ | refine y_voteOf h ?_ _ | refine y_isMajority h ?_ _ _ _ | exact y_isFull _ _ | exact y_sizeWith _ _ _ _ _) | split)
theorem y_mNeeds (S : Cst) (x : Nat) : p_Y4_needsPlace S x := by
  unfold p_Y4_needsPlace
  simp only [q_Y4_needsPlace_30, q_Y4_needsPlace_25]
  repeat' (first | with_reducible (first | exact trivial | assumption | exact nB0 | exact nB1 | refine And.intro ?_ ?_ | refine iteI (fun _ => ?_) (fun _ => ?_) | refine ir_k ?_ | refine g0_0 h ?_ | exact g5_1 h (by assumption) | exact g0_1 h (by assumption) | refine g5_1 h (ir_k (g0_2 h ?_)) | refine g0_1 h (ir_k (g7_0 h ?_)) | refine g0_1 h (ir_k (g7_1 h ?_)) | refine g5_1 h ?_ | refine g0_2 h ?_ | refine g0_3 h ?_ | exact g7_4 h (by assumption) | refine g0_4 h ?_ | refine g0_5 h ?_ | refine g0_6 h ?_ | refine g1_1 h ?_ | refine g1_7 h ?_ | refine g2_2 h ?_ | refine g3_12 h ?_ | refine g3_13 h ?_ | refine g4_0 h ?_ | refine g6_0 h ?_ | refine g7_0 h ?_ | refine g7_1 h ?_ | exact ix_lt (by assumption) (by assumption) | exact ix_ge (by assumption) (by assumption) | exact ix_l1 (by assumption) (by assumption) | exact rk_ir (by assumption) (by assumption) | refine y_has h ?_ _ | refine y_isThere h ?_ _ | exact y_hasFloor _ _ _ | exact y_hasQuorum _ _ | refine y_voteOf h ?_ _ | refine y_isMajority h ?_ _ _ _ | exact y_isFull _ _ | refine y_ledAt h ?_ _ _ | exact y_sizeWith _ _ _ _ _) | split)
theorem y_amends (S : Cst) (x : Nat) : p_Y4_amends S x := by
  unfold p_Y4_amends
  simp only [q_Y4_amends_21, q_Y4_amends_16]
  repeat' (first | with_reducible (first | exact trivial | assumption | exact nB0 | exact nB1 | refine And.intro ?_ ?_ | refine iteI (fun _ => ?_) (fun _ => ?_) | refine ir_k ?_ | refine g0_0 h ?_ | exact g5_1 h (by assumption) | exact g0_1 h (by assumption) | refine g5_1 h (ir_k (g0_2 h ?_)) | refine g0_1 h (ir_k (g7_0 h ?_)) | refine g0_1 h (ir_k (g7_1 h ?_)) | refine g5_1 h ?_ | refine g0_2 h ?_ | refine g0_3 h ?_ | exact g7_4 h (by assumption) | refine g0_4 h ?_ | refine g0_5 h ?_ | refine g0_6 h ?_ | refine g1_1 h ?_ | refine g1_7 h ?_ | refine g2_2 h ?_ | refine g3_12 h ?_ | refine g3_13 h ?_ | refine g4_0 h ?_ | refine g6_0 h ?_ | refine g7_0 h ?_ | refine g7_1 h ?_ | exact ix_lt (by assumption) (by assumption) | exact ix_ge (by assumption) (by assumption) | exact ix_l1 (by assumption) (by assumption) | exact rk_ir (by assumption) (by assumption) | refine y_has h ?_ _ | refine y_isThere h ?_ _ | exact y_hasFloor _ _ _ | exact y_hasQuorum _ _ | refine y_voteOf h ?_ _ | refine y_isMajority h ?_ _ _ _ | exact y_isFull _ _ | refine y_ledAt h ?_ _ _ | exact y_mNeeds _ _ | exact y_sizeWith _ _ _ _ _) | split)
theorem y_canBeAbout {S : Cst} {x : Nat} {r : Option Nat} (k : rK S r 3) : p_Y4_canBeAbout S x r := by
  unfold p_Y4_canBeAbout
  simp only [q_Y4_canBeAbout_65, q_Y4_canBeAbout_64, q_Y4_canBeAbout_60, q_Y4_canBeAbout_27]
  repeat' (first | with_reducible (first | exact trivial | assumption | exact nB0 | exact nB1 | refine And.intro ?_ ?_ | refine iteI (fun _ => ?_) (fun _ => ?_) | refine ir_k ?_ | refine g0_0 h ?_ | exact g5_1 h (by assumption) | exact g0_1 h (by assumption) | refine g5_1 h (ir_k (g0_2 h ?_)) | refine g0_1 h (ir_k (g7_0 h ?_)) | refine g0_1 h (ir_k (g7_1 h ?_)) | refine g5_1 h ?_ | refine g0_2 h ?_ | refine g0_3 h ?_ | exact g7_4 h (by assumption) | refine g0_4 h ?_ | refine g0_5 h ?_ | refine g0_6 h ?_ | refine g1_1 h ?_ | refine g1_7 h ?_ | refine g2_2 h ?_ | refine g3_12 h ?_ | refine g3_13 h ?_ | refine g4_0 h ?_ | refine g6_0 h ?_ | refine g7_0 h ?_ | refine g7_1 h ?_ | exact ix_lt (by assumption) (by assumption) | exact ix_ge (by assumption) (by assumption) | exact ix_l1 (by assumption) (by assumption) | exact rk_ir (by assumption) (by assumption) | refine y_has h ?_ _ | refine y_isThere h ?_ _ | exact y_hasFloor _ _ _ | exact y_hasQuorum _ _ | refine y_voteOf h ?_ _ | refine y_isMajority h ?_ _ _ _ | exact y_isFull _ _ | refine y_ledAt h ?_ _ _ | exact y_mNeeds _ _ | exact y_amends _ _ | exact y_sizeWith _ _ _ _ _) | split)
theorem y_mFact {S : Cst} {x : Nat} (h : wfS S) (k : iK S x 3) (a : Int32) : p_Y4_fact S x a := by
  unfold p_Y4_fact
  simp only [q_Y4_fact_111]
  repeat' (first | with_reducible (first | exact trivial | assumption | exact nB0 | exact nB1 | refine And.intro ?_ ?_ | refine iteI (fun _ => ?_) (fun _ => ?_) | refine ir_k ?_ | refine g0_0 h ?_ | exact g5_1 h (by assumption) | exact g0_1 h (by assumption) | refine g5_1 h (ir_k (g0_2 h ?_)) | refine g0_1 h (ir_k (g7_0 h ?_)) | refine g0_1 h (ir_k (g7_1 h ?_)) | refine g5_1 h ?_ | refine g0_2 h ?_ | refine g0_3 h ?_ | exact g7_4 h (by assumption) | refine g0_4 h ?_ | refine g0_5 h ?_ | refine g0_6 h ?_ | refine g1_1 h ?_ | refine g1_7 h ?_ | refine g2_2 h ?_ | refine g3_12 h ?_ | refine g3_13 h ?_ | refine g4_0 h ?_ | refine g6_0 h ?_ | refine g7_0 h ?_ | refine g7_1 h ?_ | exact ix_lt (by assumption) (by assumption) | exact ix_ge (by assumption) (by assumption) | exact ix_l1 (by assumption) (by assumption) | exact rk_ir (by assumption) (by assumption) | refine y_has h ?_ _ | refine y_isThere h ?_ _ | exact y_hasFloor _ _ _ | exact y_hasQuorum _ _ | refine y_voteOf h ?_ _ | refine y_isMajority h ?_ _ _ _ | exact y_isFull _ _ | refine y_ledAt h ?_ _ _ | exact y_mNeeds _ _ | exact y_amends _ _ | refine y_canBeAbout ?_ | exact y_sizeWith _ _ _ _ _) | split)
theorem y_at {S : Cst} {x : Nat} (h : wfS S) (k : iK S x 4) (a : Int32) : p_Y5_at S x a := by
  unfold p_Y5_at
  simp only [q_Y5_at_31, q_Y5_at_21]
  repeat' (first | with_reducible (first | exact trivial | assumption | exact nB0 | exact nB1 | refine And.intro ?_ ?_ | refine iteI (fun _ => ?_) (fun _ => ?_) | refine ir_k ?_ | refine g0_0 h ?_ | exact g5_1 h (by assumption) | exact g0_1 h (by assumption) | refine g5_1 h (ir_k (g0_2 h ?_)) | refine g0_1 h (ir_k (g7_0 h ?_)) | refine g0_1 h (ir_k (g7_1 h ?_)) | refine g5_1 h ?_ | refine g0_2 h ?_ | refine g0_3 h ?_ | exact g7_4 h (by assumption) | refine g0_4 h ?_ | refine g0_5 h ?_ | refine g0_6 h ?_ | refine g1_1 h ?_ | refine g1_7 h ?_ | refine g2_2 h ?_ | refine g3_12 h ?_ | refine g3_13 h ?_ | refine g4_0 h ?_ | refine g6_0 h ?_ | refine g7_0 h ?_ | refine g7_1 h ?_ | exact ix_lt (by assumption) (by assumption) | exact ix_ge (by assumption) (by assumption) | exact ix_l1 (by assumption) (by assumption) | exact rk_ir (by assumption) (by assumption) | refine y_has h ?_ _ | refine y_isThere h ?_ _ | exact y_hasFloor _ _ _ | exact y_hasQuorum _ _ | refine y_voteOf h ?_ _ | refine y_isMajority h ?_ _ _ _ | exact y_isFull _ _ | refine y_ledAt h ?_ _ _ | exact y_mNeeds _ _ | exact y_amends _ _ | refine y_canBeAbout ?_ | refine y_mFact h ?_ _ | exact y_sizeWith _ _ _ _ _) | split)
theorem y_top {S : Cst} {x : Nat} (h : wfS S) (k : iK S x 4) : p_Y5_top S x := by
  unfold p_Y5_top
  exact ⟨y_at h k _, trivial⟩
theorem t_at {S : Cst} {x : Nat} (h : wfS S) (k : iK S x 4) (a : Int32) : rK S (f_Y5_at S x a) 3 := by
  unfold f_Y5_at b_Y5_at_31 b_Y5_at_21 b_Y5_at_31
  repeat' split
  · exact Or.inl rfl
  · exact Or.inl rfl
  · exact h.w23 (ir_k (g4_0 h k)) _
  · exact Or.inl rfl
theorem t_top {S : Cst} {x : Nat} (h : wfS S) (k : iK S x 4) : rK S (f_Y5_top S x) 3 := t_at h k _
theorem i_at {S : Cst} {x : Nat} {a : Int32} (h : wfS S) (k : iK S x 4) (n : ¬ f_Y5_at S x a = none) : iR S (f_Y5_at S x a) 3 := rk_ir (t_at h k a) n
theorem i_top {S : Cst} {x : Nat} (h : wfS S) (k : iK S x 4) (n : ¬ f_Y5_top S x = none) : iR S (f_Y5_top S x) 3 := rk_ir (t_top h k) n
theorem y_empty (S : Cst) (x : Nat) : p_Y6_isEmpty S x := by
  unfold p_Y6_isEmpty
  simp only [q_Y6_isEmpty_12]
  repeat' (first | with_reducible (first | exact trivial | assumption | exact nB0 | exact nB1 | refine And.intro ?_ ?_ | refine iteI (fun _ => ?_) (fun _ => ?_) | refine ir_k ?_ | refine g0_0 h ?_ | exact g5_1 h (by assumption) | exact g0_1 h (by assumption) | refine g5_1 h (ir_k (g0_2 h ?_)) | refine g0_1 h (ir_k (g7_0 h ?_)) | refine g0_1 h (ir_k (g7_1 h ?_)) | refine g5_1 h ?_ | refine g0_2 h ?_ | refine g0_3 h ?_ | exact g7_4 h (by assumption) | refine g0_4 h ?_ | refine g0_5 h ?_ | refine g0_6 h ?_ | refine g1_1 h ?_ | refine g1_7 h ?_ | refine g2_2 h ?_ | refine g3_12 h ?_ | refine g3_13 h ?_ | refine g4_0 h ?_ | refine g6_0 h ?_ | refine g7_0 h ?_ | refine g7_1 h ?_ | exact ix_lt (by assumption) (by assumption) | exact ix_ge (by assumption) (by assumption) | exact ix_l1 (by assumption) (by assumption) | refine i_at h ?_ (by assumption) | refine i_top h ?_ (by assumption) | exact rk_ir (by assumption) (by assumption) | refine t_at h ?_ _ | refine t_top h ?_ | refine y_has h ?_ _ | refine y_isThere h ?_ _ | exact y_hasFloor _ _ _ | exact y_hasQuorum _ _ | refine y_voteOf h ?_ _ | refine y_isMajority h ?_ _ _ _ | exact y_isFull _ _ | refine y_ledAt h ?_ _ _ | exact y_mNeeds _ _ | exact y_amends _ _ | refine y_canBeAbout ?_ | refine y_mFact h ?_ _ | refine y_at h ?_ _ | refine y_top h ?_ | exact y_sizeWith _ _ _ _ _) | split)
theorem y_motion {S : Cst} {x : Nat} (h : wfS S) (k : iK S x 5) : p_Y6_motion S x := by
  unfold p_Y6_motion
  simp only [q_Y6_motion_20]
  repeat' (first | with_reducible (first | exact trivial | assumption | exact nB0 | exact nB1 | refine And.intro ?_ ?_ | refine iteI (fun _ => ?_) (fun _ => ?_) | refine ir_k ?_ | refine g0_0 h ?_ | exact g5_1 h (by assumption) | exact g0_1 h (by assumption) | refine g5_1 h (ir_k (g0_2 h ?_)) | refine g0_1 h (ir_k (g7_0 h ?_)) | refine g0_1 h (ir_k (g7_1 h ?_)) | refine g5_1 h ?_ | refine g0_2 h ?_ | refine g0_3 h ?_ | exact g7_4 h (by assumption) | refine g0_4 h ?_ | refine g0_5 h ?_ | refine g0_6 h ?_ | refine g1_1 h ?_ | refine g1_7 h ?_ | refine g2_2 h ?_ | refine g3_12 h ?_ | refine g3_13 h ?_ | refine g4_0 h ?_ | refine g6_0 h ?_ | refine g7_0 h ?_ | refine g7_1 h ?_ | exact ix_lt (by assumption) (by assumption) | exact ix_ge (by assumption) (by assumption) | exact ix_l1 (by assumption) (by assumption) | refine i_at h ?_ (by assumption) | refine i_top h ?_ (by assumption) | exact rk_ir (by assumption) (by assumption) | refine t_at h ?_ _ | refine t_top h ?_ | refine y_has h ?_ _ | refine y_isThere h ?_ _ | exact y_hasFloor _ _ _ | exact y_hasQuorum _ _ | refine y_voteOf h ?_ _ | refine y_isMajority h ?_ _ _ _ | exact y_isFull _ _ | refine y_ledAt h ?_ _ _ | exact y_mNeeds _ _ | exact y_amends _ _ | refine y_canBeAbout ?_ | refine y_mFact h ?_ _ | refine y_at h ?_ _ | refine y_top h ?_ | exact y_empty _ _ | exact y_sizeWith _ _ _ _ _) | split)
theorem t_motion {S : Cst} {x : Nat} (h : wfS S) (k : iK S x 5) : rK S (f_Y6_motion S x) 3 := by
  unfold f_Y6_motion b_Y6_motion_20
  split
  · exact t_at h (ir_k (g5_1 h k)) _
  · exact Or.inl rfl
theorem i_motion {S : Cst} {x : Nat} (h : wfS S) (k : iK S x 5) (n : ¬ f_Y6_motion S x = none) : iR S (f_Y6_motion S x) 3 := rk_ir (t_motion h k) n
theorem y_wordAt {S : Cst} {x : Nat} (h : wfS S) (k : iK S x 6) (a : Int32) : p_Y9_wordAt S x a := by
  unfold p_Y9_wordAt
  simp only [q_Y9_wordAt_31, q_Y9_wordAt_21]
  repeat' (first | with_reducible (first | exact trivial | assumption | exact nB0 | exact nB1 | refine And.intro ?_ ?_ | refine iteI (fun _ => ?_) (fun _ => ?_) | refine ir_k ?_ | refine g0_0 h ?_ | exact g5_1 h (by assumption) | exact g0_1 h (by assumption) | refine g5_1 h (ir_k (g0_2 h ?_)) | refine g0_1 h (ir_k (g7_0 h ?_)) | refine g0_1 h (ir_k (g7_1 h ?_)) | refine g5_1 h ?_ | refine g0_2 h ?_ | refine g0_3 h ?_ | exact g7_4 h (by assumption) | refine g0_4 h ?_ | refine g0_5 h ?_ | refine g0_6 h ?_ | refine g1_1 h ?_ | refine g1_7 h ?_ | refine g2_2 h ?_ | refine g3_12 h ?_ | refine g3_13 h ?_ | refine g4_0 h ?_ | refine g6_0 h ?_ | refine g7_0 h ?_ | refine g7_1 h ?_ | exact ix_lt (by assumption) (by assumption) | exact ix_ge (by assumption) (by assumption) | exact ix_l1 (by assumption) (by assumption) | refine i_at h ?_ (by assumption) | refine i_top h ?_ (by assumption) | refine i_motion h ?_ (by assumption) | exact rk_ir (by assumption) (by assumption) | refine t_at h ?_ _ | refine t_top h ?_ | refine t_motion h ?_ | refine y_has h ?_ _ | refine y_isThere h ?_ _ | exact y_hasFloor _ _ _ | exact y_hasQuorum _ _ | refine y_voteOf h ?_ _ | refine y_isMajority h ?_ _ _ _ | exact y_isFull _ _ | refine y_ledAt h ?_ _ _ | exact y_mNeeds _ _ | exact y_amends _ _ | refine y_canBeAbout ?_ | refine y_mFact h ?_ _ | refine y_at h ?_ _ | refine y_top h ?_ | exact y_empty _ _ | refine y_motion h ?_ | exact y_sizeWith _ _ _ _ _) | split)
theorem y_kind {S : Cst} {x : Nat} (h : wfS S) (k : iK S x 5) : p_Y6_kind S x := by
  unfold p_Y6_kind
  simp only [q_Y6_kind_32]
  repeat' (first | with_reducible (first | exact trivial | assumption | exact nB0 | exact nB1 | refine And.intro ?_ ?_ | refine iteI (fun _ => ?_) (fun _ => ?_) | refine ir_k ?_ | refine g0_0 h ?_ | exact g5_1 h (by assumption) | exact g0_1 h (by assumption) | refine g5_1 h (ir_k (g0_2 h ?_)) | refine g0_1 h (ir_k (g7_0 h ?_)) | refine g0_1 h (ir_k (g7_1 h ?_)) | refine g5_1 h ?_ | refine g0_2 h ?_ | refine g0_3 h ?_ | exact g7_4 h (by assumption) | refine g0_4 h ?_ | refine g0_5 h ?_ | refine g0_6 h ?_ | refine g1_1 h ?_ | refine g1_7 h ?_ | refine g2_2 h ?_ | refine g3_12 h ?_ | refine g3_13 h ?_ | refine g4_0 h ?_ | refine g6_0 h ?_ | refine g7_0 h ?_ | refine g7_1 h ?_ | exact ix_lt (by assumption) (by assumption) | exact ix_ge (by assumption) (by assumption) | exact ix_l1 (by assumption) (by assumption) | refine i_at h ?_ (by assumption) | refine i_top h ?_ (by assumption) | refine i_motion h ?_ (by assumption) | exact rk_ir (by assumption) (by assumption) | refine t_at h ?_ _ | refine t_top h ?_ | refine t_motion h ?_ | refine y_has h ?_ _ | refine y_isThere h ?_ _ | exact y_hasFloor _ _ _ | exact y_hasQuorum _ _ | refine y_voteOf h ?_ _ | refine y_isMajority h ?_ _ _ _ | exact y_isFull _ _ | refine y_ledAt h ?_ _ _ | exact y_mNeeds _ _ | exact y_amends _ _ | refine y_canBeAbout ?_ | refine y_mFact h ?_ _ | refine y_at h ?_ _ | refine y_top h ?_ | exact y_empty _ _ | refine y_motion h ?_ | refine y_wordAt h ?_ _ | exact y_sizeWith _ _ _ _ _) | split)
theorem y_plWord {S : Cst} {x : Nat} (h : wfS S) (k : iK S x 5) (a : Int32) : p_Y6_wordAt S x a := by
  unfold p_Y6_wordAt
  simp only [q_Y6_wordAt_25]
  repeat' (first | with_reducible (first | exact trivial | assumption | exact nB0 | exact nB1 | refine And.intro ?_ ?_ | refine iteI (fun _ => ?_) (fun _ => ?_) | refine ir_k ?_ | refine g0_0 h ?_ | exact g5_1 h (by assumption) | exact g0_1 h (by assumption) | refine g5_1 h (ir_k (g0_2 h ?_)) | refine g0_1 h (ir_k (g7_0 h ?_)) | refine g0_1 h (ir_k (g7_1 h ?_)) | refine g5_1 h ?_ | refine g0_2 h ?_ | refine g0_3 h ?_ | exact g7_4 h (by assumption) | refine g0_4 h ?_ | refine g0_5 h ?_ | refine g0_6 h ?_ | refine g1_1 h ?_ | refine g1_7 h ?_ | refine g2_2 h ?_ | refine g3_12 h ?_ | refine g3_13 h ?_ | refine g4_0 h ?_ | refine g6_0 h ?_ | refine g7_0 h ?_ | refine g7_1 h ?_ | exact ix_lt (by assumption) (by assumption) | exact ix_ge (by assumption) (by assumption) | exact ix_l1 (by assumption) (by assumption) | refine i_at h ?_ (by assumption) | refine i_top h ?_ (by assumption) | refine i_motion h ?_ (by assumption) | exact rk_ir (by assumption) (by assumption) | refine t_at h ?_ _ | refine t_top h ?_ | refine t_motion h ?_ | refine y_has h ?_ _ | refine y_isThere h ?_ _ | exact y_hasFloor _ _ _ | exact y_hasQuorum _ _ | refine y_voteOf h ?_ _ | refine y_isMajority h ?_ _ _ _ | exact y_isFull _ _ | refine y_ledAt h ?_ _ _ | exact y_mNeeds _ _ | exact y_amends _ _ | refine y_canBeAbout ?_ | refine y_mFact h ?_ _ | refine y_at h ?_ _ | refine y_top h ?_ | exact y_empty _ _ | refine y_motion h ?_ | refine y_wordAt h ?_ _ | refine y_kind h ?_ | exact y_sizeWith _ _ _ _ _) | split)
theorem y_plFact {S : Cst} {x : Nat} (h : wfS S) (k : iK S x 5) (a : Int32) : p_Y6_fact S x a := by
  unfold p_Y6_fact
  simp only [q_Y6_fact_79, q_Y6_fact_95, q_Y6_fact_108, q_Y6_fact_121, q_Y6_fact_138, q_Y6_fact_137]
  repeat' (first | with_reducible (first | exact trivial | assumption | exact nB0 | exact nB1 | refine And.intro ?_ ?_ | refine iteI (fun _ => ?_) (fun _ => ?_) | refine ir_k ?_ | refine g0_0 h ?_ | exact g5_1 h (by assumption) | exact g0_1 h (by assumption) | refine g5_1 h (ir_k (g0_2 h ?_)) | refine g0_1 h (ir_k (g7_0 h ?_)) | refine g0_1 h (ir_k (g7_1 h ?_)) | refine g5_1 h ?_ | refine g0_2 h ?_ | refine g0_3 h ?_ | exact g7_4 h (by assumption) | refine g0_4 h ?_ | refine g0_5 h ?_ | refine g0_6 h ?_ | refine g1_1 h ?_ | refine g1_7 h ?_ | refine g2_2 h ?_ | refine g3_12 h ?_ | refine g3_13 h ?_ | refine g4_0 h ?_ | refine g6_0 h ?_ | refine g7_0 h ?_ | refine g7_1 h ?_ | exact ix_lt (by assumption) (by assumption) | exact ix_ge (by assumption) (by assumption) | exact ix_l1 (by assumption) (by assumption) | refine i_at h ?_ (by assumption) | refine i_top h ?_ (by assumption) | refine i_motion h ?_ (by assumption) | exact rk_ir (by assumption) (by assumption) | refine t_at h ?_ _ | refine t_top h ?_ | refine t_motion h ?_ | refine y_has h ?_ _ | refine y_isThere h ?_ _ | exact y_hasFloor _ _ _ | exact y_hasQuorum _ _ | refine y_voteOf h ?_ _ | refine y_isMajority h ?_ _ _ _ | exact y_isFull _ _ | refine y_ledAt h ?_ _ _ | exact y_mNeeds _ _ | exact y_amends _ _ | refine y_canBeAbout ?_ | refine y_mFact h ?_ _ | refine y_at h ?_ _ | refine y_top h ?_ | exact y_empty _ _ | refine y_motion h ?_ | refine y_wordAt h ?_ _ | refine y_kind h ?_ | refine y_plWord h ?_ _ | exact y_sizeWith _ _ _ _ _) | split)
end
section
/-! ===== readers with rounds; the places of a desk ===== -/
theorem ix_b {x : Int32} {n : Nat} (h1 : 0 ≤ x.toInt) (h2 : x.toInt < n) : vp_in x n := vIn h1 h2
theorem dk_ln {S : Cst} {x : Nat} (h : wfS S) (k : iK S x 0) : lnC S ((grC S x 3).getD 0) = 8 := (h.w24 (ir_k (g0_3 h k))).1
theorem dk_ix {S : Cst} {x : Nat} (h : wfS S) (k : iK S x 0) {i : Nat} (hi : i < 8) : grC S ((grC S x 3).getD 0) i = some (x + 13 + 3 * i) ∧ iK S (x + 13 + 3 * i) 5 := by
  have w := (h.w24 (ir_k (g0_3 h k))).2 i hi
  rw [(h.w0 k).2.1.2.2.2.1, Option.getD_some] at w ⊢
  rw [show x + 13 + 3 * i = x + 6 + 7 + 3 * i by omega]
  exact w
theorem t_place {S : Cst} {x : Nat} (h : wfS S) (k : iK S x 0) (a : Int32) : rK S (f_Y0_placeAt S x a) 5 := by
  unfold f_Y0_placeAt b_Y0_placeAt_20 b_Y0_placeAt_10 b_Y0_placeAt_20
  split
  · exact Or.inl rfl
  · next c =>
    split
    · next d =>
      have c := mt iLt.mpr c
      have d := iLt.mp d
      rw [i0] at c
      rw [show (8 : Int32).toInt = 8 by decide] at d
      have := iNat (x := a) (by omega)
      have w := dk_ix h k (i := a.toNatClampNeg) (by omega)
      exact Or.inr ⟨_, w.1, w.2⟩
    · exact Or.inl rfl
theorem i_place {S : Cst} {x : Nat} {a : Int32} (h : wfS S) (k : iK S x 0) (n : ¬ f_Y0_placeAt S x a = none) : iR S (f_Y0_placeAt S x a) 5 := rk_ir (t_place h k a) n
theorem y_placeAt {S : Cst} {x : Nat} (h : wfS S) (k : iK S x 0) (a : Int32) : p_Y0_placeAt S x a := by
  unfold p_Y0_placeAt
  simp only [q_Y0_placeAt_20, q_Y0_placeAt_10]
  split
  · trivial
  · next c =>
    split
    · next d =>
      have c := mt iLt.mpr c
      have d := iLt.mp d
      rw [i0] at c
      rw [show (8 : Int32).toInt = 8 by decide] at d
      refine ⟨g0_3 h k, ?_, trivial⟩
      rw [dk_ln h k]
      exact vIn (by omega) (by omega)
    · trivial
/-- how many of the first n places are free -/
def fcU (S : Cst) (x : Nat) : Nat → Nat
  | 0 => 0
  | n + 1 => fcU S x n + (if giC S (x + 13 + 3 * n) 0 = 0 then 1 else 0)
theorem fcU_le (S : Cst) (x : Nat) : ∀ n, fcU S x n ≤ n := by
  intro n
  induction n with
  | zero => exact Nat.le_refl _
  | succ n ih =>
    rw [fcU]
    split <;> omega
theorem ps_free {S : Cst} {x : Nat} (h : wfS S) (k : iK S x 0) {b : Int32} (h1 : 0 ≤ b.toInt) (h2 : b.toInt < 8) (a : Int32) : ps_Y0_freePlaces_4 S x a b := by
  unfold ps_Y0_freePlaces_4
  split
  · trivial
  · refine ⟨g0_3 h k, ?_, ?_, y_empty _ _, ?_⟩
    · rw [dk_ln h k]
      exact vIn h1 h2
    · have := iNat h1
      have w := dk_ix h k (i := b.toNatClampNeg) (by omega)
      exact ir_of w.1 w.2
    · simp only [q_Y0_freePlaces_25, q_Y0_freePlaces_19a]
      split <;> trivial
theorem e8 : (8 : Int32).toInt = 8 := by decide
theorem em_f (S : Cst) (q : Nat) : f_Y6_isEmpty S q = if giC S q 0 = 0 then 1 else 0 := rfl
theorem st_free {S : Cst} {x : Nat} (h : wfS S) (k : iK S x 0) {b : Int32} (h1 : 0 ≤ b.toInt) (h2 : b.toInt < 8) (a : Int32) : st_Y0_freePlaces_4 S x a b = Sum.inr (if giC S (x + 13 + 3 * b.toNatClampNeg) 0 = 0 then a + 1 else a, b + 1) := by
  unfold st_Y0_freePlaces_4
  rw [if_neg (fun z => by have := iLe.mp z; rw [e8] at this; omega)]
  have := iNat h1
  rw [(dk_ix h k (i := b.toNatClampNeg) (by omega)).1, Option.getD_some, em_f]
  unfold b_Y0_freePlaces_19a b_Y0_freePlaces_25
  by_cases z : giC S (x + 13 + 3 * b.toNatClampNeg) 0 = 0
  · rw [if_pos z, if_pos z, if_neg (by decide)]
  · rw [if_neg z, if_neg z, if_pos rfl]
theorem free_lq {S : Cst} {x : Nat} (h : wfS S) (k : iK S x 0) : ∀ (n : Nat) (a b : Int32), 0 ≤ b.toInt → b.toInt ≤ 8 → 8 - b.toInt < n → lq_Y0_freePlaces_4 S x n a b := by
  intro n
  induction n with
  | zero => intro a b h1 h2 h3; omega
  | succ n ih =>
    intro a b h1 h2 h3
    rw [lq_Y0_freePlaces_4]
    by_cases c : b.toInt = 8
    · have c8 : 8 ≤ b := iLe.mpr (by rw [e8]; omega)
      unfold ps_Y0_freePlaces_4 st_Y0_freePlaces_4
      rw [if_pos c8, if_pos c8]
      exact ⟨trivial, trivial⟩
    · refine ⟨ps_free h k h1 (by omega) a, ?_⟩
      rw [st_free h k h1 (by omega) a]
      have e := iAdd (x := b) (y := 1) (by rw [i1]; omega) (by rw [i1]; omega)
      rw [i1] at e
      exact ih _ (b + 1) (by omega) (by omega) (by omega)
theorem y_free {S : Cst} {x : Nat} (h : wfS S) (k : iK S x 0) : p_Y0_freePlaces S x := free_lq h k 100000 0 0 (by rw [i0]; omega) (by rw [i0]; omega) (by rw [i0]; omega)
theorem free_lp {S : Cst} {x : Nat} (h : wfS S) (k : iK S x 0) : ∀ (n : Nat) (a b : Int32), 0 ≤ b.toInt → b.toInt ≤ 8 → 8 - b.toInt < n → 0 ≤ a.toInt → a.toInt ≤ b.toInt → (lp_Y0_freePlaces_4 S x n a b).toInt = a.toInt + (fcU S x 8 : Int) - (fcU S x b.toNatClampNeg : Int) := by
  intro n
  induction n with
  | zero => intro a b h1 h2 h3; omega
  | succ n ih =>
    intro a b h1 h2 h3 h4 h5
    rw [lp_Y0_freePlaces_4]
    have hb := iNat h1
    by_cases c : b.toInt = 8
    · have c8 : 8 ≤ b := iLe.mpr (by rw [e8]; omega)
      unfold st_Y0_freePlaces_4
      rw [if_pos c8]
      show a.toInt = _
      rw [show b.toNatClampNeg = 8 by omega]
      omega
    · rw [st_free h k h1 (by omega) a]
      have e := iAdd (x := b) (y := 1) (by rw [i1]; omega) (by rw [i1]; omega)
      have e' := iAdd (x := a) (y := 1) (by rw [i1]; omega) (by rw [i1]; omega)
      rw [i1] at e e'
      have hb' := iNat (x := b + 1) (by omega)
      have hs : (b + 1).toNatClampNeg = b.toNatClampNeg + 1 := by omega
      show (lp_Y0_freePlaces_4 S x n (if giC S (x + 13 + 3 * b.toNatClampNeg) 0 = 0 then a + 1 else a) (b + 1)).toInt = _
      have hf : fcU S x (b.toNatClampNeg + 1) = fcU S x b.toNatClampNeg + (if giC S (x + 13 + 3 * b.toNatClampNeg) 0 = 0 then 1 else 0) := rfl
      by_cases z : giC S (x + 13 + 3 * b.toNatClampNeg) 0 = 0
      · rw [if_pos z] at hf ⊢
        rw [ih (a + 1) (b + 1) (by omega) (by omega) (by omega) (by omega) (by omega), hs, hf]
        omega
      · rw [if_neg z] at hf ⊢
        rw [ih a (b + 1) (by omega) (by omega) (by omega) (by omega) (by omega), hs, hf]
        omega
theorem free_v {S : Cst} {x : Nat} (h : wfS S) (k : iK S x 0) : (f_Y0_freePlaces S x).toInt = fcU S x 8 := by
  unfold f_Y0_freePlaces
  rw [free_lp h k 100000 0 0 (by rw [i0]; omega) (by rw [i0]; omega) (by rw [i0]; omega) (by rw [i0]; omega) (by rw [i0]; omega), i0]
  show (0 : Int) + (fcU S x 8 : Int) - ((0 : Nat) : Int) = _
  omega
/-- the first free place -/
theorem st_first {S : Cst} {x : Nat} (h : wfS S) (k : iK S x 0) {b : Int32} (h1 : 0 ≤ b.toInt) (h2 : b.toInt < 8) : st_Y0_firstFreePlace_2 S x b = if giC S (x + 13 + 3 * b.toNatClampNeg) 0 = 0 then Sum.inl (some (x + 13 + 3 * b.toNatClampNeg)) else Sum.inr (b + 1) := by
  unfold st_Y0_firstFreePlace_2
  rw [if_neg (fun z => by have := iLe.mp z; rw [e8] at this; omega)]
  have := iNat h1
  unfold b_Y0_firstFreePlace_17a
  rw [(dk_ix h k (i := b.toNatClampNeg) (by omega)).1, Option.getD_some, em_f]
  by_cases z : giC S (x + 13 + 3 * b.toNatClampNeg) 0 = 0
  · rw [if_pos z, if_pos z, if_neg (by decide)]
  · rw [if_neg z, if_neg z, if_pos rfl]
theorem first_lq {S : Cst} {x : Nat} (h : wfS S) (k : iK S x 0) : ∀ (n : Nat) (b : Int32), 0 ≤ b.toInt → b.toInt ≤ 8 → 8 - b.toInt < n → lq_Y0_firstFreePlace_2 S x n b := by
  intro n
  induction n with
  | zero => intro b h1 h2 h3; omega
  | succ n ih =>
    intro b h1 h2 h3
    rw [lq_Y0_firstFreePlace_2]
    by_cases c : b.toInt = 8
    · have c8 : 8 ≤ b := iLe.mpr (by rw [e8]; omega)
      unfold ps_Y0_firstFreePlace_2 st_Y0_firstFreePlace_2
      rw [if_pos c8, if_pos c8]
      exact ⟨trivial, trivial⟩
    · refine ⟨?_, ?_⟩
      · unfold ps_Y0_firstFreePlace_2
        split
        · trivial
        · have v : vp_in b (lnC S ((grC S x 3).getD 0)) := by
            rw [dk_ln h k]
            exact vIn h1 (by omega)
          refine ⟨g0_3 h k, v, ?_, y_empty _ _, ?_⟩
          · have := iNat h1
            have w := dk_ix h k (i := b.toNatClampNeg) (by omega)
            exact ir_of w.1 w.2
          · simp only [q_Y0_firstFreePlace_17a]
            split
            · trivial
            · exact ⟨g0_3 h k, v, trivial⟩
      · rw [st_first h k h1 (by omega)]
        have e := iAdd (x := b) (y := 1) (by rw [i1]; omega) (by rw [i1]; omega)
        rw [i1] at e
        split
        · next z => split at z <;> trivial
        · next q z =>
          split at z
          · cases z
          · cases z
            exact ih (b + 1) (by omega) (by omega) (by omega)
theorem y_first {S : Cst} {x : Nat} (h : wfS S) (k : iK S x 0) : p_Y0_firstFreePlace S x := first_lq h k 100000 0 (by rw [i0]; omega) (by rw [i0]; omega) (by rw [i0]; omega)
theorem first_lp {S : Cst} {x : Nat} (h : wfS S) (k : iK S x 0) : ∀ (n : Nat) (b : Int32), 0 ≤ b.toInt → b.toInt ≤ 8 → 8 - b.toInt < n → (lp_Y0_firstFreePlace_2 S x n b = none ∧ ∀ p, b.toNatClampNeg ≤ p → p < 8 → ¬ giC S (x + 13 + 3 * p) 0 = 0) ∨ (∃ p, p < 8 ∧ lp_Y0_firstFreePlace_2 S x n b = some (x + 13 + 3 * p) ∧ giC S (x + 13 + 3 * p) 0 = 0) := by
  intro n
  induction n with
  | zero => intro b h1 h2 h3; omega
  | succ n ih =>
    intro b h1 h2 h3
    rw [lp_Y0_firstFreePlace_2]
    have hb := iNat h1
    by_cases c : b.toInt = 8
    · have c8 : 8 ≤ b := iLe.mpr (by rw [e8]; omega)
      unfold st_Y0_firstFreePlace_2
      rw [if_pos c8]
      exact Or.inl ⟨rfl, fun p h1 h2 => by omega⟩
    · rw [st_first h k h1 (by omega)]
      have e := iAdd (x := b) (y := 1) (by rw [i1]; omega) (by rw [i1]; omega)
      rw [i1] at e
      by_cases z : giC S (x + 13 + 3 * b.toNatClampNeg) 0 = 0
      · rw [if_pos z]
        exact Or.inr ⟨_, by omega, rfl, z⟩
      · rw [if_neg z]
        have hb' := iNat (x := b + 1) (by omega)
        rcases ih (b + 1) (by omega) (by omega) (by omega) with ⟨g1, g2⟩ | g
        · refine Or.inl ⟨g1, fun p h1 h2 => ?_⟩
          by_cases d : p = b.toNatClampNeg
          · rw [d]
            exact z
          · exact g2 p (by omega) h2
        · exact Or.inr g
theorem first_v {S : Cst} {x : Nat} (h : wfS S) (k : iK S x 0) : (f_Y0_firstFreePlace S x = none ∧ ∀ p, p < 8 → ¬ giC S (x + 13 + 3 * p) 0 = 0) ∨ (∃ p, p < 8 ∧ f_Y0_firstFreePlace S x = some (x + 13 + 3 * p) ∧ giC S (x + 13 + 3 * p) 0 = 0) := by
  rcases first_lp h k 100000 0 (by rw [i0]; omega) (by rw [i0]; omega) (by rw [i0]; omega) with ⟨a, b⟩ | a
  · exact Or.inl ⟨a, fun p hp => b p (Nat.zero_le _) hp⟩
  · exact Or.inr a
theorem t_first {S : Cst} {x : Nat} (h : wfS S) (k : iK S x 0) : rK S (f_Y0_firstFreePlace S x) 5 := by
  rcases first_v h k with ⟨a, b⟩ | ⟨p, hp, e, z⟩
  · exact Or.inl a
  · exact Or.inr ⟨_, e, (dk_ix h k hp).2⟩
theorem i_first {S : Cst} {x : Nat} (h : wfS S) (k : iK S x 0) (n : ¬ f_Y0_firstFreePlace S x = none) : iR S (f_Y0_firstFreePlace S x) 5 := rk_ir (t_first h k) n
/-- the votes counted -/
theorem tally_lq {S : Cst} {x : Nat} {r : Option Nat} (h : wfS S) (k : iK S x 1) (kr : iR S r 3) (how : Int32) : ∀ (n : Nat) (a b : Int32), 0 ≤ b.toInt → b.toInt ≤ 200 → 200 - b.toInt < n → lq_Y2_tally_5 S x n r how a b := by
  have hs := (h.w1 k).2.2
  unfold rg at hs
  intro n
  induction n with
  | zero => intro a b h1 h2 h3; omega
  | succ n ih =>
    intro a b h1 h2 h3
    rw [lq_Y2_tally_5]
    unfold ps_Y2_tally_5 st_Y2_tally_5
    simp only [q_Y2_tally_36]
    by_cases c : giC S x 0 ≤ b
    · rw [if_pos c, if_pos c]
      exact ⟨trivial, trivial⟩
    · rw [if_neg c, if_neg c]
      have c := mt iLe.mpr c
      have e := iAdd (x := b) (y := 1) (by rw [i1]; omega) (by rw [i1]; omega)
      rw [i1] at e
      refine ⟨⟨y_isThere h k _, ?_⟩, ?_⟩
      · split
        · trivial
        · refine ⟨kr, y_voteOf h (ir_k kr) _, ?_⟩
          split <;> trivial
      · unfold b_Y2_tally_36
        split
        · next z => repeat' split at z
                    all_goals trivial
        · next q z =>
          have : ∃ a', q = (r, how, a', b + 1) := by
            repeat' split at z
            all_goals exact ⟨_, (Sum.inr.inj z).symm⟩
          obtain ⟨a', rfl⟩ := this
          exact ih a' (b + 1) (by omega) (by omega) (by omega)
theorem y_tally {S : Cst} {x : Nat} {r : Option Nat} (h : wfS S) (k : iK S x 1) (kr : iR S r 3) (how : Int32) : p_Y2_tally S x r how := tally_lq h k kr how 100000 0 0 (by rw [i0]; omega) (by rw [i0]; omega) (by rw [i0]; omega)
theorem rank_lq {S : Cst} {x : Nat} (h : wfS S) (k : iK S x 4) : ∀ (n : Nat) (a b : Int32), 0 ≤ b.toInt → b.toInt ≤ 9 → 9 - b.toInt < n → lq_Y5_highestRank_4 S x n a b := by
  have hs := (h.w4 k).2.2
  unfold rg at hs
  intro n
  induction n with
  | zero => intro a b h1 h2 h3; omega
  | succ n ih =>
    intro a b h1 h2 h3
    rw [lq_Y5_highestRank_4]
    unfold ps_Y5_highestRank_4 st_Y5_highestRank_4
    simp only [q_Y5_highestRank_31]
    by_cases c : giC S x 1 ≤ b
    · rw [if_pos c, if_pos c]
      exact ⟨trivial, trivial⟩
    · rw [if_neg c, if_neg c]
      have c := mt iLe.mpr c
      have e := iAdd (x := b) (y := 1) (by rw [i1]; omega) (by rw [i1]; omega)
      rw [i1] at e
      refine ⟨⟨y_at h k _, ?_⟩, ?_⟩
      · split
        · trivial
        · next z => exact ⟨i_at h k z, trivial⟩
      · unfold b_Y5_highestRank_31
        by_cases z : f_Y5_at S x b = none
        · rw [if_pos z]
          exact ih _ (b + 1) (by omega) (by omega) (by omega)
        · rw [if_neg z]
          exact ih _ (b + 1) (by omega) (by omega) (by omega)
theorem y_rank {S : Cst} {x : Nat} (h : wfS S) (k : iK S x 4) : p_Y5_highestRank S x := rank_lq h k 100000 0 0 (by rw [i0]; omega) (by rw [i0]; omega) (by rw [i0]; omega)
theorem needs_lq {S : Cst} {x : Nat} (h : wfS S) (k : iK S x 4) : ∀ (n : Nat) (b : Int32), 0 ≤ b.toInt → b.toInt ≤ 9 → 9 - b.toInt < n → lq_Y5_needsPlace_2 S x n b := by
  have hs := (h.w4 k).2.2
  unfold rg at hs
  intro n
  induction n with
  | zero => intro b h1 h2 h3; omega
  | succ n ih =>
    intro b h1 h2 h3
    rw [lq_Y5_needsPlace_2]
    unfold ps_Y5_needsPlace_2 st_Y5_needsPlace_2
    simp only [q_Y5_needsPlace_29]
    by_cases c : giC S x 1 ≤ b
    · rw [if_pos c, if_pos c]
      exact ⟨trivial, trivial⟩
    · rw [if_neg c, if_neg c]
      have c := mt iLe.mpr c
      have e := iAdd (x := b) (y := 1) (by rw [i1]; omega) (by rw [i1]; omega)
      rw [i1] at e
      refine ⟨⟨y_at h k _, ?_⟩, ?_⟩
      · split
        · trivial
        · next z =>
          refine ⟨i_at h k z, y_mNeeds _ _, ?_⟩
          split <;> trivial
      · unfold b_Y5_needsPlace_29
        by_cases z : f_Y5_at S x b = none
        · rw [if_pos z]
          exact ih (b + 1) (by omega) (by omega) (by omega)
        · rw [if_neg z]
          by_cases y : f_Y4_needsPlace S ((f_Y5_at S x b).getD 0) = 0
          · rw [if_pos y]
            exact ih (b + 1) (by omega) (by omega) (by omega)
          · rw [if_neg y]
            trivial
theorem y_needs {S : Cst} {x : Nat} (h : wfS S) (k : iK S x 4) : p_Y5_needsPlace S x := needs_lq h k 100000 0 (by rw [i0]; omega) (by rw [i0]; omega) (by rw [i0]; omega)
theorem y_wordOf {S : Cst} {x : Nat} (h : wfS S) (k : iK S x 0) (a b : Int32) : p_Y0_wordOf S x a b := by
  unfold p_Y0_wordOf
  simp only [q_Y0_wordOf_55, q_Y0_wordOf_38]
  repeat' (first | with_reducible (first | exact trivial | assumption | exact nB0 | exact nB1 | refine And.intro ?_ ?_ | refine iteI (fun _ => ?_) (fun _ => ?_) | refine ir_k ?_ | refine g0_0 h ?_ | exact g5_1 h (by assumption) | exact g0_1 h (by assumption) | refine g5_1 h (ir_k (g0_2 h ?_)) | refine g0_1 h (ir_k (g7_0 h ?_)) | refine g0_1 h (ir_k (g7_1 h ?_)) | refine g5_1 h ?_ | refine g0_2 h ?_ | refine g0_3 h ?_ | exact g7_4 h (by assumption) | refine g0_4 h ?_ | refine g0_5 h ?_ | refine g0_6 h ?_ | refine g1_1 h ?_ | refine g1_7 h ?_ | refine g2_2 h ?_ | refine g3_12 h ?_ | refine g3_13 h ?_ | refine g4_0 h ?_ | refine g6_0 h ?_ | refine g7_0 h ?_ | refine g7_1 h ?_ | exact ix_lt (by assumption) (by assumption) | exact ix_ge (by assumption) (by assumption) | exact ix_l1 (by assumption) (by assumption) | refine i_at h ?_ (by assumption) | refine i_top h ?_ (by assumption) | refine i_motion h ?_ (by assumption) | refine i_place h ?_ (by assumption) | refine i_first h ?_ (by assumption) | exact rk_ir (by assumption) (by assumption) | refine t_at h ?_ _ | refine t_top h ?_ | refine t_motion h ?_ | refine t_place h ?_ _ | refine t_first h ?_ | refine y_has h ?_ _ | refine y_isThere h ?_ _ | exact y_hasFloor _ _ _ | exact y_hasQuorum _ _ | refine y_voteOf h ?_ _ | refine y_isMajority h ?_ _ _ _ | exact y_isFull _ _ | refine y_ledAt h ?_ _ _ | exact y_mNeeds _ _ | exact y_amends _ _ | refine y_canBeAbout ?_ | refine y_mFact h ?_ _ | refine y_at h ?_ _ | refine y_top h ?_ | exact y_empty _ _ | refine y_motion h ?_ | refine y_wordAt h ?_ _ | refine y_kind h ?_ | refine y_plWord h ?_ _ | refine y_plFact h ?_ _ | exact y_sizeWith _ _ _ _ _ | refine y_placeAt h ?_ _ | refine y_free h ?_ | refine y_first h ?_ | refine y_tally h ?_ ?_ _ | refine y_rank h ?_ | refine y_needs h ?_) | split)
theorem y_outcome {S : Cst} {x : Nat} {r : Option Nat} (h : wfS S) (k : iK S x 1) (kr : iR S r 3) (a b : Int32) : p_Y7_outcomeOf S x r a b := by
  unfold p_Y7_outcomeOf
  simp only [q_Y7_outcomeOf_48, q_Y7_outcomeOf_19]
  repeat' (first | with_reducible (first | exact trivial | assumption | exact nB0 | exact nB1 | refine And.intro ?_ ?_ | refine iteI (fun _ => ?_) (fun _ => ?_) | refine ir_k ?_ | refine g0_0 h ?_ | exact g5_1 h (by assumption) | exact g0_1 h (by assumption) | refine g5_1 h (ir_k (g0_2 h ?_)) | refine g0_1 h (ir_k (g7_0 h ?_)) | refine g0_1 h (ir_k (g7_1 h ?_)) | refine g5_1 h ?_ | refine g0_2 h ?_ | refine g0_3 h ?_ | exact g7_4 h (by assumption) | refine g0_4 h ?_ | refine g0_5 h ?_ | refine g0_6 h ?_ | refine g1_1 h ?_ | refine g1_7 h ?_ | refine g2_2 h ?_ | refine g3_12 h ?_ | refine g3_13 h ?_ | refine g4_0 h ?_ | refine g6_0 h ?_ | refine g7_0 h ?_ | refine g7_1 h ?_ | exact ix_lt (by assumption) (by assumption) | exact ix_ge (by assumption) (by assumption) | exact ix_l1 (by assumption) (by assumption) | refine i_at h ?_ (by assumption) | refine i_top h ?_ (by assumption) | refine i_motion h ?_ (by assumption) | refine i_place h ?_ (by assumption) | refine i_first h ?_ (by assumption) | exact rk_ir (by assumption) (by assumption) | refine t_at h ?_ _ | refine t_top h ?_ | refine t_motion h ?_ | refine t_place h ?_ _ | refine t_first h ?_ | refine y_has h ?_ _ | refine y_isThere h ?_ _ | exact y_hasFloor _ _ _ | exact y_hasQuorum _ _ | refine y_voteOf h ?_ _ | refine y_isMajority h ?_ _ _ _ | exact y_isFull _ _ | refine y_ledAt h ?_ _ _ | exact y_mNeeds _ _ | exact y_amends _ _ | refine y_canBeAbout ?_ | refine y_mFact h ?_ _ | refine y_at h ?_ _ | refine y_top h ?_ | exact y_empty _ _ | refine y_motion h ?_ | refine y_wordAt h ?_ _ | refine y_kind h ?_ | refine y_plWord h ?_ _ | refine y_plFact h ?_ _ | exact y_sizeWith _ _ _ _ _ | refine y_placeAt h ?_ _ | refine y_free h ?_ | refine y_first h ?_ | refine y_wordOf h ?_ _ _ | refine y_tally h ?_ ?_ _ | refine y_rank h ?_ | refine y_needs h ?_) | split)
end
section
/-! ===== what is against an act: safe ===== -/
theorem y_aAbsent {S : Cst} {x : Nat} (h : wfS S) (k : iK S x 1) (a : Int32) : p_Y8_againstAbsent S x a := by
  unfold p_Y8_againstAbsent
  simp only [q_Y8_againstAbsent_25]
  repeat' (first | with_reducible (first | exact trivial | assumption | exact nB0 | exact nB1 | refine And.intro ?_ ?_ | refine iteI (fun _ => ?_) (fun _ => ?_) | refine ir_k ?_ | refine g0_0 h ?_ | exact g5_1 h (by assumption) | exact g0_1 h (by assumption) | refine g5_1 h (ir_k (g0_2 h ?_)) | refine g0_1 h (ir_k (g7_0 h ?_)) | refine g0_1 h (ir_k (g7_1 h ?_)) | refine g5_1 h ?_ | refine g0_2 h ?_ | refine g0_3 h ?_ | exact g7_4 h (by assumption) | refine g0_4 h ?_ | refine g0_5 h ?_ | refine g0_6 h ?_ | refine g1_1 h ?_ | refine g1_7 h ?_ | refine g2_2 h ?_ | refine g3_12 h ?_ | refine g3_13 h ?_ | refine g4_0 h ?_ | refine g6_0 h ?_ | refine g7_0 h ?_ | refine g7_1 h ?_ | exact ix_lt (by assumption) (by assumption) | exact ix_ge (by assumption) (by assumption) | exact ix_l1 (by assumption) (by assumption) | refine i_at h ?_ (by assumption) | refine i_top h ?_ (by assumption) | refine i_motion h ?_ (by assumption) | refine i_place h ?_ (by assumption) | refine i_first h ?_ (by assumption) | exact rk_ir (by assumption) (by assumption) | refine t_at h ?_ _ | refine t_top h ?_ | refine t_motion h ?_ | refine t_place h ?_ _ | refine t_first h ?_ | refine y_has h ?_ _ | refine y_isThere h ?_ _ | exact y_hasFloor _ _ _ | exact y_hasQuorum _ _ | refine y_voteOf h ?_ _ | refine y_isMajority h ?_ _ _ _ | exact y_isFull _ _ | refine y_ledAt h ?_ _ _ | exact y_mNeeds _ _ | exact y_amends _ _ | refine y_canBeAbout ?_ | refine y_mFact h ?_ _ | refine y_at h ?_ _ | refine y_top h ?_ | exact y_empty _ _ | refine y_motion h ?_ | refine y_wordAt h ?_ _ | refine y_kind h ?_ | refine y_plWord h ?_ _ | refine y_plFact h ?_ _ | exact y_sizeWith _ _ _ _ _ | refine y_placeAt h ?_ _ | refine y_free h ?_ | refine y_first h ?_ | refine y_wordOf h ?_ _ _ | refine y_tally h ?_ ?_ _ | refine y_rank h ?_ | refine y_needs h ?_ | refine y_outcome h ?_ ?_ _ _) | split)
theorem y_aSecond {S : Cst} {x : Nat} {r : Option Nat} (h : wfS S) (k : iK S x 1) (kr : iR S r 3) (a : Int32) : p_Y8_againstSecond S x r a := by
  unfold p_Y8_againstSecond
  simp only [q_Y8_againstSecond_29, q_Y8_againstSecond_52, q_Y8_againstSecond_47]
  repeat' (first | with_reducible (first | exact trivial | assumption | exact nB0 | exact nB1 | refine And.intro ?_ ?_ | refine iteI (fun _ => ?_) (fun _ => ?_) | refine ir_k ?_ | refine g0_0 h ?_ | exact g5_1 h (by assumption) | exact g0_1 h (by assumption) | refine g5_1 h (ir_k (g0_2 h ?_)) | refine g0_1 h (ir_k (g7_0 h ?_)) | refine g0_1 h (ir_k (g7_1 h ?_)) | refine g5_1 h ?_ | refine g0_2 h ?_ | refine g0_3 h ?_ | exact g7_4 h (by assumption) | refine g0_4 h ?_ | refine g0_5 h ?_ | refine g0_6 h ?_ | refine g1_1 h ?_ | refine g1_7 h ?_ | refine g2_2 h ?_ | refine g3_12 h ?_ | refine g3_13 h ?_ | refine g4_0 h ?_ | refine g6_0 h ?_ | refine g7_0 h ?_ | refine g7_1 h ?_ | exact ix_lt (by assumption) (by assumption) | exact ix_ge (by assumption) (by assumption) | exact ix_l1 (by assumption) (by assumption) | refine i_at h ?_ (by assumption) | refine i_top h ?_ (by assumption) | refine i_motion h ?_ (by assumption) | refine i_place h ?_ (by assumption) | refine i_first h ?_ (by assumption) | exact rk_ir (by assumption) (by assumption) | refine t_at h ?_ _ | refine t_top h ?_ | refine t_motion h ?_ | refine t_place h ?_ _ | refine t_first h ?_ | refine y_has h ?_ _ | refine y_isThere h ?_ _ | exact y_hasFloor _ _ _ | exact y_hasQuorum _ _ | refine y_voteOf h ?_ _ | refine y_isMajority h ?_ _ _ _ | exact y_isFull _ _ | refine y_ledAt h ?_ _ _ | exact y_mNeeds _ _ | exact y_amends _ _ | refine y_canBeAbout ?_ | refine y_mFact h ?_ _ | refine y_at h ?_ _ | refine y_top h ?_ | exact y_empty _ _ | refine y_motion h ?_ | refine y_wordAt h ?_ _ | refine y_kind h ?_ | refine y_plWord h ?_ _ | refine y_plFact h ?_ _ | exact y_sizeWith _ _ _ _ _ | refine y_placeAt h ?_ _ | refine y_free h ?_ | refine y_first h ?_ | refine y_wordOf h ?_ _ _ | refine y_tally h ?_ ?_ _ | refine y_rank h ?_ | refine y_needs h ?_ | refine y_outcome h ?_ ?_ _ _ | refine y_aAbsent h ?_ _) | split)
theorem y_aVote {S : Cst} {x : Nat} {r : Option Nat} (h : wfS S) (k : iK S x 1) (kr : iR S r 3) (a b : Int32) : p_Y8_againstVote S x r a b := by
  unfold p_Y8_againstVote
  simp only [q_Y8_againstVote_17, q_Y8_againstVote_44]
  repeat' (first | with_reducible (first | exact trivial | assumption | exact nB0 | exact nB1 | refine And.intro ?_ ?_ | refine iteI (fun _ => ?_) (fun _ => ?_) | refine ir_k ?_ | refine g0_0 h ?_ | exact g5_1 h (by assumption) | exact g0_1 h (by assumption) | refine g5_1 h (ir_k (g0_2 h ?_)) | refine g0_1 h (ir_k (g7_0 h ?_)) | refine g0_1 h (ir_k (g7_1 h ?_)) | refine g5_1 h ?_ | refine g0_2 h ?_ | refine g0_3 h ?_ | exact g7_4 h (by assumption) | refine g0_4 h ?_ | refine g0_5 h ?_ | refine g0_6 h ?_ | refine g1_1 h ?_ | refine g1_7 h ?_ | refine g2_2 h ?_ | refine g3_12 h ?_ | refine g3_13 h ?_ | refine g4_0 h ?_ | refine g6_0 h ?_ | refine g7_0 h ?_ | refine g7_1 h ?_ | exact ix_lt (by assumption) (by assumption) | exact ix_ge (by assumption) (by assumption) | exact ix_l1 (by assumption) (by assumption) | refine i_at h ?_ (by assumption) | refine i_top h ?_ (by assumption) | refine i_motion h ?_ (by assumption) | refine i_place h ?_ (by assumption) | refine i_first h ?_ (by assumption) | exact rk_ir (by assumption) (by assumption) | refine t_at h ?_ _ | refine t_top h ?_ | refine t_motion h ?_ | refine t_place h ?_ _ | refine t_first h ?_ | refine y_has h ?_ _ | refine y_isThere h ?_ _ | exact y_hasFloor _ _ _ | exact y_hasQuorum _ _ | refine y_voteOf h ?_ _ | refine y_isMajority h ?_ _ _ _ | exact y_isFull _ _ | refine y_ledAt h ?_ _ _ | exact y_mNeeds _ _ | exact y_amends _ _ | refine y_canBeAbout ?_ | refine y_mFact h ?_ _ | refine y_at h ?_ _ | refine y_top h ?_ | exact y_empty _ _ | refine y_motion h ?_ | refine y_wordAt h ?_ _ | refine y_kind h ?_ | refine y_plWord h ?_ _ | refine y_plFact h ?_ _ | exact y_sizeWith _ _ _ _ _ | refine y_placeAt h ?_ _ | refine y_free h ?_ | refine y_first h ?_ | refine y_wordOf h ?_ _ _ | refine y_tally h ?_ ?_ _ | refine y_rank h ?_ | refine y_needs h ?_ | refine y_outcome h ?_ ?_ _ _ | refine y_aAbsent h ?_ _ | refine y_aSecond h ?_ ?_ _) | split)
theorem y_aWithdraw {S : Cst} {x : Nat} {r : Option Nat} (h : wfS S) (k : iK S x 1) (kr : iR S r 3) (a : Int32) : p_Y8_againstWithdraw S x r a := by
  unfold p_Y8_againstWithdraw
  simp only [q_Y8_againstWithdraw_17, q_Y8_againstWithdraw_33]
  repeat' (first | with_reducible (first | exact trivial | assumption | exact nB0 | exact nB1 | refine And.intro ?_ ?_ | refine iteI (fun _ => ?_) (fun _ => ?_) | refine ir_k ?_ | refine g0_0 h ?_ | exact g5_1 h (by assumption) | exact g0_1 h (by assumption) | refine g5_1 h (ir_k (g0_2 h ?_)) | refine g0_1 h (ir_k (g7_0 h ?_)) | refine g0_1 h (ir_k (g7_1 h ?_)) | refine g5_1 h ?_ | refine g0_2 h ?_ | refine g0_3 h ?_ | exact g7_4 h (by assumption) | refine g0_4 h ?_ | refine g0_5 h ?_ | refine g0_6 h ?_ | refine g1_1 h ?_ | refine g1_7 h ?_ | refine g2_2 h ?_ | refine g3_12 h ?_ | refine g3_13 h ?_ | refine g4_0 h ?_ | refine g6_0 h ?_ | refine g7_0 h ?_ | refine g7_1 h ?_ | exact ix_lt (by assumption) (by assumption) | exact ix_ge (by assumption) (by assumption) | exact ix_l1 (by assumption) (by assumption) | refine i_at h ?_ (by assumption) | refine i_top h ?_ (by assumption) | refine i_motion h ?_ (by assumption) | refine i_place h ?_ (by assumption) | refine i_first h ?_ (by assumption) | exact rk_ir (by assumption) (by assumption) | refine t_at h ?_ _ | refine t_top h ?_ | refine t_motion h ?_ | refine t_place h ?_ _ | refine t_first h ?_ | refine y_has h ?_ _ | refine y_isThere h ?_ _ | exact y_hasFloor _ _ _ | exact y_hasQuorum _ _ | refine y_voteOf h ?_ _ | refine y_isMajority h ?_ _ _ _ | exact y_isFull _ _ | refine y_ledAt h ?_ _ _ | exact y_mNeeds _ _ | exact y_amends _ _ | refine y_canBeAbout ?_ | refine y_mFact h ?_ _ | refine y_at h ?_ _ | refine y_top h ?_ | exact y_empty _ _ | refine y_motion h ?_ | refine y_wordAt h ?_ _ | refine y_kind h ?_ | refine y_plWord h ?_ _ | refine y_plFact h ?_ _ | exact y_sizeWith _ _ _ _ _ | refine y_placeAt h ?_ _ | refine y_free h ?_ | refine y_first h ?_ | refine y_wordOf h ?_ _ _ | refine y_tally h ?_ ?_ _ | refine y_rank h ?_ | refine y_needs h ?_ | refine y_outcome h ?_ ?_ _ _ | refine y_aAbsent h ?_ _ | refine y_aSecond h ?_ ?_ _ | refine y_aVote h ?_ ?_ _ _) | split)
theorem y_aRule {S : Cst} {x : Nat} {r : Option Nat} (h : wfS S) (k : iK S x 0) (kr : iR S r 3) : p_Y8_againstRule S x r := by
  unfold p_Y8_againstRule
  simp only [q_Y8_againstRule_30]
  repeat' (first | with_reducible (first | exact trivial | assumption | exact nB0 | exact nB1 | refine And.intro ?_ ?_ | refine iteI (fun _ => ?_) (fun _ => ?_) | refine ir_k ?_ | refine g0_0 h ?_ | exact g5_1 h (by assumption) | exact g0_1 h (by assumption) | refine g5_1 h (ir_k (g0_2 h ?_)) | refine g0_1 h (ir_k (g7_0 h ?_)) | refine g0_1 h (ir_k (g7_1 h ?_)) | refine g5_1 h ?_ | refine g0_2 h ?_ | refine g0_3 h ?_ | exact g7_4 h (by assumption) | refine g0_4 h ?_ | refine g0_5 h ?_ | refine g0_6 h ?_ | refine g1_1 h ?_ | refine g1_7 h ?_ | refine g2_2 h ?_ | refine g3_12 h ?_ | refine g3_13 h ?_ | refine g4_0 h ?_ | refine g6_0 h ?_ | refine g7_0 h ?_ | refine g7_1 h ?_ | exact ix_lt (by assumption) (by assumption) | exact ix_ge (by assumption) (by assumption) | exact ix_l1 (by assumption) (by assumption) | refine i_at h ?_ (by assumption) | refine i_top h ?_ (by assumption) | refine i_motion h ?_ (by assumption) | refine i_place h ?_ (by assumption) | refine i_first h ?_ (by assumption) | exact rk_ir (by assumption) (by assumption) | refine t_at h ?_ _ | refine t_top h ?_ | refine t_motion h ?_ | refine t_place h ?_ _ | refine t_first h ?_ | refine y_has h ?_ _ | refine y_isThere h ?_ _ | exact y_hasFloor _ _ _ | exact y_hasQuorum _ _ | refine y_voteOf h ?_ _ | refine y_isMajority h ?_ _ _ _ | exact y_isFull _ _ | refine y_ledAt h ?_ _ _ | exact y_mNeeds _ _ | exact y_amends _ _ | refine y_canBeAbout ?_ | refine y_mFact h ?_ _ | refine y_at h ?_ _ | refine y_top h ?_ | exact y_empty _ _ | refine y_motion h ?_ | refine y_wordAt h ?_ _ | refine y_kind h ?_ | refine y_plWord h ?_ _ | refine y_plFact h ?_ _ | exact y_sizeWith _ _ _ _ _ | refine y_placeAt h ?_ _ | refine y_free h ?_ | refine y_first h ?_ | refine y_wordOf h ?_ _ _ | refine y_tally h ?_ ?_ _ | refine y_rank h ?_ | refine y_needs h ?_ | refine y_outcome h ?_ ?_ _ _ | refine y_aAbsent h ?_ _ | refine y_aSecond h ?_ ?_ _ | refine y_aVote h ?_ ?_ _ _ | refine y_aWithdraw h ?_ ?_ _) | split)
theorem y_aAppeal {S : Cst} {x : Nat} {r : Option Nat} (h : wfS S) (k : iK S x 1) (kr : iR S r 3) (a : Int32) : p_Y8_againstAppeal S x r a := by
  unfold p_Y8_againstAppeal
  simp only [q_Y8_againstAppeal_17, q_Y8_againstAppeal_45]
  repeat' (first | with_reducible (first | exact trivial | assumption | exact nB0 | exact nB1 | refine And.intro ?_ ?_ | refine iteI (fun _ => ?_) (fun _ => ?_) | refine ir_k ?_ | refine g0_0 h ?_ | exact g5_1 h (by assumption) | exact g0_1 h (by assumption) | refine g5_1 h (ir_k (g0_2 h ?_)) | refine g0_1 h (ir_k (g7_0 h ?_)) | refine g0_1 h (ir_k (g7_1 h ?_)) | refine g5_1 h ?_ | refine g0_2 h ?_ | refine g0_3 h ?_ | exact g7_4 h (by assumption) | refine g0_4 h ?_ | refine g0_5 h ?_ | refine g0_6 h ?_ | refine g1_1 h ?_ | refine g1_7 h ?_ | refine g2_2 h ?_ | refine g3_12 h ?_ | refine g3_13 h ?_ | refine g4_0 h ?_ | refine g6_0 h ?_ | refine g7_0 h ?_ | refine g7_1 h ?_ | exact ix_lt (by assumption) (by assumption) | exact ix_ge (by assumption) (by assumption) | exact ix_l1 (by assumption) (by assumption) | refine i_at h ?_ (by assumption) | refine i_top h ?_ (by assumption) | refine i_motion h ?_ (by assumption) | refine i_place h ?_ (by assumption) | refine i_first h ?_ (by assumption) | exact rk_ir (by assumption) (by assumption) | refine t_at h ?_ _ | refine t_top h ?_ | refine t_motion h ?_ | refine t_place h ?_ _ | refine t_first h ?_ | refine y_has h ?_ _ | refine y_isThere h ?_ _ | exact y_hasFloor _ _ _ | exact y_hasQuorum _ _ | refine y_voteOf h ?_ _ | refine y_isMajority h ?_ _ _ _ | exact y_isFull _ _ | refine y_ledAt h ?_ _ _ | exact y_mNeeds _ _ | exact y_amends _ _ | refine y_canBeAbout ?_ | refine y_mFact h ?_ _ | refine y_at h ?_ _ | refine y_top h ?_ | exact y_empty _ _ | refine y_motion h ?_ | refine y_wordAt h ?_ _ | refine y_kind h ?_ | refine y_plWord h ?_ _ | refine y_plFact h ?_ _ | exact y_sizeWith _ _ _ _ _ | refine y_placeAt h ?_ _ | refine y_free h ?_ | refine y_first h ?_ | refine y_wordOf h ?_ _ _ | refine y_tally h ?_ ?_ _ | refine y_rank h ?_ | refine y_needs h ?_ | refine y_outcome h ?_ ?_ _ _ | refine y_aAbsent h ?_ _ | refine y_aSecond h ?_ ?_ _ | refine y_aVote h ?_ ?_ _ _ | refine y_aWithdraw h ?_ ?_ _ | refine y_aRule h ?_ ?_) | split)
theorem y_outOfRank {S : Cst} {x : Nat} {r t : Option Nat} (h : wfS S) (k : iK S x 4) (kr : rK S r 3) (kt : rK S t 3) : p_Y8_isOutOfRank S x r t := by
  unfold p_Y8_isOutOfRank
  simp only [q_Y8_isOutOfRank_21, q_Y8_isOutOfRank_12, q_Y8_isOutOfRank_63, q_Y8_isOutOfRank_58, q_Y8_isOutOfRank_42]
  repeat' (first | with_reducible (first | exact trivial | assumption | exact nB0 | exact nB1 | refine And.intro ?_ ?_ | refine iteI (fun _ => ?_) (fun _ => ?_) | refine ir_k ?_ | refine g0_0 h ?_ | exact g5_1 h (by assumption) | exact g0_1 h (by assumption) | refine g5_1 h (ir_k (g0_2 h ?_)) | refine g0_1 h (ir_k (g7_0 h ?_)) | refine g0_1 h (ir_k (g7_1 h ?_)) | refine g5_1 h ?_ | refine g0_2 h ?_ | refine g0_3 h ?_ | exact g7_4 h (by assumption) | refine g0_4 h ?_ | refine g0_5 h ?_ | refine g0_6 h ?_ | refine g1_1 h ?_ | refine g1_7 h ?_ | refine g2_2 h ?_ | refine g3_12 h ?_ | refine g3_13 h ?_ | refine g4_0 h ?_ | refine g6_0 h ?_ | refine g7_0 h ?_ | refine g7_1 h ?_ | exact ix_lt (by assumption) (by assumption) | exact ix_ge (by assumption) (by assumption) | exact ix_l1 (by assumption) (by assumption) | refine i_at h ?_ (by assumption) | refine i_top h ?_ (by assumption) | refine i_motion h ?_ (by assumption) | refine i_place h ?_ (by assumption) | refine i_first h ?_ (by assumption) | exact rk_ir (by assumption) (by assumption) | refine t_at h ?_ _ | refine t_top h ?_ | refine t_motion h ?_ | refine t_place h ?_ _ | refine t_first h ?_ | refine y_has h ?_ _ | refine y_isThere h ?_ _ | exact y_hasFloor _ _ _ | exact y_hasQuorum _ _ | refine y_voteOf h ?_ _ | refine y_isMajority h ?_ _ _ _ | exact y_isFull _ _ | refine y_ledAt h ?_ _ _ | exact y_mNeeds _ _ | exact y_amends _ _ | refine y_canBeAbout ?_ | refine y_mFact h ?_ _ | refine y_at h ?_ _ | refine y_top h ?_ | exact y_empty _ _ | refine y_motion h ?_ | refine y_wordAt h ?_ _ | refine y_kind h ?_ | refine y_plWord h ?_ _ | refine y_plFact h ?_ _ | exact y_sizeWith _ _ _ _ _ | refine y_placeAt h ?_ _ | refine y_free h ?_ | refine y_first h ?_ | refine y_wordOf h ?_ _ _ | refine y_tally h ?_ ?_ _ | refine y_rank h ?_ | refine y_needs h ?_ | refine y_outcome h ?_ ?_ _ _ | refine y_aAbsent h ?_ _ | refine y_aSecond h ?_ ?_ _ | refine y_aVote h ?_ ?_ _ _ | refine y_aWithdraw h ?_ ?_ _ | refine y_aRule h ?_ ?_ | refine y_aAppeal h ?_ ?_ _) | split)
theorem y_tooLong {S : Cst} {x : Nat} {r t : Option Nat} (h : wfS S) (k : iK S x 4) (kr : iR S r 3) (kt : iR S t 3) : p_Y8_makesTextTooLong S x r t := by
  unfold p_Y8_makesTextTooLong
  simp only [q_Y8_makesTextTooLong_85, q_Y8_makesTextTooLong_84, q_Y8_makesTextTooLong_74a, q_Y8_makesTextTooLong_22a]
  repeat' (first | with_reducible (first | exact trivial | assumption | exact nB0 | exact nB1 | refine And.intro ?_ ?_ | refine iteI (fun _ => ?_) (fun _ => ?_) | refine ir_k ?_ | refine g0_0 h ?_ | exact g5_1 h (by assumption) | exact g0_1 h (by assumption) | refine g5_1 h (ir_k (g0_2 h ?_)) | refine g0_1 h (ir_k (g7_0 h ?_)) | refine g0_1 h (ir_k (g7_1 h ?_)) | refine g5_1 h ?_ | refine g0_2 h ?_ | refine g0_3 h ?_ | exact g7_4 h (by assumption) | refine g0_4 h ?_ | refine g0_5 h ?_ | refine g0_6 h ?_ | refine g1_1 h ?_ | refine g1_7 h ?_ | refine g2_2 h ?_ | refine g3_12 h ?_ | refine g3_13 h ?_ | refine g4_0 h ?_ | refine g6_0 h ?_ | refine g7_0 h ?_ | refine g7_1 h ?_ | exact ix_lt (by assumption) (by assumption) | exact ix_ge (by assumption) (by assumption) | exact ix_l1 (by assumption) (by assumption) | refine i_at h ?_ (by assumption) | refine i_top h ?_ (by assumption) | refine i_motion h ?_ (by assumption) | refine i_place h ?_ (by assumption) | refine i_first h ?_ (by assumption) | exact rk_ir (by assumption) (by assumption) | refine t_at h ?_ _ | refine t_top h ?_ | refine t_motion h ?_ | refine t_place h ?_ _ | refine t_first h ?_ | refine y_has h ?_ _ | refine y_isThere h ?_ _ | exact y_hasFloor _ _ _ | exact y_hasQuorum _ _ | refine y_voteOf h ?_ _ | refine y_isMajority h ?_ _ _ _ | exact y_isFull _ _ | refine y_ledAt h ?_ _ _ | exact y_mNeeds _ _ | exact y_amends _ _ | refine y_canBeAbout ?_ | refine y_mFact h ?_ _ | refine y_at h ?_ _ | refine y_top h ?_ | exact y_empty _ _ | refine y_motion h ?_ | refine y_wordAt h ?_ _ | refine y_kind h ?_ | refine y_plWord h ?_ _ | refine y_plFact h ?_ _ | exact y_sizeWith _ _ _ _ _ | refine y_placeAt h ?_ _ | refine y_free h ?_ | refine y_first h ?_ | refine y_wordOf h ?_ _ _ | refine y_tally h ?_ ?_ _ | refine y_rank h ?_ | refine y_needs h ?_ | refine y_outcome h ?_ ?_ _ _ | refine y_aAbsent h ?_ _ | refine y_aSecond h ?_ ?_ _ | refine y_aVote h ?_ ?_ _ _ | refine y_aWithdraw h ?_ ?_ _ | refine y_aRule h ?_ ?_ | refine y_aAppeal h ?_ ?_ _ | refine y_outOfRank h ?_ ?_ ?_) | split)
theorem y_lacks {S : Cst} {x : Nat} {r t : Option Nat} (h : wfS S) (k : iK S x 0) (kr : iR S r 3) (kt : rK S t 3) : p_Y8_lacksRoom S x r t := by
  unfold p_Y8_lacksRoom
  simp only [q_Y8_lacksRoom_62, q_Y8_lacksRoom_61, q_Y8_lacksRoom_33]
  repeat' (first | with_reducible (first | exact trivial | assumption | exact nB0 | exact nB1 | refine And.intro ?_ ?_ | refine iteI (fun _ => ?_) (fun _ => ?_) | refine ir_k ?_ | refine g0_0 h ?_ | exact g5_1 h (by assumption) | exact g0_1 h (by assumption) | refine g5_1 h (ir_k (g0_2 h ?_)) | refine g0_1 h (ir_k (g7_0 h ?_)) | refine g0_1 h (ir_k (g7_1 h ?_)) | refine g5_1 h ?_ | refine g0_2 h ?_ | refine g0_3 h ?_ | exact g7_4 h (by assumption) | refine g0_4 h ?_ | refine g0_5 h ?_ | refine g0_6 h ?_ | refine g1_1 h ?_ | refine g1_7 h ?_ | refine g2_2 h ?_ | refine g3_12 h ?_ | refine g3_13 h ?_ | refine g4_0 h ?_ | refine g6_0 h ?_ | refine g7_0 h ?_ | refine g7_1 h ?_ | exact ix_lt (by assumption) (by assumption) | exact ix_ge (by assumption) (by assumption) | exact ix_l1 (by assumption) (by assumption) | refine i_at h ?_ (by assumption) | refine i_top h ?_ (by assumption) | refine i_motion h ?_ (by assumption) | refine i_place h ?_ (by assumption) | refine i_first h ?_ (by assumption) | exact rk_ir (by assumption) (by assumption) | refine t_at h ?_ _ | refine t_top h ?_ | refine t_motion h ?_ | refine t_place h ?_ _ | refine t_first h ?_ | refine y_has h ?_ _ | refine y_isThere h ?_ _ | exact y_hasFloor _ _ _ | exact y_hasQuorum _ _ | refine y_voteOf h ?_ _ | refine y_isMajority h ?_ _ _ _ | exact y_isFull _ _ | refine y_ledAt h ?_ _ _ | exact y_mNeeds _ _ | exact y_amends _ _ | refine y_canBeAbout ?_ | refine y_mFact h ?_ _ | refine y_at h ?_ _ | refine y_top h ?_ | exact y_empty _ _ | refine y_motion h ?_ | refine y_wordAt h ?_ _ | refine y_kind h ?_ | refine y_plWord h ?_ _ | refine y_plFact h ?_ _ | exact y_sizeWith _ _ _ _ _ | refine y_placeAt h ?_ _ | refine y_free h ?_ | refine y_first h ?_ | refine y_wordOf h ?_ _ _ | refine y_tally h ?_ ?_ _ | refine y_rank h ?_ | refine y_needs h ?_ | refine y_outcome h ?_ ?_ _ _ | refine y_aAbsent h ?_ _ | refine y_aSecond h ?_ ?_ _ | refine y_aVote h ?_ ?_ _ _ | refine y_aWithdraw h ?_ ?_ _ | refine y_aRule h ?_ ?_ | refine y_aAppeal h ?_ ?_ _ | refine y_outOfRank h ?_ ?_ ?_ | refine y_tooLong h ?_ ?_ ?_) | split)
theorem y_offSub {S : Cst} {r t : Option Nat} (h : wfS S) (kr : iR S r 3) (kt : rK S t 3) : p_Y8_isOffSubject S r t := by
  unfold p_Y8_isOffSubject
  simp only [q_Y8_isOffSubject_11, q_Y8_isOffSubject_50, q_Y8_isOffSubject_45, q_Y8_isOffSubject_31]
  repeat' (first | with_reducible (first | exact trivial | assumption | exact nB0 | exact nB1 | refine And.intro ?_ ?_ | refine iteI (fun _ => ?_) (fun _ => ?_) | refine ir_k ?_ | refine g0_0 h ?_ | exact g5_1 h (by assumption) | exact g0_1 h (by assumption) | refine g5_1 h (ir_k (g0_2 h ?_)) | refine g0_1 h (ir_k (g7_0 h ?_)) | refine g0_1 h (ir_k (g7_1 h ?_)) | refine g5_1 h ?_ | refine g0_2 h ?_ | refine g0_3 h ?_ | exact g7_4 h (by assumption) | refine g0_4 h ?_ | refine g0_5 h ?_ | refine g0_6 h ?_ | refine g1_1 h ?_ | refine g1_7 h ?_ | refine g2_2 h ?_ | refine g3_12 h ?_ | refine g3_13 h ?_ | refine g4_0 h ?_ | refine g6_0 h ?_ | refine g7_0 h ?_ | refine g7_1 h ?_ | exact ix_lt (by assumption) (by assumption) | exact ix_ge (by assumption) (by assumption) | exact ix_l1 (by assumption) (by assumption) | refine i_at h ?_ (by assumption) | refine i_top h ?_ (by assumption) | refine i_motion h ?_ (by assumption) | refine i_place h ?_ (by assumption) | refine i_first h ?_ (by assumption) | exact rk_ir (by assumption) (by assumption) | refine t_at h ?_ _ | refine t_top h ?_ | refine t_motion h ?_ | refine t_place h ?_ _ | refine t_first h ?_ | refine y_has h ?_ _ | refine y_isThere h ?_ _ | exact y_hasFloor _ _ _ | exact y_hasQuorum _ _ | refine y_voteOf h ?_ _ | refine y_isMajority h ?_ _ _ _ | exact y_isFull _ _ | refine y_ledAt h ?_ _ _ | exact y_mNeeds _ _ | exact y_amends _ _ | refine y_canBeAbout ?_ | refine y_mFact h ?_ _ | refine y_at h ?_ _ | refine y_top h ?_ | exact y_empty _ _ | refine y_motion h ?_ | refine y_wordAt h ?_ _ | refine y_kind h ?_ | refine y_plWord h ?_ _ | refine y_plFact h ?_ _ | exact y_sizeWith _ _ _ _ _ | refine y_placeAt h ?_ _ | refine y_free h ?_ | refine y_first h ?_ | refine y_wordOf h ?_ _ _ | refine y_tally h ?_ ?_ _ | refine y_rank h ?_ | refine y_needs h ?_ | refine y_outcome h ?_ ?_ _ _ | refine y_aAbsent h ?_ _ | refine y_aSecond h ?_ ?_ _ | refine y_aVote h ?_ ?_ _ _ | refine y_aWithdraw h ?_ ?_ _ | refine y_aRule h ?_ ?_ | refine y_aAppeal h ?_ ?_ _ | refine y_outOfRank h ?_ ?_ ?_ | refine y_tooLong h ?_ ?_ ?_ | refine y_lacks h ?_ ?_ ?_) | split)
theorem y_aMove {S : Cst} {x : Nat} (h : wfS S) (k : iK S x 0) (a : Int32) : p_Y8_againstMove S x a := by
  unfold p_Y8_againstMove
  simp only [q_Y8_againstMove_129, q_Y8_againstMove_114, q_Y8_againstMove_79, q_Y8_againstMove_77, q_Y8_againstMove_38a]
  repeat' (first | with_reducible (first | exact trivial | assumption | exact nB0 | exact nB1 | refine And.intro ?_ ?_ | refine iteI (fun _ => ?_) (fun _ => ?_) | refine ir_k ?_ | refine g0_0 h ?_ | exact g5_1 h (by assumption) | exact g0_1 h (by assumption) | refine g5_1 h (ir_k (g0_2 h ?_)) | refine g0_1 h (ir_k (g7_0 h ?_)) | refine g0_1 h (ir_k (g7_1 h ?_)) | refine g5_1 h ?_ | refine g0_2 h ?_ | refine g0_3 h ?_ | exact g7_4 h (by assumption) | refine g0_4 h ?_ | refine g0_5 h ?_ | refine g0_6 h ?_ | refine g1_1 h ?_ | refine g1_7 h ?_ | refine g2_2 h ?_ | refine g3_12 h ?_ | refine g3_13 h ?_ | refine g4_0 h ?_ | refine g6_0 h ?_ | refine g7_0 h ?_ | refine g7_1 h ?_ | exact ix_lt (by assumption) (by assumption) | exact ix_ge (by assumption) (by assumption) | exact ix_l1 (by assumption) (by assumption) | refine i_at h ?_ (by assumption) | refine i_top h ?_ (by assumption) | refine i_motion h ?_ (by assumption) | refine i_place h ?_ (by assumption) | refine i_first h ?_ (by assumption) | exact rk_ir (by assumption) (by assumption) | refine t_at h ?_ _ | refine t_top h ?_ | refine t_motion h ?_ | refine t_place h ?_ _ | refine t_first h ?_ | refine y_has h ?_ _ | refine y_isThere h ?_ _ | exact y_hasFloor _ _ _ | exact y_hasQuorum _ _ | refine y_voteOf h ?_ _ | refine y_isMajority h ?_ _ _ _ | exact y_isFull _ _ | refine y_ledAt h ?_ _ _ | exact y_mNeeds _ _ | exact y_amends _ _ | refine y_canBeAbout ?_ | refine y_mFact h ?_ _ | refine y_at h ?_ _ | refine y_top h ?_ | exact y_empty _ _ | refine y_motion h ?_ | refine y_wordAt h ?_ _ | refine y_kind h ?_ | refine y_plWord h ?_ _ | refine y_plFact h ?_ _ | exact y_sizeWith _ _ _ _ _ | refine y_placeAt h ?_ _ | refine y_free h ?_ | refine y_first h ?_ | refine y_wordOf h ?_ _ _ | refine y_tally h ?_ ?_ _ | refine y_rank h ?_ | refine y_needs h ?_ | refine y_outcome h ?_ ?_ _ _ | refine y_aAbsent h ?_ _ | refine y_aSecond h ?_ ?_ _ | refine y_aVote h ?_ ?_ _ _ | refine y_aWithdraw h ?_ ?_ _ | refine y_aRule h ?_ ?_ | refine y_aAppeal h ?_ ?_ _ | refine y_outOfRank h ?_ ?_ ?_ | refine y_tooLong h ?_ ?_ ?_ | refine y_lacks h ?_ ?_ ?_ | refine y_offSub h ?_ ?_) | split)
theorem y_aSpan {S : Cst} {x : Nat} (h : wfS S) (k : iK S x 0) (a b : Int32) : p_Y8_againstSpan S x a b := by
  unfold p_Y8_againstSpan
  simp only [q_Y8_againstSpan_26, q_Y8_againstSpan_51, q_Y8_againstSpan_45]
  repeat' (first | with_reducible (first | exact trivial | assumption | exact nB0 | exact nB1 | refine And.intro ?_ ?_ | refine iteI (fun _ => ?_) (fun _ => ?_) | refine ir_k ?_ | refine g0_0 h ?_ | exact g5_1 h (by assumption) | exact g0_1 h (by assumption) | refine g5_1 h (ir_k (g0_2 h ?_)) | refine g0_1 h (ir_k (g7_0 h ?_)) | refine g0_1 h (ir_k (g7_1 h ?_)) | refine g5_1 h ?_ | refine g0_2 h ?_ | refine g0_3 h ?_ | exact g7_4 h (by assumption) | refine g0_4 h ?_ | refine g0_5 h ?_ | refine g0_6 h ?_ | refine g1_1 h ?_ | refine g1_7 h ?_ | refine g2_2 h ?_ | refine g3_12 h ?_ | refine g3_13 h ?_ | refine g4_0 h ?_ | refine g6_0 h ?_ | refine g7_0 h ?_ | refine g7_1 h ?_ | exact ix_lt (by assumption) (by assumption) | exact ix_ge (by assumption) (by assumption) | exact ix_l1 (by assumption) (by assumption) | refine i_at h ?_ (by assumption) | refine i_top h ?_ (by assumption) | refine i_motion h ?_ (by assumption) | refine i_place h ?_ (by assumption) | refine i_first h ?_ (by assumption) | exact rk_ir (by assumption) (by assumption) | refine t_at h ?_ _ | refine t_top h ?_ | refine t_motion h ?_ | refine t_place h ?_ _ | refine t_first h ?_ | refine y_has h ?_ _ | refine y_isThere h ?_ _ | exact y_hasFloor _ _ _ | exact y_hasQuorum _ _ | refine y_voteOf h ?_ _ | refine y_isMajority h ?_ _ _ _ | exact y_isFull _ _ | refine y_ledAt h ?_ _ _ | exact y_mNeeds _ _ | exact y_amends _ _ | refine y_canBeAbout ?_ | refine y_mFact h ?_ _ | refine y_at h ?_ _ | refine y_top h ?_ | exact y_empty _ _ | refine y_motion h ?_ | refine y_wordAt h ?_ _ | refine y_kind h ?_ | refine y_plWord h ?_ _ | refine y_plFact h ?_ _ | exact y_sizeWith _ _ _ _ _ | refine y_placeAt h ?_ _ | refine y_free h ?_ | refine y_first h ?_ | refine y_wordOf h ?_ _ _ | refine y_tally h ?_ ?_ _ | refine y_rank h ?_ | refine y_needs h ?_ | refine y_outcome h ?_ ?_ _ _ | refine y_aAbsent h ?_ _ | refine y_aSecond h ?_ ?_ _ | refine y_aVote h ?_ ?_ _ _ | refine y_aWithdraw h ?_ ?_ _ | refine y_aRule h ?_ ?_ | refine y_aAppeal h ?_ ?_ _ | refine y_outOfRank h ?_ ?_ ?_ | refine y_tooLong h ?_ ?_ ?_ | refine y_lacks h ?_ ?_ ?_ | refine y_offSub h ?_ ?_ | refine y_aMove h ?_ _) | split)
theorem y_isWord (S : Cst) (a : Int32) : p_Y8_isWordOrZero S a := by
  unfold p_Y8_isWordOrZero
  simp only [q_Y8_isWordOrZero_16, q_Y8_isWordOrZero_15]
  repeat' (first | with_reducible (first | exact trivial | assumption | exact nB0 | exact nB1 | refine And.intro ?_ ?_ | refine iteI (fun _ => ?_) (fun _ => ?_) | refine ir_k ?_ | refine g0_0 h ?_ | exact g5_1 h (by assumption) | exact g0_1 h (by assumption) | refine g5_1 h (ir_k (g0_2 h ?_)) | refine g0_1 h (ir_k (g7_0 h ?_)) | refine g0_1 h (ir_k (g7_1 h ?_)) | refine g5_1 h ?_ | refine g0_2 h ?_ | refine g0_3 h ?_ | exact g7_4 h (by assumption) | refine g0_4 h ?_ | refine g0_5 h ?_ | refine g0_6 h ?_ | refine g1_1 h ?_ | refine g1_7 h ?_ | refine g2_2 h ?_ | refine g3_12 h ?_ | refine g3_13 h ?_ | refine g4_0 h ?_ | refine g6_0 h ?_ | refine g7_0 h ?_ | refine g7_1 h ?_ | exact ix_lt (by assumption) (by assumption) | exact ix_ge (by assumption) (by assumption) | exact ix_l1 (by assumption) (by assumption) | refine i_at h ?_ (by assumption) | refine i_top h ?_ (by assumption) | refine i_motion h ?_ (by assumption) | refine i_place h ?_ (by assumption) | refine i_first h ?_ (by assumption) | exact rk_ir (by assumption) (by assumption) | refine t_at h ?_ _ | refine t_top h ?_ | refine t_motion h ?_ | refine t_place h ?_ _ | refine t_first h ?_ | refine y_has h ?_ _ | refine y_isThere h ?_ _ | exact y_hasFloor _ _ _ | exact y_hasQuorum _ _ | refine y_voteOf h ?_ _ | refine y_isMajority h ?_ _ _ _ | exact y_isFull _ _ | refine y_ledAt h ?_ _ _ | exact y_mNeeds _ _ | exact y_amends _ _ | refine y_canBeAbout ?_ | refine y_mFact h ?_ _ | refine y_at h ?_ _ | refine y_top h ?_ | exact y_empty _ _ | refine y_motion h ?_ | refine y_wordAt h ?_ _ | refine y_kind h ?_ | refine y_plWord h ?_ _ | refine y_plFact h ?_ _ | exact y_sizeWith _ _ _ _ _ | refine y_placeAt h ?_ _ | refine y_free h ?_ | refine y_first h ?_ | refine y_wordOf h ?_ _ _ | refine y_tally h ?_ ?_ _ | refine y_rank h ?_ | refine y_needs h ?_ | refine y_outcome h ?_ ?_ _ _ | refine y_aAbsent h ?_ _ | refine y_aSecond h ?_ ?_ _ | refine y_aVote h ?_ ?_ _ _ | refine y_aWithdraw h ?_ ?_ _ | refine y_aRule h ?_ ?_ | refine y_aAppeal h ?_ ?_ _ | refine y_outOfRank h ?_ ?_ ?_ | refine y_tooLong h ?_ ?_ ?_ | refine y_lacks h ?_ ?_ ?_ | refine y_offSub h ?_ ?_ | refine y_aMove h ?_ _ | refine y_aSpan h ?_ _ _) | split)
theorem y_aWord {S : Cst} {x : Nat} (h : wfS S) (k : iK S x 0) (a b c d : Int32) : p_Y8_againstWord S x a b c d := by
  unfold p_Y8_againstWord
  simp only [q_Y8_againstWord_31, q_Y8_againstWord_67, q_Y8_againstWord_127, q_Y8_againstWord_101, q_Y8_againstWord_90, q_Y8_againstWord_80]
  repeat' (first | with_reducible (first | exact trivial | assumption | exact nB0 | exact nB1 | refine And.intro ?_ ?_ | refine iteI (fun _ => ?_) (fun _ => ?_) | refine ir_k ?_ | refine g0_0 h ?_ | exact g5_1 h (by assumption) | exact g0_1 h (by assumption) | refine g5_1 h (ir_k (g0_2 h ?_)) | refine g0_1 h (ir_k (g7_0 h ?_)) | refine g0_1 h (ir_k (g7_1 h ?_)) | refine g5_1 h ?_ | refine g0_2 h ?_ | refine g0_3 h ?_ | exact g7_4 h (by assumption) | refine g0_4 h ?_ | refine g0_5 h ?_ | refine g0_6 h ?_ | refine g1_1 h ?_ | refine g1_7 h ?_ | refine g2_2 h ?_ | refine g3_12 h ?_ | refine g3_13 h ?_ | refine g4_0 h ?_ | refine g6_0 h ?_ | refine g7_0 h ?_ | refine g7_1 h ?_ | exact ix_lt (by assumption) (by assumption) | exact ix_ge (by assumption) (by assumption) | exact ix_l1 (by assumption) (by assumption) | refine i_at h ?_ (by assumption) | refine i_top h ?_ (by assumption) | refine i_motion h ?_ (by assumption) | refine i_place h ?_ (by assumption) | refine i_first h ?_ (by assumption) | exact rk_ir (by assumption) (by assumption) | refine t_at h ?_ _ | refine t_top h ?_ | refine t_motion h ?_ | refine t_place h ?_ _ | refine t_first h ?_ | refine y_has h ?_ _ | refine y_isThere h ?_ _ | exact y_hasFloor _ _ _ | exact y_hasQuorum _ _ | refine y_voteOf h ?_ _ | refine y_isMajority h ?_ _ _ _ | exact y_isFull _ _ | refine y_ledAt h ?_ _ _ | exact y_mNeeds _ _ | exact y_amends _ _ | refine y_canBeAbout ?_ | refine y_mFact h ?_ _ | refine y_at h ?_ _ | refine y_top h ?_ | exact y_empty _ _ | refine y_motion h ?_ | refine y_wordAt h ?_ _ | refine y_kind h ?_ | refine y_plWord h ?_ _ | refine y_plFact h ?_ _ | exact y_sizeWith _ _ _ _ _ | refine y_placeAt h ?_ _ | refine y_free h ?_ | refine y_first h ?_ | refine y_wordOf h ?_ _ _ | refine y_tally h ?_ ?_ _ | refine y_rank h ?_ | refine y_needs h ?_ | refine y_outcome h ?_ ?_ _ _ | refine y_aAbsent h ?_ _ | refine y_aSecond h ?_ ?_ _ | refine y_aVote h ?_ ?_ _ _ | refine y_aWithdraw h ?_ ?_ _ | refine y_aRule h ?_ ?_ | refine y_aAppeal h ?_ ?_ _ | refine y_outOfRank h ?_ ?_ ?_ | refine y_tooLong h ?_ ?_ ?_ | refine y_lacks h ?_ ?_ ?_ | refine y_offSub h ?_ ?_ | refine y_aMove h ?_ _ | refine y_aSpan h ?_ _ _ | exact y_isWord _ _) | split)
theorem y_aLay {S : Cst} {x : Nat} (h : wfS S) (k : iK S x 0) (a : Int32) : p_Y8_againstLay S x a := by
  unfold p_Y8_againstLay
  simp only [q_Y8_againstLay_30, q_Y8_againstLay_125, q_Y8_againstLay_124, q_Y8_againstLay_101, q_Y8_againstLay_82, q_Y8_againstLay_79a]
  repeat' (first | with_reducible (first | exact trivial | assumption | exact nB0 | exact nB1 | refine And.intro ?_ ?_ | refine iteI (fun _ => ?_) (fun _ => ?_) | refine ir_k ?_ | refine g0_0 h ?_ | exact g5_1 h (by assumption) | exact g0_1 h (by assumption) | refine g5_1 h (ir_k (g0_2 h ?_)) | refine g0_1 h (ir_k (g7_0 h ?_)) | refine g0_1 h (ir_k (g7_1 h ?_)) | refine g5_1 h ?_ | refine g0_2 h ?_ | refine g0_3 h ?_ | exact g7_4 h (by assumption) | refine g0_4 h ?_ | refine g0_5 h ?_ | refine g0_6 h ?_ | refine g1_1 h ?_ | refine g1_7 h ?_ | refine g2_2 h ?_ | refine g3_12 h ?_ | refine g3_13 h ?_ | refine g4_0 h ?_ | refine g6_0 h ?_ | refine g7_0 h ?_ | refine g7_1 h ?_ | exact ix_lt (by assumption) (by assumption) | exact ix_ge (by assumption) (by assumption) | exact ix_l1 (by assumption) (by assumption) | refine i_at h ?_ (by assumption) | refine i_top h ?_ (by assumption) | refine i_motion h ?_ (by assumption) | refine i_place h ?_ (by assumption) | refine i_first h ?_ (by assumption) | exact rk_ir (by assumption) (by assumption) | refine t_at h ?_ _ | refine t_top h ?_ | refine t_motion h ?_ | refine t_place h ?_ _ | refine t_first h ?_ | refine y_has h ?_ _ | refine y_isThere h ?_ _ | exact y_hasFloor _ _ _ | exact y_hasQuorum _ _ | refine y_voteOf h ?_ _ | refine y_isMajority h ?_ _ _ _ | exact y_isFull _ _ | refine y_ledAt h ?_ _ _ | exact y_mNeeds _ _ | exact y_amends _ _ | refine y_canBeAbout ?_ | refine y_mFact h ?_ _ | refine y_at h ?_ _ | refine y_top h ?_ | exact y_empty _ _ | refine y_motion h ?_ | refine y_wordAt h ?_ _ | refine y_kind h ?_ | refine y_plWord h ?_ _ | refine y_plFact h ?_ _ | exact y_sizeWith _ _ _ _ _ | refine y_placeAt h ?_ _ | refine y_free h ?_ | refine y_first h ?_ | refine y_wordOf h ?_ _ _ | refine y_tally h ?_ ?_ _ | refine y_rank h ?_ | refine y_needs h ?_ | refine y_outcome h ?_ ?_ _ _ | refine y_aAbsent h ?_ _ | refine y_aSecond h ?_ ?_ _ | refine y_aVote h ?_ ?_ _ _ | refine y_aWithdraw h ?_ ?_ _ | refine y_aRule h ?_ ?_ | refine y_aAppeal h ?_ ?_ _ | refine y_outOfRank h ?_ ?_ ?_ | refine y_tooLong h ?_ ?_ ?_ | refine y_lacks h ?_ ?_ ?_ | refine y_offSub h ?_ ?_ | refine y_aMove h ?_ _ | refine y_aSpan h ?_ _ _ | exact y_isWord _ _ | refine y_aWord h ?_ _ _ _ _) | split)
theorem y_aTake {S : Cst} {x : Nat} (h : wfS S) (k : iK S x 0) (a : Int32) : p_Y8_againstTake S x a := by
  unfold p_Y8_againstTake
  simp only [q_Y8_againstTake_36, q_Y8_againstTake_30]
  repeat' (first | with_reducible (first | exact trivial | assumption | exact nB0 | exact nB1 | refine And.intro ?_ ?_ | refine iteI (fun _ => ?_) (fun _ => ?_) | refine ir_k ?_ | refine g0_0 h ?_ | exact g5_1 h (by assumption) | exact g0_1 h (by assumption) | refine g5_1 h (ir_k (g0_2 h ?_)) | refine g0_1 h (ir_k (g7_0 h ?_)) | refine g0_1 h (ir_k (g7_1 h ?_)) | refine g5_1 h ?_ | refine g0_2 h ?_ | refine g0_3 h ?_ | exact g7_4 h (by assumption) | refine g0_4 h ?_ | refine g0_5 h ?_ | refine g0_6 h ?_ | refine g1_1 h ?_ | refine g1_7 h ?_ | refine g2_2 h ?_ | refine g3_12 h ?_ | refine g3_13 h ?_ | refine g4_0 h ?_ | refine g6_0 h ?_ | refine g7_0 h ?_ | refine g7_1 h ?_ | exact ix_lt (by assumption) (by assumption) | exact ix_ge (by assumption) (by assumption) | exact ix_l1 (by assumption) (by assumption) | refine i_at h ?_ (by assumption) | refine i_top h ?_ (by assumption) | refine i_motion h ?_ (by assumption) | refine i_place h ?_ (by assumption) | refine i_first h ?_ (by assumption) | exact rk_ir (by assumption) (by assumption) | refine t_at h ?_ _ | refine t_top h ?_ | refine t_motion h ?_ | refine t_place h ?_ _ | refine t_first h ?_ | refine y_has h ?_ _ | refine y_isThere h ?_ _ | exact y_hasFloor _ _ _ | exact y_hasQuorum _ _ | refine y_voteOf h ?_ _ | refine y_isMajority h ?_ _ _ _ | exact y_isFull _ _ | refine y_ledAt h ?_ _ _ | exact y_mNeeds _ _ | exact y_amends _ _ | refine y_canBeAbout ?_ | refine y_mFact h ?_ _ | refine y_at h ?_ _ | refine y_top h ?_ | exact y_empty _ _ | refine y_motion h ?_ | refine y_wordAt h ?_ _ | refine y_kind h ?_ | refine y_plWord h ?_ _ | refine y_plFact h ?_ _ | exact y_sizeWith _ _ _ _ _ | refine y_placeAt h ?_ _ | refine y_free h ?_ | refine y_first h ?_ | refine y_wordOf h ?_ _ _ | refine y_tally h ?_ ?_ _ | refine y_rank h ?_ | refine y_needs h ?_ | refine y_outcome h ?_ ?_ _ _ | refine y_aAbsent h ?_ _ | refine y_aSecond h ?_ ?_ _ | refine y_aVote h ?_ ?_ _ _ | refine y_aWithdraw h ?_ ?_ _ | refine y_aRule h ?_ ?_ | refine y_aAppeal h ?_ ?_ _ | refine y_outOfRank h ?_ ?_ ?_ | refine y_tooLong h ?_ ?_ ?_ | refine y_lacks h ?_ ?_ ?_ | refine y_offSub h ?_ ?_ | refine y_aMove h ?_ _ | refine y_aSpan h ?_ _ _ | exact y_isWord _ _ | refine y_aWord h ?_ _ _ _ _ | refine y_aLay h ?_ _) | split)
theorem y_aThere {S : Cst} {x : Nat} (h : wfS S) (k : iK S x 1) (a : Int32) : p_Y8_againstThere S x a := by
  unfold p_Y8_againstThere
  simp only [q_Y8_againstThere_25]
  repeat' (first | with_reducible (first | exact trivial | assumption | exact nB0 | exact nB1 | refine And.intro ?_ ?_ | refine iteI (fun _ => ?_) (fun _ => ?_) | refine ir_k ?_ | refine g0_0 h ?_ | exact g5_1 h (by assumption) | exact g0_1 h (by assumption) | refine g5_1 h (ir_k (g0_2 h ?_)) | refine g0_1 h (ir_k (g7_0 h ?_)) | refine g0_1 h (ir_k (g7_1 h ?_)) | refine g5_1 h ?_ | refine g0_2 h ?_ | refine g0_3 h ?_ | exact g7_4 h (by assumption) | refine g0_4 h ?_ | refine g0_5 h ?_ | refine g0_6 h ?_ | refine g1_1 h ?_ | refine g1_7 h ?_ | refine g2_2 h ?_ | refine g3_12 h ?_ | refine g3_13 h ?_ | refine g4_0 h ?_ | refine g6_0 h ?_ | refine g7_0 h ?_ | refine g7_1 h ?_ | exact ix_lt (by assumption) (by assumption) | exact ix_ge (by assumption) (by assumption) | exact ix_l1 (by assumption) (by assumption) | refine i_at h ?_ (by assumption) | refine i_top h ?_ (by assumption) | refine i_motion h ?_ (by assumption) | refine i_place h ?_ (by assumption) | refine i_first h ?_ (by assumption) | exact rk_ir (by assumption) (by assumption) | refine t_at h ?_ _ | refine t_top h ?_ | refine t_motion h ?_ | refine t_place h ?_ _ | refine t_first h ?_ | refine y_has h ?_ _ | refine y_isThere h ?_ _ | exact y_hasFloor _ _ _ | exact y_hasQuorum _ _ | refine y_voteOf h ?_ _ | refine y_isMajority h ?_ _ _ _ | exact y_isFull _ _ | refine y_ledAt h ?_ _ _ | exact y_mNeeds _ _ | exact y_amends _ _ | refine y_canBeAbout ?_ | refine y_mFact h ?_ _ | refine y_at h ?_ _ | refine y_top h ?_ | exact y_empty _ _ | refine y_motion h ?_ | refine y_wordAt h ?_ _ | refine y_kind h ?_ | refine y_plWord h ?_ _ | refine y_plFact h ?_ _ | exact y_sizeWith _ _ _ _ _ | refine y_placeAt h ?_ _ | refine y_free h ?_ | refine y_first h ?_ | refine y_wordOf h ?_ _ _ | refine y_tally h ?_ ?_ _ | refine y_rank h ?_ | refine y_needs h ?_ | refine y_outcome h ?_ ?_ _ _ | refine y_aAbsent h ?_ _ | refine y_aSecond h ?_ ?_ _ | refine y_aVote h ?_ ?_ _ _ | refine y_aWithdraw h ?_ ?_ _ | refine y_aRule h ?_ ?_ | refine y_aAppeal h ?_ ?_ _ | refine y_outOfRank h ?_ ?_ ?_ | refine y_tooLong h ?_ ?_ ?_ | refine y_lacks h ?_ ?_ ?_ | refine y_offSub h ?_ ?_ | refine y_aMove h ?_ _ | refine y_aSpan h ?_ _ _ | exact y_isWord _ _ | refine y_aWord h ?_ _ _ _ _ | refine y_aLay h ?_ _ | refine y_aTake h ?_ _) | split)
theorem y_aSetting {S : Cst} {x : Nat} (h : wfS S) (k : iK S x 0) (a : Int32) : p_Y8_againstSetting S x a := by
  unfold p_Y8_againstSetting
  simp only [q_Y8_againstSetting_23]
  repeat' (first | with_reducible (first | exact trivial | assumption | exact nB0 | exact nB1 | refine And.intro ?_ ?_ | refine iteI (fun _ => ?_) (fun _ => ?_) | refine ir_k ?_ | refine g0_0 h ?_ | exact g5_1 h (by assumption) | exact g0_1 h (by assumption) | refine g5_1 h (ir_k (g0_2 h ?_)) | refine g0_1 h (ir_k (g7_0 h ?_)) | refine g0_1 h (ir_k (g7_1 h ?_)) | refine g5_1 h ?_ | refine g0_2 h ?_ | refine g0_3 h ?_ | exact g7_4 h (by assumption) | refine g0_4 h ?_ | refine g0_5 h ?_ | refine g0_6 h ?_ | refine g1_1 h ?_ | refine g1_7 h ?_ | refine g2_2 h ?_ | refine g3_12 h ?_ | refine g3_13 h ?_ | refine g4_0 h ?_ | refine g6_0 h ?_ | refine g7_0 h ?_ | refine g7_1 h ?_ | exact ix_lt (by assumption) (by assumption) | exact ix_ge (by assumption) (by assumption) | exact ix_l1 (by assumption) (by assumption) | refine i_at h ?_ (by assumption) | refine i_top h ?_ (by assumption) | refine i_motion h ?_ (by assumption) | refine i_place h ?_ (by assumption) | refine i_first h ?_ (by assumption) | exact rk_ir (by assumption) (by assumption) | refine t_at h ?_ _ | refine t_top h ?_ | refine t_motion h ?_ | refine t_place h ?_ _ | refine t_first h ?_ | refine y_has h ?_ _ | refine y_isThere h ?_ _ | exact y_hasFloor _ _ _ | exact y_hasQuorum _ _ | refine y_voteOf h ?_ _ | refine y_isMajority h ?_ _ _ _ | exact y_isFull _ _ | refine y_ledAt h ?_ _ _ | exact y_mNeeds _ _ | exact y_amends _ _ | refine y_canBeAbout ?_ | refine y_mFact h ?_ _ | refine y_at h ?_ _ | refine y_top h ?_ | exact y_empty _ _ | refine y_motion h ?_ | refine y_wordAt h ?_ _ | refine y_kind h ?_ | refine y_plWord h ?_ _ | refine y_plFact h ?_ _ | exact y_sizeWith _ _ _ _ _ | refine y_placeAt h ?_ _ | refine y_free h ?_ | refine y_first h ?_ | refine y_wordOf h ?_ _ _ | refine y_tally h ?_ ?_ _ | refine y_rank h ?_ | refine y_needs h ?_ | refine y_outcome h ?_ ?_ _ _ | refine y_aAbsent h ?_ _ | refine y_aSecond h ?_ ?_ _ | refine y_aVote h ?_ ?_ _ _ | refine y_aWithdraw h ?_ ?_ _ | refine y_aRule h ?_ ?_ | refine y_aAppeal h ?_ ?_ _ | refine y_outOfRank h ?_ ?_ ?_ | refine y_tooLong h ?_ ?_ ?_ | refine y_lacks h ?_ ?_ ?_ | refine y_offSub h ?_ ?_ | refine y_aMove h ?_ _ | refine y_aSpan h ?_ _ _ | exact y_isWord _ _ | refine y_aWord h ?_ _ _ _ _ | refine y_aLay h ?_ _ | refine y_aTake h ?_ _ | refine y_aThere h ?_ _) | split)
theorem y_aFloor {S : Cst} {x : Nat} (h : wfS S) (k : iK S x 0) (a : Int32) : p_Y8_againstFloor S x a := by
  unfold p_Y8_againstFloor
  simp only [q_Y8_againstFloor_37, q_Y8_againstFloor_111, q_Y8_againstFloor_105, q_Y8_againstFloor_82, q_Y8_againstFloor_81]
  repeat' (first | with_reducible (first | exact trivial | assumption | exact nB0 | exact nB1 | refine And.intro ?_ ?_ | refine iteI (fun _ => ?_) (fun _ => ?_) | refine ir_k ?_ | refine g0_0 h ?_ | exact g5_1 h (by assumption) | exact g0_1 h (by assumption) | refine g5_1 h (ir_k (g0_2 h ?_)) | refine g0_1 h (ir_k (g7_0 h ?_)) | refine g0_1 h (ir_k (g7_1 h ?_)) | refine g5_1 h ?_ | refine g0_2 h ?_ | refine g0_3 h ?_ | exact g7_4 h (by assumption) | refine g0_4 h ?_ | refine g0_5 h ?_ | refine g0_6 h ?_ | refine g1_1 h ?_ | refine g1_7 h ?_ | refine g2_2 h ?_ | refine g3_12 h ?_ | refine g3_13 h ?_ | refine g4_0 h ?_ | refine g6_0 h ?_ | refine g7_0 h ?_ | refine g7_1 h ?_ | exact ix_lt (by assumption) (by assumption) | exact ix_ge (by assumption) (by assumption) | exact ix_l1 (by assumption) (by assumption) | refine i_at h ?_ (by assumption) | refine i_top h ?_ (by assumption) | refine i_motion h ?_ (by assumption) | refine i_place h ?_ (by assumption) | refine i_first h ?_ (by assumption) | exact rk_ir (by assumption) (by assumption) | refine t_at h ?_ _ | refine t_top h ?_ | refine t_motion h ?_ | refine t_place h ?_ _ | refine t_first h ?_ | refine y_has h ?_ _ | refine y_isThere h ?_ _ | exact y_hasFloor _ _ _ | exact y_hasQuorum _ _ | refine y_voteOf h ?_ _ | refine y_isMajority h ?_ _ _ _ | exact y_isFull _ _ | refine y_ledAt h ?_ _ _ | exact y_mNeeds _ _ | exact y_amends _ _ | refine y_canBeAbout ?_ | refine y_mFact h ?_ _ | refine y_at h ?_ _ | refine y_top h ?_ | exact y_empty _ _ | refine y_motion h ?_ | refine y_wordAt h ?_ _ | refine y_kind h ?_ | refine y_plWord h ?_ _ | refine y_plFact h ?_ _ | exact y_sizeWith _ _ _ _ _ | refine y_placeAt h ?_ _ | refine y_free h ?_ | refine y_first h ?_ | refine y_wordOf h ?_ _ _ | refine y_tally h ?_ ?_ _ | refine y_rank h ?_ | refine y_needs h ?_ | refine y_outcome h ?_ ?_ _ _ | refine y_aAbsent h ?_ _ | refine y_aSecond h ?_ ?_ _ | refine y_aVote h ?_ ?_ _ _ | refine y_aWithdraw h ?_ ?_ _ | refine y_aRule h ?_ ?_ | refine y_aAppeal h ?_ ?_ _ | refine y_outOfRank h ?_ ?_ ?_ | refine y_tooLong h ?_ ?_ ?_ | refine y_lacks h ?_ ?_ ?_ | refine y_offSub h ?_ ?_ | refine y_aMove h ?_ _ | refine y_aSpan h ?_ _ _ | exact y_isWord _ _ | refine y_aWord h ?_ _ _ _ _ | refine y_aLay h ?_ _ | refine y_aTake h ?_ _ | refine y_aThere h ?_ _ | refine y_aSetting h ?_ _) | split)
theorem y_aDebate {S : Cst} {x : Nat} (h : wfS S) (k : iK S x 0) (a : Int32) : p_Y8_againstDebate S x a := by
  unfold p_Y8_againstDebate
  simp only [q_Y8_againstDebate_71, q_Y8_againstDebate_65]
  repeat' (first | with_reducible (first | exact trivial | assumption | exact nB0 | exact nB1 | refine And.intro ?_ ?_ | refine iteI (fun _ => ?_) (fun _ => ?_) | refine ir_k ?_ | refine g0_0 h ?_ | exact g5_1 h (by assumption) | exact g0_1 h (by assumption) | refine g5_1 h (ir_k (g0_2 h ?_)) | refine g0_1 h (ir_k (g7_0 h ?_)) | refine g0_1 h (ir_k (g7_1 h ?_)) | refine g5_1 h ?_ | refine g0_2 h ?_ | refine g0_3 h ?_ | exact g7_4 h (by assumption) | refine g0_4 h ?_ | refine g0_5 h ?_ | refine g0_6 h ?_ | refine g1_1 h ?_ | refine g1_7 h ?_ | refine g2_2 h ?_ | refine g3_12 h ?_ | refine g3_13 h ?_ | refine g4_0 h ?_ | refine g6_0 h ?_ | refine g7_0 h ?_ | refine g7_1 h ?_ | exact ix_lt (by assumption) (by assumption) | exact ix_ge (by assumption) (by assumption) | exact ix_l1 (by assumption) (by assumption) | refine i_at h ?_ (by assumption) | refine i_top h ?_ (by assumption) | refine i_motion h ?_ (by assumption) | refine i_place h ?_ (by assumption) | refine i_first h ?_ (by assumption) | exact rk_ir (by assumption) (by assumption) | refine t_at h ?_ _ | refine t_top h ?_ | refine t_motion h ?_ | refine t_place h ?_ _ | refine t_first h ?_ | refine y_has h ?_ _ | refine y_isThere h ?_ _ | exact y_hasFloor _ _ _ | exact y_hasQuorum _ _ | refine y_voteOf h ?_ _ | refine y_isMajority h ?_ _ _ _ | exact y_isFull _ _ | refine y_ledAt h ?_ _ _ | exact y_mNeeds _ _ | exact y_amends _ _ | refine y_canBeAbout ?_ | refine y_mFact h ?_ _ | refine y_at h ?_ _ | refine y_top h ?_ | exact y_empty _ _ | refine y_motion h ?_ | refine y_wordAt h ?_ _ | refine y_kind h ?_ | refine y_plWord h ?_ _ | refine y_plFact h ?_ _ | exact y_sizeWith _ _ _ _ _ | refine y_placeAt h ?_ _ | refine y_free h ?_ | refine y_first h ?_ | refine y_wordOf h ?_ _ _ | refine y_tally h ?_ ?_ _ | refine y_rank h ?_ | refine y_needs h ?_ | refine y_outcome h ?_ ?_ _ _ | refine y_aAbsent h ?_ _ | refine y_aSecond h ?_ ?_ _ | refine y_aVote h ?_ ?_ _ _ | refine y_aWithdraw h ?_ ?_ _ | refine y_aRule h ?_ ?_ | refine y_aAppeal h ?_ ?_ _ | refine y_outOfRank h ?_ ?_ ?_ | refine y_tooLong h ?_ ?_ ?_ | refine y_lacks h ?_ ?_ ?_ | refine y_offSub h ?_ ?_ | refine y_aMove h ?_ _ | refine y_aSpan h ?_ _ _ | exact y_isWord _ _ | refine y_aWord h ?_ _ _ _ _ | refine y_aLay h ?_ _ | refine y_aTake h ?_ _ | refine y_aThere h ?_ _ | refine y_aSetting h ?_ _ | refine y_aFloor h ?_ _) | split)
theorem y_aOnFloor {S : Cst} {x : Nat} (h : wfS S) (k : iK S x 0) (a b c : Int32) : p_Y8_againstOnFloor S x a b c := by
  unfold p_Y8_againstOnFloor
  simp only [q_Y8_againstOnFloor_87, q_Y8_againstOnFloor_86, q_Y8_againstOnFloor_127, q_Y8_againstOnFloor_126, q_Y8_againstOnFloor_147, q_Y8_againstOnFloor_146, q_Y8_againstOnFloor_173]
  repeat' (first | with_reducible (first | exact trivial | assumption | exact nB0 | exact nB1 | refine And.intro ?_ ?_ | refine iteI (fun _ => ?_) (fun _ => ?_) | refine ir_k ?_ | refine g0_0 h ?_ | exact g5_1 h (by assumption) | exact g0_1 h (by assumption) | refine g5_1 h (ir_k (g0_2 h ?_)) | refine g0_1 h (ir_k (g7_0 h ?_)) | refine g0_1 h (ir_k (g7_1 h ?_)) | refine g5_1 h ?_ | refine g0_2 h ?_ | refine g0_3 h ?_ | exact g7_4 h (by assumption) | refine g0_4 h ?_ | refine g0_5 h ?_ | refine g0_6 h ?_ | refine g1_1 h ?_ | refine g1_7 h ?_ | refine g2_2 h ?_ | refine g3_12 h ?_ | refine g3_13 h ?_ | refine g4_0 h ?_ | refine g6_0 h ?_ | refine g7_0 h ?_ | refine g7_1 h ?_ | exact ix_lt (by assumption) (by assumption) | exact ix_ge (by assumption) (by assumption) | exact ix_l1 (by assumption) (by assumption) | refine i_at h ?_ (by assumption) | refine i_top h ?_ (by assumption) | refine i_motion h ?_ (by assumption) | refine i_place h ?_ (by assumption) | refine i_first h ?_ (by assumption) | exact rk_ir (by assumption) (by assumption) | refine t_at h ?_ _ | refine t_top h ?_ | refine t_motion h ?_ | refine t_place h ?_ _ | refine t_first h ?_ | refine y_has h ?_ _ | refine y_isThere h ?_ _ | exact y_hasFloor _ _ _ | exact y_hasQuorum _ _ | refine y_voteOf h ?_ _ | refine y_isMajority h ?_ _ _ _ | exact y_isFull _ _ | refine y_ledAt h ?_ _ _ | exact y_mNeeds _ _ | exact y_amends _ _ | refine y_canBeAbout ?_ | refine y_mFact h ?_ _ | refine y_at h ?_ _ | refine y_top h ?_ | exact y_empty _ _ | refine y_motion h ?_ | refine y_wordAt h ?_ _ | refine y_kind h ?_ | refine y_plWord h ?_ _ | refine y_plFact h ?_ _ | exact y_sizeWith _ _ _ _ _ | refine y_placeAt h ?_ _ | refine y_free h ?_ | refine y_first h ?_ | refine y_wordOf h ?_ _ _ | refine y_tally h ?_ ?_ _ | refine y_rank h ?_ | refine y_needs h ?_ | refine y_outcome h ?_ ?_ _ _ | refine y_aAbsent h ?_ _ | refine y_aSecond h ?_ ?_ _ | refine y_aVote h ?_ ?_ _ _ | refine y_aWithdraw h ?_ ?_ _ | refine y_aRule h ?_ ?_ | refine y_aAppeal h ?_ ?_ _ | refine y_outOfRank h ?_ ?_ ?_ | refine y_tooLong h ?_ ?_ ?_ | refine y_lacks h ?_ ?_ ?_ | refine y_offSub h ?_ ?_ | refine y_aMove h ?_ _ | refine y_aSpan h ?_ _ _ | exact y_isWord _ _ | refine y_aWord h ?_ _ _ _ _ | refine y_aLay h ?_ _ | refine y_aTake h ?_ _ | refine y_aThere h ?_ _ | refine y_aSetting h ?_ _ | refine y_aFloor h ?_ _ | refine y_aDebate h ?_ _) | split)
theorem y_aOnPaper {S : Cst} {x : Nat} (h : wfS S) (k : iK S x 0) (a b c d e : Int32) : p_Y8_againstOnPaper S x a b c d e := by
  unfold p_Y8_againstOnPaper
  simp only [q_Y8_againstOnPaper_53, q_Y8_againstOnPaper_47]
  repeat' (first | with_reducible (first | exact trivial | assumption | exact nB0 | exact nB1 | refine And.intro ?_ ?_ | refine iteI (fun _ => ?_) (fun _ => ?_) | refine ir_k ?_ | refine g0_0 h ?_ | exact g5_1 h (by assumption) | exact g0_1 h (by assumption) | refine g5_1 h (ir_k (g0_2 h ?_)) | refine g0_1 h (ir_k (g7_0 h ?_)) | refine g0_1 h (ir_k (g7_1 h ?_)) | refine g5_1 h ?_ | refine g0_2 h ?_ | refine g0_3 h ?_ | exact g7_4 h (by assumption) | refine g0_4 h ?_ | refine g0_5 h ?_ | refine g0_6 h ?_ | refine g1_1 h ?_ | refine g1_7 h ?_ | refine g2_2 h ?_ | refine g3_12 h ?_ | refine g3_13 h ?_ | refine g4_0 h ?_ | refine g6_0 h ?_ | refine g7_0 h ?_ | refine g7_1 h ?_ | exact ix_lt (by assumption) (by assumption) | exact ix_ge (by assumption) (by assumption) | exact ix_l1 (by assumption) (by assumption) | refine i_at h ?_ (by assumption) | refine i_top h ?_ (by assumption) | refine i_motion h ?_ (by assumption) | refine i_place h ?_ (by assumption) | refine i_first h ?_ (by assumption) | exact rk_ir (by assumption) (by assumption) | refine t_at h ?_ _ | refine t_top h ?_ | refine t_motion h ?_ | refine t_place h ?_ _ | refine t_first h ?_ | refine y_has h ?_ _ | refine y_isThere h ?_ _ | exact y_hasFloor _ _ _ | exact y_hasQuorum _ _ | refine y_voteOf h ?_ _ | refine y_isMajority h ?_ _ _ _ | exact y_isFull _ _ | refine y_ledAt h ?_ _ _ | exact y_mNeeds _ _ | exact y_amends _ _ | refine y_canBeAbout ?_ | refine y_mFact h ?_ _ | refine y_at h ?_ _ | refine y_top h ?_ | exact y_empty _ _ | refine y_motion h ?_ | refine y_wordAt h ?_ _ | refine y_kind h ?_ | refine y_plWord h ?_ _ | refine y_plFact h ?_ _ | exact y_sizeWith _ _ _ _ _ | refine y_placeAt h ?_ _ | refine y_free h ?_ | refine y_first h ?_ | refine y_wordOf h ?_ _ _ | refine y_tally h ?_ ?_ _ | refine y_rank h ?_ | refine y_needs h ?_ | refine y_outcome h ?_ ?_ _ _ | refine y_aAbsent h ?_ _ | refine y_aSecond h ?_ ?_ _ | refine y_aVote h ?_ ?_ _ _ | refine y_aWithdraw h ?_ ?_ _ | refine y_aRule h ?_ ?_ | refine y_aAppeal h ?_ ?_ _ | refine y_outOfRank h ?_ ?_ ?_ | refine y_tooLong h ?_ ?_ ?_ | refine y_lacks h ?_ ?_ ?_ | refine y_offSub h ?_ ?_ | refine y_aMove h ?_ _ | refine y_aSpan h ?_ _ _ | exact y_isWord _ _ | refine y_aWord h ?_ _ _ _ _ | refine y_aLay h ?_ _ | refine y_aTake h ?_ _ | refine y_aThere h ?_ _ | refine y_aSetting h ?_ _ | refine y_aFloor h ?_ _ | refine y_aDebate h ?_ _ | refine y_aOnFloor h ?_ _ _ _) | split)
theorem y_aOnMotion {S : Cst} {x : Nat} (h : wfS S) (k : iK S x 0) (a b c : Int32) : p_Y8_againstOnMotion S x a b c := by
  unfold p_Y8_againstOnMotion
  simp only [q_Y8_againstOnMotion_134a, q_Y8_againstOnMotion_146a, q_Y8_againstOnMotion_157a, q_Y8_againstOnMotion_175a, q_Y8_againstOnMotion_66, q_Y8_againstOnMotion_58, q_Y8_againstOnMotion_45]
  repeat' (first | with_reducible (first | exact trivial | assumption | exact nB0 | exact nB1 | refine And.intro ?_ ?_ | refine iteI (fun _ => ?_) (fun _ => ?_) | refine ir_k ?_ | refine g0_0 h ?_ | exact g5_1 h (by assumption) | exact g0_1 h (by assumption) | refine g5_1 h (ir_k (g0_2 h ?_)) | refine g0_1 h (ir_k (g7_0 h ?_)) | refine g0_1 h (ir_k (g7_1 h ?_)) | refine g5_1 h ?_ | refine g0_2 h ?_ | refine g0_3 h ?_ | exact g7_4 h (by assumption) | refine g0_4 h ?_ | refine g0_5 h ?_ | refine g0_6 h ?_ | refine g1_1 h ?_ | refine g1_7 h ?_ | refine g2_2 h ?_ | refine g3_12 h ?_ | refine g3_13 h ?_ | refine g4_0 h ?_ | refine g6_0 h ?_ | refine g7_0 h ?_ | refine g7_1 h ?_ | exact ix_lt (by assumption) (by assumption) | exact ix_ge (by assumption) (by assumption) | exact ix_l1 (by assumption) (by assumption) | refine i_at h ?_ (by assumption) | refine i_top h ?_ (by assumption) | refine i_motion h ?_ (by assumption) | refine i_place h ?_ (by assumption) | refine i_first h ?_ (by assumption) | exact rk_ir (by assumption) (by assumption) | refine t_at h ?_ _ | refine t_top h ?_ | refine t_motion h ?_ | refine t_place h ?_ _ | refine t_first h ?_ | refine y_has h ?_ _ | refine y_isThere h ?_ _ | exact y_hasFloor _ _ _ | exact y_hasQuorum _ _ | refine y_voteOf h ?_ _ | refine y_isMajority h ?_ _ _ _ | exact y_isFull _ _ | refine y_ledAt h ?_ _ _ | exact y_mNeeds _ _ | exact y_amends _ _ | refine y_canBeAbout ?_ | refine y_mFact h ?_ _ | refine y_at h ?_ _ | refine y_top h ?_ | exact y_empty _ _ | refine y_motion h ?_ | refine y_wordAt h ?_ _ | refine y_kind h ?_ | refine y_plWord h ?_ _ | refine y_plFact h ?_ _ | exact y_sizeWith _ _ _ _ _ | refine y_placeAt h ?_ _ | refine y_free h ?_ | refine y_first h ?_ | refine y_wordOf h ?_ _ _ | refine y_tally h ?_ ?_ _ | refine y_rank h ?_ | refine y_needs h ?_ | refine y_outcome h ?_ ?_ _ _ | refine y_aAbsent h ?_ _ | refine y_aSecond h ?_ ?_ _ | refine y_aVote h ?_ ?_ _ _ | refine y_aWithdraw h ?_ ?_ _ | refine y_aRule h ?_ ?_ | refine y_aAppeal h ?_ ?_ _ | refine y_outOfRank h ?_ ?_ ?_ | refine y_tooLong h ?_ ?_ ?_ | refine y_lacks h ?_ ?_ ?_ | refine y_offSub h ?_ ?_ | refine y_aMove h ?_ _ | refine y_aSpan h ?_ _ _ | exact y_isWord _ _ | refine y_aWord h ?_ _ _ _ _ | refine y_aLay h ?_ _ | refine y_aTake h ?_ _ | refine y_aThere h ?_ _ | refine y_aSetting h ?_ _ | refine y_aFloor h ?_ _ | refine y_aDebate h ?_ _ | refine y_aOnFloor h ?_ _ _ _ | refine y_aOnPaper h ?_ _ _ _ _ _) | split)
theorem y_against {S : Cst} {x : Nat} (h : wfS S) (k : iK S x 0) (a b c d e : Int32) : p_Y8_against S x a b c d e := by
  unfold p_Y8_against
  simp only [q_Y8_against_71, q_Y8_against_69, q_Y8_against_49]
  repeat' (first | with_reducible (first | exact trivial | assumption | exact nB0 | exact nB1 | refine And.intro ?_ ?_ | refine iteI (fun _ => ?_) (fun _ => ?_) | refine ir_k ?_ | refine g0_0 h ?_ | exact g5_1 h (by assumption) | exact g0_1 h (by assumption) | refine g5_1 h (ir_k (g0_2 h ?_)) | refine g0_1 h (ir_k (g7_0 h ?_)) | refine g0_1 h (ir_k (g7_1 h ?_)) | refine g5_1 h ?_ | refine g0_2 h ?_ | refine g0_3 h ?_ | exact g7_4 h (by assumption) | refine g0_4 h ?_ | refine g0_5 h ?_ | refine g0_6 h ?_ | refine g1_1 h ?_ | refine g1_7 h ?_ | refine g2_2 h ?_ | refine g3_12 h ?_ | refine g3_13 h ?_ | refine g4_0 h ?_ | refine g6_0 h ?_ | refine g7_0 h ?_ | refine g7_1 h ?_ | exact ix_lt (by assumption) (by assumption) | exact ix_ge (by assumption) (by assumption) | exact ix_l1 (by assumption) (by assumption) | refine i_at h ?_ (by assumption) | refine i_top h ?_ (by assumption) | refine i_motion h ?_ (by assumption) | refine i_place h ?_ (by assumption) | refine i_first h ?_ (by assumption) | exact rk_ir (by assumption) (by assumption) | refine t_at h ?_ _ | refine t_top h ?_ | refine t_motion h ?_ | refine t_place h ?_ _ | refine t_first h ?_ | refine y_has h ?_ _ | refine y_isThere h ?_ _ | exact y_hasFloor _ _ _ | exact y_hasQuorum _ _ | refine y_voteOf h ?_ _ | refine y_isMajority h ?_ _ _ _ | exact y_isFull _ _ | refine y_ledAt h ?_ _ _ | exact y_mNeeds _ _ | exact y_amends _ _ | refine y_canBeAbout ?_ | refine y_mFact h ?_ _ | refine y_at h ?_ _ | refine y_top h ?_ | exact y_empty _ _ | refine y_motion h ?_ | refine y_wordAt h ?_ _ | refine y_kind h ?_ | refine y_plWord h ?_ _ | refine y_plFact h ?_ _ | exact y_sizeWith _ _ _ _ _ | refine y_placeAt h ?_ _ | refine y_free h ?_ | refine y_first h ?_ | refine y_wordOf h ?_ _ _ | refine y_tally h ?_ ?_ _ | refine y_rank h ?_ | refine y_needs h ?_ | refine y_outcome h ?_ ?_ _ _ | refine y_aAbsent h ?_ _ | refine y_aSecond h ?_ ?_ _ | refine y_aVote h ?_ ?_ _ _ | refine y_aWithdraw h ?_ ?_ _ | refine y_aRule h ?_ ?_ | refine y_aAppeal h ?_ ?_ _ | refine y_outOfRank h ?_ ?_ ?_ | refine y_tooLong h ?_ ?_ ?_ | refine y_lacks h ?_ ?_ ?_ | refine y_offSub h ?_ ?_ | refine y_aMove h ?_ _ | refine y_aSpan h ?_ _ _ | exact y_isWord _ _ | refine y_aWord h ?_ _ _ _ _ | refine y_aLay h ?_ _ | refine y_aTake h ?_ _ | refine y_aThere h ?_ _ | refine y_aSetting h ?_ _ | refine y_aFloor h ?_ _ | refine y_aDebate h ?_ _ | refine y_aOnFloor h ?_ _ _ _ | refine y_aOnPaper h ?_ _ _ _ _ _ | refine y_aOnMotion h ?_ _ _ _) | split)
end
section
/-! ===== whose motions are where: T (a pile's, a spare chain's), F afloat, col (which assembly's a cell is) ===== -/
def tU (T : Nat → List Nat) (c : Nat) (l : List Nat) : Nat → List Nat := fun d => if d = c then l else T d
theorem tU_at (T : Nat → List Nat) (c : Nat) (l : List Nat) : tU T c l c = l := if_pos rfl
theorem tU_ne (T : Nat → List Nat) {c d : Nat} (l : List Nat) (h : d ≠ c) : tU T c l d = T d := if_neg h
def Ch (S : Cst) : Option Nat → List Nat → Prop
  | r, [] => r = none
  | r, q :: L => r = some q ∧ Ch S (grC S q 15) L
theorem Ch.cg {S S' : Cst} : ∀ (L : List Nat) (r : Option Nat), (∀ q, q ∈ L → grC S' q 15 = grC S q 15) → Ch S r L → Ch S' r L := by
  intro L
  induction L with
  | nil => intro r _ h; exact h
  | cons q L ih =>
    intro r g h
    refine ⟨h.1, ?_⟩
    rw [g q (List.mem_cons_self ..)]
    exact ih _ (fun z m => g z (List.mem_cons_of_mem _ m)) h.2
def CI (E : Nat → Prop) (S : Cst) (T : Nat → List Nat) (F : List Nat) (col : Nat → Nat) : Prop :=
  wfS S ∧ (∀ c, T c ≠ [] → c < S.1) ∧ (∀ c q, q ∈ T c → iK S q 3 ∧ col q = col c) ∧ (∀ c d q, q ∈ T c → q ∈ T d → c = d) ∧ (∀ c, (T c).Nodup) ∧ (F.Nodup ∧ ∀ q, q ∈ F → iK S q 3 ∧ ∀ c, q ∉ T c) ∧ (∀ P, ¬ E P → iK S P 4 → (giC S P 1).toInt = (T P).length ∧ (T P).length ≤ 9 ∧ ∀ i, i < (T P).length → grC S (P + 1) i = some ((T P).getD i 0)) ∧ (∀ x, iK S x 0 → Ch S (grC S x 10) (T x)) ∧ (∀ x, iK S x 0 → ∀ j, j < 40 → col (x + j) = x) ∧ (∀ q, iK S q 3 → ∀ j, j < 4 → col (q + j) = col q) ∧ (∀ l, iK S l 2 → col ((grC S l 2).getD 0) = col l)
section
variable {E : Nat → Prop} {S : Cst} {T : Nat → List Nat} {F : List Nat} {col : Nat → Nat}
theorem CI.wf (h : CI E S T F col) : wfS S := h.1
theorem CI.tz (h : CI E S T F col) : ∀ c, T c ≠ [] → c < S.1 := h.2.1
theorem CI.tk (h : CI E S T F col) : ∀ c q, q ∈ T c → iK S q 3 ∧ col q = col c := h.2.2.1
theorem CI.td (h : CI E S T F col) : ∀ c d q, q ∈ T c → q ∈ T d → c = d := h.2.2.2.1
theorem CI.tn (h : CI E S T F col) : ∀ c, (T c).Nodup := h.2.2.2.2.1
theorem CI.tf (h : CI E S T F col) : F.Nodup ∧ ∀ q, q ∈ F → iK S q 3 ∧ ∀ c, q ∉ T c := h.2.2.2.2.2.1
theorem CI.tp (h : CI E S T F col) : ∀ P, ¬ E P → iK S P 4 → (giC S P 1).toInt = (T P).length ∧ (T P).length ≤ 9 ∧ ∀ i, i < (T P).length → grC S (P + 1) i = some ((T P).getD i 0) := h.2.2.2.2.2.2.1
theorem CI.tc (h : CI E S T F col) : ∀ x, iK S x 0 → Ch S (grC S x 10) (T x) := h.2.2.2.2.2.2.2.1
theorem CI.c0 (h : CI E S T F col) : ∀ x, iK S x 0 → ∀ j, j < 40 → col (x + j) = x := h.2.2.2.2.2.2.2.2.1
theorem CI.c3 (h : CI E S T F col) : ∀ q, iK S q 3 → ∀ j, j < 4 → col (q + j) = col q := h.2.2.2.2.2.2.2.2.2.1
theorem CI.c2 (h : CI E S T F col) : ∀ l, iK S l 2 → col ((grC S l 2).getD 0) = col l := h.2.2.2.2.2.2.2.2.2.2
theorem CI.si (h : CI E S T F col) {a b : Nat} {v : Int32} (ok : okI (kdC S a) b v) (n4 : kdC S a ≠ 4) : CI E (siC S a b v) T F col := by
  refine ⟨wf_si h.wf ok, h.tz, fun c q m => ⟨ik_si.mpr (h.tk c q m).1, (h.tk c q m).2⟩, h.td, h.tn, ⟨h.tf.1, fun q m => ⟨ik_si.mpr (h.tf.2 q m).1, (h.tf.2 q m).2⟩⟩, fun P e k => ?_, fun x k => ?_, fun x k => h.c0 x (ik_si.mp k), fun q k => h.c3 q (ik_si.mp k), fun l k => ?_⟩
  · have k := ik_si.mp k
    have w := h.tp P e k
    rw [gi_si, if_neg (fun z => n4 (by rw [← z.1]; exact k.2))]
    simp only [gr_si]
    exact w
  · have w := h.tc x (ik_si.mp k)
    rw [gr_si]
    exact w.cg _ _ (fun q _ => by rw [gr_si])
  · rw [gr_si]
    exact h.c2 l (ik_si.mp k)
theorem CI.sf (h : CI E S T F col) {a : Nat} {f : Nat → Int32} (ok : kdC S a = 20 ∨ kdC S a = 21 ∨ (kdC S a = 22 ∧ ∀ i, fits .byte (.int (f i)) = true)) : CI E (sfC S a f) T F col := by
  refine ⟨wf_sf h.wf ok, h.tz, fun c q m => ⟨ik_sf.mpr (h.tk c q m).1, (h.tk c q m).2⟩, h.td, h.tn, ⟨h.tf.1, fun q m => ⟨ik_sf.mpr (h.tf.2 q m).1, (h.tf.2 q m).2⟩⟩, fun P e k => ?_, fun x k => ?_, fun x k => h.c0 x (ik_sf.mp k), fun q k => h.c3 q (ik_sf.mp k), fun l k => ?_⟩
  · have k := ik_sf.mp k
    have w := h.tp P e k
    rw [gi_sf, if_neg (fun z => by have := k.2; rw [z] at this; omega)]
    simp only [gr_sf]
    exact w
  · have w := h.tc x (ik_sf.mp k)
    rw [gr_sf]
    exact w.cg _ _ (fun q _ => by rw [gr_sf])
  · rw [gr_sf]
    exact h.c2 l (ik_sf.mp k)
/-- the top of a pile comes afloat -/
theorem CI.pull (h : CI E S T F col) {P q : Nat} {l : List Nat} {v : Int32} (e : ¬ E P) (k : iK S P 4) (hT : T P = l ++ [q]) (hv : v.toInt = l.length) : CI E (srC (siC S P 1 v) (P + 1) l.length none) (tU T P l) (q :: F) col := by
  have w := h.tp P e k
  have w4 := h.wf.w4 k
  rw [hT, List.length_append] at w
  have hq : q ∈ T P := by rw [hT]; simp
  have hn := h.tn P
  rw [hT, List.nodup_append] at hn
  have sub : ∀ c z, z ∈ tU T P l c → z ∈ T c := fun c z m => by
    by_cases y : c = P
    · rw [y, tU_at] at m
      rw [y, hT]
      exact List.mem_append_left _ m
    · rwa [tU_ne T l y] at m
  have nq : ∀ c, q ∉ tU T P l c := fun c m => by
    have y := h.td c P q (sub c q m) hq
    rw [y, tU_at] at m
    exact hn.2.2 q m q (List.mem_singleton_self q) rfl
  refine ⟨wf_sr (wf_si h.wf ⟨fun z => by rw [k.2] at z; omega, fun z => by rw [k.2] at z; omega, fun z => by rw [k.2] at z; omega, fun _ _ => ⟨by omega, by simp at w; omega⟩, fun z => by rw [k.2] at z; omega, fun z => by rw [k.2] at z; omega⟩) ?_, fun c g => ?_, fun c z m => ?_, fun c d z m1 m2 => h.td c d z (sub c z m1) (sub d z m2), fun c => ?_, ⟨?_, fun z m => ?_⟩, fun Q eQ kQ => ?_, fun x kx => ?_, fun x kx => h.c0 x (ik_si.mp (ik_sr.mp kx)), fun z kz => h.c3 z (ik_si.mp (ik_sr.mp kz)), fun z kz => ?_⟩
  · have k1 := w4.1.1.2
    refine ⟨fun z y => (by cases y), ?_, ?_, ?_, ?_, ?_, ?_, ?_, ?_, fun _ => Or.inl rfl, ?_⟩ <;> (rw [kd_si, k1]; intro z; omega)
  · by_cases y : c = P
    · rw [y]
      exact k.1
    · rw [tU_ne T l y] at g
      exact h.tz c g
  · exact ⟨ik_sr.mpr (ik_si.mpr (h.tk c z (sub c z m)).1), (h.tk c z (sub c z m)).2⟩
  · by_cases y : c = P
    · rw [y, tU_at]
      exact hn.1
    · rw [tU_ne T l y]
      exact h.tn c
  · exact List.nodup_cons.mpr ⟨fun m => (h.tf.2 q m).2 P hq, h.tf.1⟩
  · rcases List.mem_cons.mp m with rfl | m
    · exact ⟨ik_sr.mpr (ik_si.mpr (h.tk P z hq).1), nq⟩
    · exact ⟨ik_sr.mpr (ik_si.mpr (h.tf.2 z m).1), fun c y => (h.tf.2 z m).2 c (sub c z y)⟩
  · have kQ := ik_si.mp (ik_sr.mp kQ)
    have wQ := h.tp Q eQ kQ
    simp only [gi_sr, gi_si, gr_sr, gr_si]
    by_cases y : Q = P
    · rw [if_pos ⟨y, trivial⟩, y, tU_at]
      refine ⟨hv, by simp at w; omega, fun i hi => ?_⟩
      rw [if_neg (fun z => by omega)]
      have := w.2.2 i (by simp; omega)
      rw [this]
      congr 1
      rw [List.getD_eq_getElem?_getD, List.getD_eq_getElem?_getD, List.getElem?_append_left hi]
    · rw [if_neg (fun z => y z.1), tU_ne T l y]
      refine ⟨wQ.1, wQ.2.1, fun i hi => ?_⟩
      rw [if_neg (fun z => y (by omega))]
      exact wQ.2.2 i hi
  · have kx := ik_si.mp (ik_sr.mp kx)
    have y : x ≠ P := fun z => by have := kx.2; rw [z, k.2] at this; omega
    have y2 : x ≠ P + 1 := fun z => by have := kx.2; rw [z, w4.1.1.2] at this; omega
    rw [tU_ne T l y, gr_sr, if_neg (fun z => y2 z.1), gr_si]
    refine (h.tc x kx).cg _ _ (fun z m => ?_)
    have kz := (h.tk x z m).1
    rw [gr_sr, if_neg (fun y => by have := kz.2; rw [y.1, w4.1.1.2] at this; omega), gr_si]
  · have kz := ik_si.mp (ik_sr.mp kz)
    rw [gr_sr, if_neg (fun y => by have := kz.2; rw [y.1, w4.1.1.2] at this; omega), gr_si]
    exact h.c2 z kz
/-- one that is afloat comes to the top of a pile -/
theorem CI.put {q : Nat} (h : CI E S T (q :: F) col) {P : Nat} {v : Int32} (e : ¬ E P) (k : iK S P 4) (hl : (T P).length < 9) (hc : col q = col P) (hv : v.toInt = (T P).length + 1) : CI E (siC (srC S (P + 1) (T P).length (some q)) P 1 v) (tU T P (T P ++ [q])) F col := by
  have w := h.tp P e k
  have w4 := h.wf.w4 k
  have hF := h.tf
  have kq := hF.2 q (List.mem_cons_self ..)
  have hn := List.nodup_cons.mp hF.1
  have sub : ∀ c z, z ∈ tU T P (T P ++ [q]) c → z ∈ T c ∨ (c = P ∧ z = q) := fun c z m => by
    by_cases y : c = P
    · rw [y, tU_at] at m
      rw [y]
      rcases List.mem_append.mp m with m | m
      · exact Or.inl m
      · exact Or.inr ⟨rfl, List.mem_singleton.mp m⟩
    · rw [tU_ne T _ y] at m
      exact Or.inl m
  refine ⟨wf_si (wf_sr h.wf ?_) ?_, fun c g => ?_, fun c z m => ?_, fun c d z m1 m2 => ?_, fun c => ?_, ⟨hn.2, fun z m => ?_⟩, fun Q eQ kQ => ?_, fun x kx => ?_, fun x kx => h.c0 x (ik_sr.mp (ik_si.mp kx)), fun z kz => h.c3 z (ik_sr.mp (ik_si.mp kz)), fun z kz => ?_⟩
  · have k1 := w4.1.1.2
    refine ⟨fun z y => by cases y; exact kq.1.1, ?_, ?_, ?_, ?_, ?_, ?_, ?_, ?_, fun _ => Or.inr ⟨q, rfl, kq.1⟩, ?_⟩ <;> (rw [k1]; intro z; omega)
  · rw [kd_sr, k.2]
    exact ⟨fun z => by omega, fun z => by omega, fun z => by omega, fun _ _ => ⟨by omega, by omega⟩, fun z => by omega, fun z => by omega⟩
  · by_cases y : c = P
    · rw [y]
      exact k.1
    · rw [tU_ne T _ y] at g
      exact h.tz c g
  · rcases sub c z m with m | ⟨rfl, rfl⟩
    · exact ⟨ik_si.mpr (ik_sr.mpr (h.tk c z m).1), (h.tk c z m).2⟩
    · exact ⟨ik_si.mpr (ik_sr.mpr kq.1), hc⟩
  · rcases sub c z m1 with m1 | ⟨r1, r2⟩ <;> rcases sub d z m2 with m2 | ⟨s1, s2⟩
    · exact h.td c d z m1 m2
    · rw [s2] at m1
      exact absurd m1 (kq.2 c)
    · rw [r2] at m2
      exact absurd m2 (kq.2 d)
    · rw [r1, s1]
  · by_cases y : c = P
    · rw [y, tU_at]
      refine List.nodup_append.mpr ⟨h.tn P, (by simp), fun a m b m' z => ?_⟩
      rw [z, List.mem_singleton.mp m'] at m
      exact kq.2 P m
    · rw [tU_ne T _ y]
      exact h.tn c
  · have g := hF.2 z (List.mem_cons_of_mem _ m)
    refine ⟨ik_si.mpr (ik_sr.mpr g.1), fun c y => ?_⟩
    rcases sub c z y with y | ⟨_, y⟩
    · exact g.2 c y
    · rw [y] at m
      exact hn.1 m
  · have kQ := ik_sr.mp (ik_si.mp kQ)
    have wQ := h.tp Q eQ kQ
    simp only [gi_sr, gi_si, gr_sr, gr_si]
    by_cases y : Q = P
    · rw [if_pos ⟨y, trivial⟩, y, tU_at, List.length_append]
      refine ⟨by rw [hv]; simp, by simp; omega, fun i hi => ?_⟩
      simp only [List.length_singleton] at hi
      by_cases d : i = (T P).length
      · rw [if_pos ⟨rfl, d⟩, d]
        congr 1
        rw [List.getD_eq_getElem?_getD, List.getElem?_append_right (Nat.le_refl _), Nat.sub_self]
        rfl
      · rw [if_neg (fun z => d z.2)]
        rw [w.2.2 i (by omega)]
        congr 1
        rw [List.getD_eq_getElem?_getD, List.getD_eq_getElem?_getD, List.getElem?_append_left (by omega)]
    · rw [if_neg (fun z => y z.1), tU_ne T _ y]
      refine ⟨wQ.1, wQ.2.1, fun i hi => ?_⟩
      rw [if_neg (fun z => y (by omega))]
      exact wQ.2.2 i hi
  · have kx := ik_sr.mp (ik_si.mp kx)
    have y : x ≠ P := fun z => by have := kx.2; rw [z, k.2] at this; omega
    have y2 : x ≠ P + 1 := fun z => by have := kx.2; rw [z, w4.1.1.2] at this; omega
    rw [tU_ne T _ y, gr_si, gr_sr, if_neg (fun z => y2 z.1)]
    refine (h.tc x kx).cg _ _ (fun z m => ?_)
    have kz := (h.tk x z m).1
    rw [gr_si, gr_sr, if_neg (fun y => by have := kz.2; rw [y.1, w4.1.1.2] at this; omega)]
  · have kz := ik_sr.mp (ik_si.mp kz)
    rw [gr_si, gr_sr, if_neg (fun y => by have := kz.2; rw [y.1, w4.1.1.2] at this; omega)]
    exact h.c2 z kz
end
section
variable {E : Nat → Prop} {S : Cst} {T : Nat → List Nat} {F : List Nat} {col : Nat → Nat}
/-- one that is afloat goes to the spare ones -/
theorem CI.push {q x : Nat} (h : CI E S T (q :: F) col) (k : iK S x 0) (hc : col q = x) : CI E (srC (srC S q 15 (grC S x 10)) x 10 (some q)) (tU T x (q :: T x)) F col := by
  have hF := h.tf
  have kq := hF.2 q (List.mem_cons_self ..)
  have hn := List.nodup_cons.mp hF.1
  have w0 := h.wf.w0 k
  have hx : col x = x := h.c0 x k 0 (by omega)
  have ne : q ≠ x := fun z => by have := kq.1.2; rw [z, k.2] at this; omega
  have sub : ∀ c z, z ∈ tU T x (q :: T x) c → z ∈ T c ∨ (c = x ∧ z = q) := fun c z m => by
    by_cases y : c = x
    · rw [y, tU_at] at m
      rw [y]
      rcases List.mem_cons.mp m with m | m
      · exact Or.inr ⟨rfl, m⟩
      · exact Or.inl m
    · rw [tU_ne T _ y] at m
      exact Or.inl m
  refine ⟨wf_sr (wf_sr h.wf ?_) ?_, fun c g => ?_, fun c z m => ?_, fun c d z m1 m2 => ?_, fun c => ?_, ⟨hn.2, fun z m => ?_⟩, fun Q eQ kQ => ?_, fun y ky => ?_, fun y ky => h.c0 y (ik_sr.mp (ik_sr.mp ky)), fun z kz => h.c3 z (ik_sr.mp (ik_sr.mp kz)), fun z kz => ?_⟩
  · refine ⟨fun z y => h.wf.1 x k.1 10 z y, ?_, ?_, ?_, fun _ => ⟨rfl, w0.2.2⟩, ?_, ?_, ?_, ?_, ?_, ?_⟩ <;> (rw [kq.1.2]; intro z; omega)
  · refine ⟨fun z y => by cases y; exact kq.1.1, fun _ => ⟨rfl, Or.inr ⟨q, rfl, ik_sr.mpr kq.1⟩⟩, ?_, ?_, ?_, ?_, ?_, ?_, ?_, ?_, ?_⟩ <;> (rw [kd_sr, k.2]; intro z; omega)
  · by_cases y : c = x
    · rw [y]
      exact k.1
    · rw [tU_ne T _ y] at g
      exact h.tz c g
  · rcases sub c z m with m | ⟨r1, r2⟩
    · exact ⟨ik_sr.mpr (ik_sr.mpr (h.tk c z m).1), (h.tk c z m).2⟩
    · rw [r1, r2]
      exact ⟨ik_sr.mpr (ik_sr.mpr kq.1), by rw [hc, hx]⟩
  · rcases sub c z m1 with m1 | ⟨r1, r2⟩ <;> rcases sub d z m2 with m2 | ⟨s1, s2⟩
    · exact h.td c d z m1 m2
    · rw [s2] at m1
      exact absurd m1 (kq.2 c)
    · rw [r2] at m2
      exact absurd m2 (kq.2 d)
    · rw [r1, s1]
  · by_cases y : c = x
    · rw [y, tU_at]
      exact List.nodup_cons.mpr ⟨kq.2 x, h.tn x⟩
    · rw [tU_ne T _ y]
      exact h.tn c
  · have g := hF.2 z (List.mem_cons_of_mem _ m)
    refine ⟨ik_sr.mpr (ik_sr.mpr g.1), fun c y => ?_⟩
    rcases sub c z y with y | ⟨_, y⟩
    · exact g.2 c y
    · rw [y] at m
      exact hn.1 m
  · have kQ := ik_sr.mp (ik_sr.mp kQ)
    have y : Q ≠ x := fun z => by have := kQ.2; rw [z, k.2] at this; omega
    have w4 := h.wf.w4 kQ
    rw [tU_ne T _ y]
    simp only [gi_sr, gr_sr]
    have wQ := h.tp Q eQ kQ
    refine ⟨wQ.1, wQ.2.1, fun i hi => ?_⟩
    rw [if_neg (fun z => by have := w4.1.1.2; rw [z.1, k.2] at this; omega), if_neg (fun z => by have := w4.1.1.2; rw [z.1, kq.1.2] at this; omega)]
    exact wQ.2.2 i hi
  · have ky := ik_sr.mp (ik_sr.mp ky)
    by_cases e : y = x
    · rw [e, tU_at, gr_sr, if_pos ⟨rfl, rfl⟩]
      refine ⟨rfl, ?_⟩
      rw [gr_sr, if_neg (fun z => ne z.1), gr_sr, if_pos ⟨rfl, rfl⟩]
      refine (h.tc x k).cg _ _ (fun z m => ?_)
      rw [gr_sr, if_neg (fun y => by have := (h.tk x z m).1.2; rw [y.1, k.2] at this; omega), gr_sr, if_neg (fun y => kq.2 x (by rw [← y.1]; exact m))]
    · rw [tU_ne T _ e, gr_sr, if_neg (fun z => e z.1), gr_sr, if_neg (fun z => by have := ky.2; rw [z.1, kq.1.2] at this; omega)]
      refine (h.tc y ky).cg _ _ (fun z m => ?_)
      rw [gr_sr, if_neg (fun w => by have := (h.tk y z m).1.2; rw [w.1, k.2] at this; omega), gr_sr, if_neg (fun w => kq.2 y (by rw [← w.1]; exact m))]
  · have kz := ik_sr.mp (ik_sr.mp kz)
    rw [gr_sr, if_neg (fun y => by have := kz.2; rw [y.1, k.2] at this; omega), gr_sr, if_neg (fun y => by have := kz.2; rw [y.1, kq.1.2] at this; omega)]
    exact h.c2 z kz
/-- a spare one comes afloat -/
theorem CI.pop {q x : Nat} {L : List Nat} (h : CI E S T F col) (k : iK S x 0) (hT : T x = q :: L) : CI E (srC (srC S x 10 (grC S q 15)) q 15 none) (tU T x L) (q :: F) col := by
  have mq : q ∈ T x := by rw [hT]; exact List.mem_cons_self ..
  have kq := (h.tk x q mq).1
  have hn := h.tn x
  rw [hT] at hn
  have hn := List.nodup_cons.mp hn
  have hx : col x = x := h.c0 x k 0 (by omega)
  have ne : q ≠ x := fun z => by have := kq.2; rw [z, k.2] at this; omega
  have w3 := h.wf.w3 kq
  have cx := h.tc x k
  rw [hT] at cx
  have sub : ∀ c z, z ∈ tU T x L c → z ∈ T c := fun c z m => by
    by_cases y : c = x
    · rw [y, tU_at] at m
      rw [y, hT]
      exact List.mem_cons_of_mem _ m
    · rwa [tU_ne T L y] at m
  have nq : ∀ c, q ∉ tU T x L c := fun c m => by
    have y := h.td c x q (sub c q m) mq
    rw [y, tU_at] at m
    exact hn.1 m
  refine ⟨wf_sr (wf_sr h.wf ?_) ?_, fun c g => ?_, fun c z m => ⟨ik_sr.mpr (ik_sr.mpr (h.tk c z (sub c z m)).1), (h.tk c z (sub c z m)).2⟩, fun c d z m1 m2 => h.td c d z (sub c z m1) (sub d z m2), fun c => ?_, ⟨List.nodup_cons.mpr ⟨fun m => (h.tf.2 q m).2 x mq, h.tf.1⟩, fun z m => ?_⟩, fun Q eQ kQ => ?_, fun y ky => ?_, fun y ky => h.c0 y (ik_sr.mp (ik_sr.mp ky)), fun z kz => h.c3 z (ik_sr.mp (ik_sr.mp kz)), fun z kz => ?_⟩
  · refine ⟨fun z y => h.wf.1 q kq.1 15 z y, fun _ => ⟨rfl, w3.2.2.2⟩, ?_, ?_, ?_, ?_, ?_, ?_, ?_, ?_, ?_⟩ <;> (rw [k.2]; intro z; omega)
  · refine ⟨fun z y => (by cases y), ?_, ?_, ?_, fun _ => ⟨rfl, Or.inl rfl⟩, ?_, ?_, ?_, ?_, ?_, ?_⟩ <;> (rw [kd_sr, kq.2]; intro z; omega)
  · by_cases y : c = x
    · rw [y]
      exact k.1
    · rw [tU_ne T _ y] at g
      exact h.tz c g
  · by_cases y : c = x
    · rw [y, tU_at]
      exact hn.2
    · rw [tU_ne T _ y]
      exact h.tn c
  · rcases List.mem_cons.mp m with rfl | m
    · exact ⟨ik_sr.mpr (ik_sr.mpr kq), nq⟩
    · exact ⟨ik_sr.mpr (ik_sr.mpr (h.tf.2 z m).1), fun c y => (h.tf.2 z m).2 c (sub c z y)⟩
  · have kQ := ik_sr.mp (ik_sr.mp kQ)
    have y : Q ≠ x := fun z => by have := kQ.2; rw [z, k.2] at this; omega
    have w4 := h.wf.w4 kQ
    rw [tU_ne T _ y]
    simp only [gi_sr, gr_sr]
    have wQ := h.tp Q eQ kQ
    refine ⟨wQ.1, wQ.2.1, fun i hi => ?_⟩
    rw [if_neg (fun z => by have := w4.1.1.2; rw [z.1, kq.2] at this; omega), if_neg (fun z => by have := w4.1.1.2; rw [z.1, k.2] at this; omega)]
    exact wQ.2.2 i hi
  · have ky := ik_sr.mp (ik_sr.mp ky)
    by_cases e : y = x
    · rw [e, tU_at, gr_sr, if_neg (fun z => ne z.1.symm), gr_sr, if_pos ⟨rfl, rfl⟩]
      refine cx.2.cg _ _ (fun z m => ?_)
      have mz : z ∈ T x := by rw [hT]; exact List.mem_cons_of_mem _ m
      rw [gr_sr, if_neg (fun y => hn.1 (by rw [← y.1]; exact m)), gr_sr, if_neg (fun y => by have := (h.tk x z mz).1.2; rw [y.1, k.2] at this; omega)]
    · rw [tU_ne T _ e, gr_sr, if_neg (fun z => by have := ky.2; rw [z.1, kq.2] at this; omega), gr_sr, if_neg (fun z => e z.1)]
      refine (h.tc y ky).cg _ _ (fun z m => ?_)
      rw [gr_sr, if_neg (fun w => e (h.td y x q (by rw [← w.1]; exact m) mq)), gr_sr, if_neg (fun w => by have := (h.tk y z m).1.2; rw [w.1, k.2] at this; omega)]
  · have kz := ik_sr.mp (ik_sr.mp kz)
    rw [gr_sr, if_neg (fun y => by have := kz.2; rw [y.1, kq.2] at this; omega), gr_sr, if_neg (fun y => by have := kz.2; rw [y.1, k.2] at this; omega)]
    exact h.c2 z kz
end
end
section
/-! ===== a step within one assembly ===== -/
def sT (T : Nat → List Nat) (x : Nat) : Nat → Nat
  | 0 => 0
  | n + 1 => sT T x n + (T (x + 14 + 3 * n)).length
def mT (T : Nat → List Nat) (x : Nat) : Nat := (T x).length + (T (x + 1)).length + (T (x + 4)).length + sT T x 8
def lcl (S : Cst) (l : Nat) : Nat := lnC S ((grC S l 2).getD 0)
def psL (S : Cst) (l : Nat) : Nat := 2 * lcl S l + (if lcl S l = 600 * (giC S l 0).toNatClampNeg then lcl S l else 0)
def pcL (S : Cst) (T : Nat → List Nat) (x : Nat) : Nat := 4 * mT T x + lcl S (x + 7) + lcl S (x + 9)
def plL (S : Cst) (T : Nat → List Nat) (x : Nat) : Nat := 618 * mT T x + psL S (x + 7) + psL S (x + 9)
def own (x c : Nat) : Prop := c = x ∨ c = x + 1 ∨ c = x + 4 ∨ ∃ p, p < 8 ∧ c = x + 14 + 3 * p
theorem own.lt {x c : Nat} (h : own x c) : ∃ j, j < 40 ∧ c = x + j := by
  rcases h with h | h | h | ⟨p, hp, h⟩
  · exact ⟨0, by omega, h⟩
  · exact ⟨1, by omega, h⟩
  · exact ⟨4, by omega, h⟩
  · exact ⟨14 + 3 * p, by omega, by omega⟩
theorem sT_ne {T : Nat → List Nat} {x c : Nat} {l : List Nat} : ∀ n, (∀ p, p < n → c ≠ x + 14 + 3 * p) → sT (tU T c l) x n = sT T x n := by
  intro n
  induction n with
  | zero => intro _; rfl
  | succ n ih =>
    intro h
    rw [sT, sT, ih (fun p hp => h p (by omega)), tU_ne T l (fun z => h n (by omega) z.symm)]
theorem sT_at {T : Nat → List Nat} {x p : Nat} {l : List Nat} : ∀ n, p < n → sT (tU T (x + 14 + 3 * p) l) x n + (T (x + 14 + 3 * p)).length = sT T x n + l.length := by
  intro n
  induction n with
  | zero => intro h; omega
  | succ n ih =>
    intro h
    rw [sT, sT]
    by_cases e : p = n
    · rw [e, tU_at, sT_ne n (fun q hq => by omega)]
      omega
    · rw [tU_ne T l (by omega)]
      have := ih (by omega)
      omega
theorem mT_U {T : Nat → List Nat} {x c : Nat} {l : List Nat} (h : own x c) : mT (tU T c l) x + (T c).length = mT T x + l.length := by
  unfold mT
  rcases h with h | h | h | ⟨p, hp, h⟩
  · subst h
    rw [tU_at, tU_ne T l (show c + 1 ≠ c by omega), tU_ne T l (show c + 4 ≠ c by omega), sT_ne 8 (fun p _ => by omega)]
    omega
  · subst h
    rw [tU_at, tU_ne T l (show x ≠ x + 1 by omega), tU_ne T l (show x + 4 ≠ x + 1 by omega), sT_ne 8 (fun p _ => by omega)]
    omega
  · subst h
    rw [tU_at, tU_ne T l (show x ≠ x + 4 by omega), tU_ne T l (show x + 1 ≠ x + 4 by omega), sT_ne 8 (fun p _ => by omega)]
    omega
  · subst h
    rw [tU_ne T l (show x ≠ x + 14 + 3 * p by omega), tU_ne T l (show x + 1 ≠ x + 14 + 3 * p by omega), tU_ne T l (show x + 4 ≠ x + 14 + 3 * p by omega)]
    have := sT_at (T := T) (x := x) (l := l) 8 hp
    omega
def Sst (E : Nat → Prop) (x : Nat) (S : Cst) (T : Nat → List Nat) (F : List Nat) (col : Nat → Nat) (S' : Cst) (T' : Nat → List Nat) (F' : List Nat) (col' : Nat → Nat) : Prop :=
  CI E S' T' F' col' ∧ eN S S' ∧ (∀ q, q < S.1 → col' q = col q) ∧ (∀ q, q < S.1 → col q ≠ x → S'.2.2 q = S.2.2 q) ∧ (∀ c, c < S.1 → col c ≠ x → T' c = T c) ∧ (S'.1 + pcL S T x + 4 * F.length ≤ S.1 + pcL S' T' x + 4 * F'.length) ∧ (S'.2.1 + plL S T x + 618 * F.length ≤ S.2.1 + plL S' T' x + 618 * F'.length) ∧ iK S x 0 ∧ (∀ q, q ∈ F' → col' q = x) ∧ (mT T x + F.length ≤ 90 → mT T' x + F'.length ≤ 90)
section
variable {E E0 : Nat → Prop} {x : Nat} {S S1 S2 : Cst} {T T1 T2 : Nat → List Nat} {F F1 F2 : List Nat} {col c1 c2 : Nat → Nat}
theorem Sst.ci (h : Sst E x S T F col S1 T1 F1 c1) : CI E S1 T1 F1 c1 := h.1
theorem Sst.en (h : Sst E x S T F col S1 T1 F1 c1) : eN S S1 := h.2.1
theorem Sst.cl (h : Sst E x S T F col S1 T1 F1 c1) : ∀ q, q < S.1 → c1 q = col q := h.2.2.1
theorem Sst.fr (h : Sst E x S T F col S1 T1 F1 c1) : ∀ q, q < S.1 → col q ≠ x → S1.2.2 q = S.2.2 q := h.2.2.2.1
theorem Sst.ft (h : Sst E x S T F col S1 T1 F1 c1) : ∀ c, c < S.1 → col c ≠ x → T1 c = T c := h.2.2.2.2.1
theorem Sst.n1 (h : Sst E x S T F col S1 T1 F1 c1) : S1.1 + pcL S T x + 4 * F.length ≤ S.1 + pcL S1 T1 x + 4 * F1.length := h.2.2.2.2.2.1
theorem Sst.n2 (h : Sst E x S T F col S1 T1 F1 c1) : S1.2.1 + plL S T x + 618 * F.length ≤ S.2.1 + plL S1 T1 x + 618 * F1.length := h.2.2.2.2.2.2.1
theorem Sst.k (h : Sst E x S T F col S1 T1 F1 c1) : iK S x 0 := h.2.2.2.2.2.2.2.1
theorem Sst.k1 (h : Sst E x S T F col S1 T1 F1 c1) : iK S1 x 0 := h.k.n h.en
theorem Sst.fc (h : Sst E x S T F col S1 T1 F1 c1) : ∀ q, q ∈ F1 → c1 q = x := h.2.2.2.2.2.2.2.2.1
theorem Sst.mb (h : Sst E x S T F col S1 T1 F1 c1) : mT T x + F.length ≤ 90 → mT T1 x + F1.length ≤ 90 := h.2.2.2.2.2.2.2.2.2
theorem Sst.rf (h : CI E S T F col) (k : iK S x 0) (f : ∀ q, q ∈ F → col q = x) : Sst E x S T F col S T F col := ⟨h, eN.rf S, fun _ _ => rfl, fun _ _ _ => rfl, fun _ _ _ => rfl, Nat.le_refl _, Nat.le_refl _, k, f, id⟩
theorem Sst.tr (h : Sst E0 x S T F col S1 T1 F1 c1) (g : Sst E x S1 T1 F1 c1 S2 T2 F2 c2) : Sst E x S T F col S2 T2 F2 c2 := by
  have lt : ∀ q, q < S.1 → q < S1.1 := fun q a => Nat.lt_of_lt_of_le a h.en.1.1
  refine ⟨g.ci, h.en.tr g.en, fun q a => (g.cl q (lt q a)).trans (h.cl q a), fun q a b => (g.fr q (lt q a) (by rw [h.cl q a]; exact b)).trans (h.fr q a b), fun c a b => (g.ft c (lt c a) (by rw [h.cl c a]; exact b)).trans (h.ft c a b), ?_, ?_, h.k, g.fc, fun a => g.mb (h.mb a)⟩
  · have := h.n1
    have := g.n1
    omega
  · have := h.n2
    have := g.n2
    omega
/-- a step that makes nothing -/
theorem Sst.u (h : Sst E0 x S T F col S1 T1 F1 c1) (ci : CI E S2 T2 F2 c1) (ek : eK S1 S2) (fr : ∀ q, c1 q ≠ x → S2.2.2 q = S1.2.2 q) (ft : ∀ c, c1 c ≠ x → T2 c = T1 c) (l1 : ∀ l, iK S1 l 2 → grC S2 l 2 = grC S1 l 2 ∧ giC S2 l 0 = giC S1 l 0) (hm : mT T2 x + F2.length = mT T1 x + F1.length) (hF : ∀ q, q ∈ F2 → c1 q = x) : Sst E x S T F col S2 T2 F2 c1 := by
  refine h.tr ⟨ci, ek.n, fun _ _ => rfl, fun q _ b => fr q b, fun c _ b => ft c b, ?_, ?_, h.k1, hF, fun _ => by omega⟩
  · have w := h.ci.wf.w0 h.k1
    have e7 : lcl S2 (x + 7) = lcl S1 (x + 7) := by
      unfold lcl
      rw [(l1 _ w.1.2.2.2.2.1).1]
      exact (ek.2 _ (h.ci.wf.w2 w.1.2.2.2.2.1).2.1.2.1).2
    have e9 : lcl S2 (x + 9) = lcl S1 (x + 9) := by
      unfold lcl
      rw [(l1 _ w.1.2.2.2.2.2.1).1]
      exact (ek.2 _ (h.ci.wf.w2 w.1.2.2.2.2.2.1).2.1.2.1).2
    unfold pcL
    rw [e7, e9, ← ek.1.1]
    omega
  · have w := h.ci.wf.w0 h.k1
    have e7 : lcl S2 (x + 7) = lcl S1 (x + 7) := by
      unfold lcl
      rw [(l1 _ w.1.2.2.2.2.1).1]
      exact (ek.2 _ (h.ci.wf.w2 w.1.2.2.2.2.1).2.1.2.1).2
    have e9 : lcl S2 (x + 9) = lcl S1 (x + 9) := by
      unfold lcl
      rw [(l1 _ w.1.2.2.2.2.2.1).1]
      exact (ek.2 _ (h.ci.wf.w2 w.1.2.2.2.2.2.1).2.1.2.1).2
    unfold plL psL
    rw [e7, e9, (l1 _ w.1.2.2.2.2.1).2, (l1 _ w.1.2.2.2.2.2.1).2, ← ek.1.2]
    omega
theorem Sst.si (h : Sst E x S T F col S1 T1 F1 c1) {a b : Nat} {v : Int32} (hc : c1 a = x) (n4 : kdC S1 a ≠ 4) (ok : okI (kdC S1 a) b v) : Sst E x S T F col (siC S1 a b v) T1 F1 c1 := by
  refine h.u (h.ci.si ok n4) (eK.si S1 a b v) (fun q n => ce_si b v (fun z => n (by rw [z]; exact hc))) (fun _ _ => rfl) (fun l k => ⟨gr_si .., ?_⟩) rfl h.fc
  rw [gi_si, if_neg (fun z => by have := ok.2.1 (by rw [← z.1]; exact k.2); omega)]
theorem Sst.sf (h : Sst E x S T F col S1 T1 F1 c1) {a : Nat} {f : Nat → Int32} (hc : c1 a = x) (ok : kdC S1 a = 20 ∨ kdC S1 a = 21 ∨ (kdC S1 a = 22 ∧ ∀ i, fits .byte (.int (f i)) = true)) : Sst E x S T F col (sfC S1 a f) T1 F1 c1 := by
  refine h.u (h.ci.sf ok) (eK.sf S1 a f) (fun q n => ce_sf f (fun z => n (by rw [z]; exact hc))) (fun _ _ => rfl) (fun l k => ⟨gr_sf .., ?_⟩) rfl h.fc
  rw [gi_sf, if_neg (fun z => by have := k.2; rw [z] at this; omega)]
theorem Sst.oc (h : Sst E x S T F col S1 T1 F1 c1) {c : Nat} (o : own x c) : c1 c = x := by
  obtain ⟨j, hj, e⟩ := o.lt
  rw [e]
  exact h.ci.c0 x h.k1 j hj
theorem Sst.cx (h : Sst E x S T F col S1 T1 F1 c1) (j : Nat) (hj : j < 40) : c1 (x + j) = x := h.ci.c0 x h.k1 j hj
theorem own.k (h : Sst E x S T F col S1 T1 F1 c1) {P : Nat} (o : own x P) (n : P ≠ x) : iK S1 P 4 := by
  have w := h.ci.wf.w0 h.k1
  rcases o with o | o | o | ⟨p, hp, o⟩
  · exact absurd o n
  · rw [o]
    exact w.1.2.1
  · rw [o]
    exact (h.ci.wf.w5 w.1.2.2.1).1
  · rw [o, show x + 14 + 3 * p = x + 13 + 3 * p + 1 by omega]
    exact (h.ci.wf.w5 (dk_ix h.ci.wf h.k1 hp).2).1
theorem Sst.pull (h : Sst E x S T F col S1 T1 F1 c1) {P q : Nat} {l : List Nat} {v : Int32} (e : ¬ E P) (o : own x P) (n : P ≠ x) (hT : T1 P = l ++ [q]) (hv : v.toInt = l.length) : Sst E x S T F col (srC (siC S1 P 1 v) (P + 1) l.length none) (tU T1 P l) (q :: F1) c1 := by
  have k := own.k h o n
  have w4 := h.ci.wf.w4 k
  have hq : q ∈ T1 P := by rw [hT]; simp
  have hc := h.oc o
  have hc1 : c1 (P + 1) = x := by
    rcases o with o | o | o | ⟨p, hp, o⟩
    · exact absurd o n
    · rw [o]
      exact h.cx 2 (by omega)
    · rw [o]
      exact h.cx 5 (by omega)
    · rw [o, show x + 14 + 3 * p + 1 = x + (15 + 3 * p) by omega]
      exact h.cx (15 + 3 * p) (by omega)
  refine h.u (h.ci.pull e k hT hv) ((eK.si S1 P 1 v).tr (eK.sr _ _ _ _)) (fun z m => ?_) (fun c m => tU_ne T1 l (fun z => m (by rw [z]; exact hc))) (fun z kz => ?_) ?_ (fun z m => ?_)
  · rw [ce_sr _ _ (fun y => m (by rw [y]; exact hc1)), ce_si _ _ (fun y => m (by rw [y]; exact hc))]
  · rw [gr_sr, if_neg (fun y => by have := kz.2; rw [y.1, w4.1.1.2] at this; omega), gr_si, gi_sr, gi_si, if_neg (fun y => by have := kz.2; rw [y.1, k.2] at this; omega)]
    exact ⟨rfl, rfl⟩
  · have := mT_U (T := T1) (l := l) o
    rw [hT, List.length_append] at this
    simp at this ⊢
    omega
  · rcases List.mem_cons.mp m with rfl | m
    · rw [(h.ci.tk P z hq).2, hc]
    · exact h.fc z m
theorem Sst.put {q : Nat} (h : Sst E x S T F col S1 T1 (q :: F1) c1) {P : Nat} {v : Int32} (e : ¬ E P) (o : own x P) (n : P ≠ x) (hl : (T1 P).length < 9) (hv : v.toInt = (T1 P).length + 1) : Sst E x S T F col (siC (srC S1 (P + 1) (T1 P).length (some q)) P 1 v) (tU T1 P (T1 P ++ [q])) F1 c1 := by
  have k := own.k h o n
  have w4 := h.ci.wf.w4 k
  have hc := h.oc o
  have hq := h.fc q (List.mem_cons_self ..)
  have hc1 : c1 (P + 1) = x := by
    rcases o with o | o | o | ⟨p, hp, o⟩
    · exact absurd o n
    · rw [o]
      exact h.cx 2 (by omega)
    · rw [o]
      exact h.cx 5 (by omega)
    · rw [o, show x + 14 + 3 * p + 1 = x + (15 + 3 * p) by omega]
      exact h.cx (15 + 3 * p) (by omega)
  refine h.u (h.ci.put e k hl (by rw [hq, hc]) hv) ((eK.sr S1 _ _ _).tr (eK.si _ _ _ _)) (fun z m => ?_) (fun c m => tU_ne T1 _ (fun z => m (by rw [z]; exact hc))) (fun z kz => ?_) ?_ (fun z m => h.fc z (List.mem_cons_of_mem _ m))
  · rw [ce_si _ _ (fun y => m (by rw [y]; exact hc)), ce_sr _ _ (fun y => m (by rw [y]; exact hc1))]
  · rw [gr_si, gr_sr, if_neg (fun y => by have := kz.2; rw [y.1, w4.1.1.2] at this; omega), gi_si, if_neg (fun y => by have := kz.2; rw [y.1, k.2] at this; omega), gi_sr]
    exact ⟨rfl, rfl⟩
  · have := mT_U (T := T1) (l := T1 P ++ [q]) o
    simp at this ⊢
    omega
theorem Sst.push {q : Nat} (h : Sst E x S T F col S1 T1 (q :: F1) c1) : Sst E x S T F col (srC (srC S1 q 15 (grC S1 x 10)) x 10 (some q)) (tU T1 x (q :: T1 x)) F1 c1 := by
  have hq := h.fc q (List.mem_cons_self ..)
  have kq := (h.ci.tf.2 q (List.mem_cons_self ..)).1
  have hx := h.cx 0 (by omega)
  refine h.u (h.ci.push h.k1 hq) ((eK.sr S1 _ _ _).tr (eK.sr _ _ _ _)) (fun z m => ?_) (fun c m => tU_ne T1 _ (fun z => m (by rw [z]; exact hx))) (fun z kz => ?_) ?_ (fun z m => h.fc z (List.mem_cons_of_mem _ m))
  · rw [ce_sr _ _ (fun y => m (by rw [y]; exact hx)), ce_sr _ _ (fun y => m (by rw [y]; exact hq))]
  · rw [gr_sr, if_neg (fun y => by have := kz.2; rw [y.1, h.k1.2] at this; omega), gr_sr, if_neg (fun y => by have := kz.2; rw [y.1, kq.2] at this; omega), gi_sr, gi_sr]
    exact ⟨rfl, rfl⟩
  · have := mT_U (T := T1) (l := q :: T1 x) (show own x x from Or.inl rfl)
    simp at this ⊢
    omega
theorem Sst.pop {q : Nat} {L : List Nat} (h : Sst E x S T F col S1 T1 F1 c1) (hT : T1 x = q :: L) : Sst E x S T F col (srC (srC S1 x 10 (grC S1 q 15)) q 15 none) (tU T1 x L) (q :: F1) c1 := by
  have mq : q ∈ T1 x := by rw [hT]; exact List.mem_cons_self ..
  have kq := h.ci.tk x q mq
  have hx := h.cx 0 (by omega)
  have hq : c1 q = x := by rw [kq.2]; exact hx
  refine h.u (h.ci.pop h.k1 hT) ((eK.sr S1 _ _ _).tr (eK.sr _ _ _ _)) (fun z m => ?_) (fun c m => tU_ne T1 _ (fun z => m (by rw [z]; exact hx))) (fun z kz => ?_) ?_ (fun z m => ?_)
  · rw [ce_sr _ _ (fun y => m (by rw [y]; exact hq)), ce_sr _ _ (fun y => m (by rw [y]; exact hx))]
  · rw [gr_sr, if_neg (fun y => by have := kz.2; rw [y.1, kq.1.2] at this; omega), gr_sr, if_neg (fun y => by have := kz.2; rw [y.1, h.k1.2] at this; omega), gi_sr, gi_sr]
    exact ⟨rfl, rfl⟩
  · have := mT_U (T := T1) (l := L) (show own x x from Or.inl rfl)
    rw [hT] at this
    simp at this ⊢
    omega
  · rcases List.mem_cons.mp m with rfl | m
    · exact hq
    · exact h.fc z m
end
end
section
/-! ===== piles: what pull, put, dropTop, release do ===== -/
/-- all numbers but the sizes of piles stand -/
def gL (S S' : Cst) : Prop := ∀ l, l < S.1 → kdC S l = 2 → grC S' l 2 = grC S l 2
theorem gL.tr {S S1 S2 : Cst} (e : eN S S1) (h : gL S S1) (g : gL S1 S2) : gL S S2 := fun l a k => (g l (Nat.lt_of_lt_of_le a e.1.1) (by rw [(e.2 l a).1]; exact k)).trans (h l a k)
theorem gL.si (S : Cst) (a b : Nat) (v : Int32) : gL S (siC S a b v) := fun _ _ _ => gr_si ..
theorem gL.sr (S : Cst) {a : Nat} (b : Nat) (v : Option Nat) (h : kdC S a ≠ 2) : gL S (srC S a b v) := fun l _ k => by rw [gr_sr, if_neg (fun y => h (by rw [← y.1]; exact k))]
def gF (S S' : Cst) : Prop := eN S S' ∧ (∀ q, q < S.1 → kdC S q ≠ 4 → ∀ k, giC S' q k = giC S q k) ∧ gL S S' ∧ S'.1 = S.1
theorem gF.rf (S : Cst) : gF S S := ⟨eN.rf S, fun _ _ _ _ => rfl, fun _ _ _ => rfl, rfl⟩
theorem gF.ik {S S' : Cst} (h : gF S S') {q c : Nat} (k : iK S' q c) : iK S q c := by
  have a : q < S.1 := by rw [← h.2.2.2]; exact k.1
  exact ⟨a, by rw [← (h.1.2 q a).1]; exact k.2⟩
theorem gF.tr {S S1 S2 : Cst} (h : gF S S1) (g : gF S1 S2) : gF S S2 := ⟨h.1.tr g.1, fun q a b k => (g.2.1 q (Nat.lt_of_lt_of_le a h.1.1.1) (by rw [(h.1.2 q a).1]; exact b) k).trans (h.2.1 q a b k), gL.tr h.1 h.2.2.1 g.2.2.1, g.2.2.2.trans h.2.2.2⟩
section
variable {E E0 : Nat → Prop} {x : Nat} {S S1 : Cst} {T T1 : Nat → List Nat} {F F1 : List Nat} {col c1 : Nat → Nat}
theorem y_pull (h : Sst E x S T F col S1 T1 F1 c1) {P : Nat} (e : ¬ E P) (o : own x P) (n : P ≠ x) : p_Y5_pull S1 P ∧ (T1 P = [] → f_Y5_pull S1 P = (none, S1)) ∧ ∀ l q, T1 P = l ++ [q] → ∃ S2, f_Y5_pull S1 P = (some q, S2) ∧ Sst E x S T F col S2 (tU T1 P l) (q :: F1) c1 ∧ gF S1 S2 := by
  have k := own.k h o n
  have w4 := h.ci.wf.w4 k
  have w := h.ci.tp P e k
  have h9 : (Int32.ofNat 9).toInt = 9 := by decide
  refine ⟨?_, fun z => ?_, fun l q hT => ?_⟩
  · unfold p_Y5_pull
    simp only [q_Y5_pull_20, gi_si, gr_si, kd_si, ln_si, n1_si, n2_si, gi_sr, gr_sr, kd_sr, ln_sr, n1_sr, n2_sr, gi_sf, gr_sf, kd_sf, ln_sf, n1_sf, n2_sf, ik_si, ik_sr, ik_sf, ir_si, ir_sr, ir_sf, ir_so, Option.getD_some, and_self, if_true, true_and, and_true, w4.2.1, w4.1.2]
    refine iteI (fun _ => trivial) (fun g => ⟨w4.1.1, iteI (fun _ => ?_) (fun _ => trivial)⟩)
    have g := mt iLt.mpr g
    rw [i1] at g
    have e1 := iSub (x := giC S1 P 1) (y := 1) (by rw [i1]; omega) (by rw [i1]; omega)
    rw [i1] at e1
    have v : vp_in (giC S1 P 1 - 1) 9 := vIn (by omega) (by omega)
    exact ⟨w4.1.1, v, w4.1.1, v⟩
  · rw [z] at w
    unfold f_Y5_pull b_Y5_pull_20
    rw [if_pos (iLt.mpr (by rw [i1, w.1]; decide))]
  · rw [hT, List.length_append] at w
    simp only [List.length_singleton] at w
    have e1 := iSub (x := giC S1 P 1) (y := 1) (by rw [i1]; omega) (by rw [i1]; omega)
    rw [i1] at e1
    have e2 := iNat (x := giC S1 P 1 - 1) (by omega)
    have e3 : (giC S1 P 1 - 1).toNatClampNeg = l.length := by omega
    have e4 : grC S1 (P + 1) l.length = some q := by
      rw [w.2.2 l.length (by omega)]
      congr 1
      rw [List.getD_eq_getElem?_getD, List.getElem?_append_right (Nat.le_refl _), Nat.sub_self]
      rfl
    refine ⟨_, ?_, h.pull e o n hT (v := giC S1 P 1 - 1) (by omega), ?_⟩
    · unfold f_Y5_pull
      rw [if_neg (fun z => by have := iLt.mp z; rw [i1] at this; omega), w4.2.1, Option.getD_some, w4.1.2, if_pos (iLe.mpr (by rw [h9]; omega))]
      simp only [gi_si, gr_si, kd_si, ln_si, n1_si, n2_si, gi_sr, gr_sr, kd_sr, ln_sr, n1_sr, n2_sr, gi_sf, gr_sf, kd_sf, ln_sf, n1_sf, n2_sf, ik_si, ik_sr, ik_sf, ir_si, ir_sr, ir_sf, ir_so, Option.getD_some, and_self, if_true, true_and, and_true, w4.2.1, e3, e4]
    · refine ⟨((eK.si S1 P 1 _).tr (eK.sr _ _ _ _)).n, fun z _ nz j => ?_, gL.tr (eK.si S1 P 1 _).n (gL.si S1 P 1 _) (gL.sr _ _ _ (by rw [kd_si, w4.1.1.2]; decide)), rfl⟩
      rw [gi_sr, gi_si, if_neg (fun y => nz (by rw [y.1]; exact k.2))]
theorem y_put {q : Nat} (h : Sst E x S T F col S1 T1 (q :: F1) c1) {P : Nat} (e : ¬ E P) (o : own x P) (n : P ≠ x) (hl : (T1 P).length < 9) : p_Y5_put S1 P (some q) ∧ ∃ S2, f_Y5_put S1 P (some q) = (0, S2) ∧ Sst E x S T F col S2 (tU T1 P (T1 P ++ [q])) F1 c1 ∧ gF S1 S2 ∧ (∀ Q i, Q ≠ P + 1 → kdC S1 Q = 23 → grC S2 Q i = grC S1 Q i) ∧ ∀ Q i, kdC S1 Q = 4 → Q ≠ P → giC S2 Q i = giC S1 Q i := by
  have k := own.k h o n
  have w4 := h.ci.wf.w4 k
  have w := h.ci.tp P e k
  have h9 : (Int32.ofNat 9).toInt = 9 := by decide
  have kq := (h.ci.tf.2 q (List.mem_cons_self ..)).1
  have e1 := iAdd (x := giC S1 P 1) (y := 1) (by rw [i1]; omega) (by rw [i1]; omega)
  rw [i1] at e1
  have e2 := iNat (x := giC S1 P 1) (by omega)
  have e3 : (giC S1 P 1).toNatClampNeg = (T1 P).length := by omega
  refine ⟨?_, _, ?_, h.put e o n hl (v := giC S1 P 1 + 1) (by omega), ?_, ?_, ?_⟩
  · unfold p_Y5_put
    simp only [q_Y5_put_36, gi_si, gr_si, kd_si, ln_si, n1_si, n2_si, gi_sr, gr_sr, kd_sr, ln_sr, n1_sr, n2_sr, gi_sf, gr_sf, kd_sf, ln_sf, n1_sf, n2_sf, ik_si, ik_sr, ik_sf, ir_si, ir_sr, ir_sf, ir_so, Option.getD_some, and_self, if_true, true_and, and_true, w4.2.1, w4.1.2, reduceCtorEq, if_false]
    exact ⟨w4.1.1, iteI (fun _ => trivial) (fun _ => ⟨w4.1.1, kq, vIn (by omega) (by omega)⟩)⟩
  · unfold f_Y5_put b_Y5_put_36
    rw [if_neg (by simp), w4.2.1, Option.getD_some, w4.1.2, if_neg (fun z => by have := iLe.mp z; rw [h9] at this; omega)]
    simp only [gi_si, gr_si, kd_si, ln_si, n1_si, n2_si, gi_sr, gr_sr, kd_sr, ln_sr, n1_sr, n2_sr, gi_sf, gr_sf, kd_sf, ln_sf, n1_sf, n2_sf, ik_si, ik_sr, ik_sf, ir_si, ir_sr, ir_sf, ir_so, Option.getD_some, and_self, if_true, true_and, and_true, e3]
  · refine ⟨((eK.sr S1 _ _ _).tr (eK.si _ _ _ _)).n, fun z _ nz j => ?_, gL.tr (eK.sr S1 _ _ _).n (gL.sr S1 _ _ (by rw [w4.1.1.2]; decide)) (gL.si _ _ _ _), rfl⟩
    rw [gi_si, if_neg (fun y => nz (by rw [y.1]; exact k.2)), gi_sr]
  · intro Q i nQ kQ
    rw [gr_si, gr_sr, if_neg (fun y => nQ y.1)]
  · intro Q i _ nQ
    rw [gi_si, if_neg (fun y => nQ y.1), gi_sr]
theorem y_dropTop (h : Sst E x S T F col S1 T1 F1 c1) {P : Nat} (e : ¬ E P) (o : own x P) (n : P ≠ x) : p_Y0_dropTop S1 x P ∧ ∃ S2 T2, f_Y0_dropTop S1 x P = (0, S2) ∧ Sst E x S T F col S2 T2 F1 c1 ∧ gF S1 S2 ∧ T2 P = (T1 P).dropLast ∧ ∀ c, c ≠ P → c ≠ x → T2 c = T1 c := by
  obtain ⟨p1, p2, p3⟩ := y_pull h e o n
  unfold p_Y0_dropTop f_Y0_dropTop
  rcases List.eq_nil_or_concat (T1 P) with z | ⟨l, q, z⟩
  · rw [p2 z]
    refine ⟨⟨p1, ?_⟩, S1, T1, ?_, h, gF.rf S1, by rw [z]; rfl, fun _ _ _ => rfl⟩
    · simp only [q_Y0_dropTop_22, q_Y0_dropTop_4a, if_true]
    · simp only [b_Y0_dropTop_22, b_Y0_dropTop_4a, if_true]
  · rw [List.concat_eq_append] at z
    obtain ⟨S2, f1, f2, f3⟩ := p3 l q z
    rw [f1]
    have kq := (f2.ci.tf.2 q (List.mem_cons_self ..)).1
    refine ⟨⟨p1, ?_⟩, _, _, ?_, f2.push, f3.tr ⟨((eK.sr S2 _ _ _).tr (eK.sr _ _ _ _)).n, fun z _ _ j => by rw [gi_sr, gi_sr], gL.tr (eK.sr S2 _ _ _).n (gL.sr S2 _ _ (by rw [kq.2]; decide)) (gL.sr _ _ _ (by rw [kd_sr, f2.k1.2]; decide)), rfl⟩, ?_, fun c a b => ?_⟩
    · simp only [q_Y0_dropTop_22, q_Y0_dropTop_4a, gi_si, gr_si, kd_si, ln_si, n1_si, n2_si, gi_sr, gr_sr, kd_sr, ln_sr, n1_sr, n2_sr, gi_sf, gr_sf, kd_sf, ln_sf, n1_sf, n2_sf, ik_si, ik_sr, ik_sf, ir_si, ir_sr, ir_sf, ir_so, Option.getD_some, and_self, if_true, true_and, and_true, reduceCtorEq, if_false]
      exact kq
    · simp only [b_Y0_dropTop_22, b_Y0_dropTop_4a, gi_si, gr_si, kd_si, ln_si, n1_si, n2_si, gi_sr, gr_sr, kd_sr, ln_sr, n1_sr, n2_sr, gi_sf, gr_sf, kd_sf, ln_sf, n1_sf, n2_sf, ik_si, ik_sr, ik_sf, ir_si, ir_sr, ir_sf, ir_so, Option.getD_some, and_self, if_true, true_and, and_true, reduceCtorEq, if_false]
    · rw [tU_ne _ _ n, tU_at, z, List.dropLast_concat]
    · rw [tU_ne _ _ b, tU_ne _ _ a]
/-- all of a pile's motions go to the spare ones -/
theorem release_lp {P : Nat} (n : P ≠ x) (e : ¬ E P) (o : own x P) : ∀ (m : Nat) (S1 : Cst) (T1 : Nat → List Nat) (v : Int32), Sst E x S T F col S1 T1 F1 c1 → v.toInt = (T1 P).length → (T1 P).length < m → lq_Y0_release_5 x P m S1 v ∧ ∃ S2 T2, lp_Y0_release_5 x P m S1 v = (0, S2) ∧ Sst E x S T F col S2 T2 F1 c1 ∧ gF S1 S2 ∧ T2 P = [] ∧ ∀ c, c ≠ P → c ≠ x → T2 c = T1 c := by
  intro m
  induction m with
  | zero => intro S1 T1 v _ _ g; omega
  | succ m ih =>
    intro S1 T1 v h hv g
    rw [lq_Y0_release_5, lp_Y0_release_5]
    unfold ps_Y0_release_5 st_Y0_release_5
    by_cases z : T1 P = []
    · have c : v ≤ 0 := iLe.mpr (by rw [i0, hv, z]; decide)
      rw [if_pos c, if_pos c]
      exact ⟨⟨trivial, trivial⟩, S1, T1, rfl, h, gF.rf S1, z, fun _ _ _ => rfl⟩
    · have lz : 0 < (T1 P).length := List.length_pos_iff.mpr z
      have c : ¬ v ≤ 0 := fun y => by have := iLe.mp y; rw [i0] at this; omega
      rw [if_neg c, if_neg c]
      obtain ⟨p1, S2, T2, f1, f2, f3, f4, f5⟩ := y_dropTop h e o n
      rw [f1]
      have l9 := (h.ci.tp P e (own.k h o n)).2.1
      have em : (-1 : Int32).toInt = -1 := by decide
      have e1 := iAdd (x := v) (y := -1) (by rw [em]; omega) (by rw [em]; omega)
      rw [em] at e1
      have l2 : (T2 P).length = (T1 P).length - 1 := by rw [f4, List.length_dropLast]
      obtain ⟨r1, S3, T3, r2, r3, r4, r5, r6⟩ := ih S2 T2 (v + -1) f2 (by omega) (by omega)
      unfold b_Y0_release_14a q_Y0_release_14a
      exact ⟨⟨⟨p1, trivial⟩, r1⟩, S3, T3, r2, r3, f3.tr r4, r5, fun c a b => (r6 c a b).trans (f5 c a b)⟩
theorem y_release (h : Sst E x S T F col S1 T1 F1 c1) {P : Nat} (e : ¬ E P) (o : own x P) (n : P ≠ x) : p_Y0_release S1 x P ∧ ∃ S2 T2, f_Y0_release S1 x P = (0, S2) ∧ Sst E x S T F col S2 T2 F1 c1 ∧ gF S1 S2 ∧ T2 P = [] ∧ ∀ c, c ≠ P → c ≠ x → T2 c = T1 c := by
  have w := h.ci.tp P e (own.k h o n)
  exact release_lp n e o 100000 S1 T1 _ h w.1 (by omega)
end
end
section
/-! ===== places: discard, clear, pullLowest, pourInto, takeFrom, hold ===== -/
def pl (x d : Nat) : Prop := d = x + 3 ∨ ∃ p, p < 8 ∧ d = x + 13 + 3 * p
theorem pl.o {x d : Nat} (h : pl x d) : own x (d + 1) ∧ d + 1 ≠ x ∧ ∃ j, j < 40 ∧ d = x + j := by
  rcases h with h | ⟨p, hp, h⟩
  · exact ⟨Or.inr (Or.inr (Or.inl (by omega))), by omega, 3, by omega, h⟩
  · exact ⟨Or.inr (Or.inr (Or.inr ⟨p, hp, by omega⟩)), by omega, 13 + 3 * p, by omega, by omega⟩
/-- all numbers but the sizes of piles and those at D stand -/
def gX (D : Nat → Prop) (S S' : Cst) : Prop := eN S S' ∧ (∀ q, q < S.1 → kdC S q ≠ 4 → ¬ D q → ∀ k, giC S' q k = giC S q k) ∧ gL S S'
theorem gF.x {D : Nat → Prop} {S S' : Cst} (h : gF S S') : gX D S S' := ⟨h.1, fun q a b _ k => h.2.1 q a b k, h.2.2.1⟩
theorem gX.tr {D : Nat → Prop} {S S1 S2 : Cst} (h : gX D S S1) (g : gX D S1 S2) : gX D S S2 := ⟨h.1.tr g.1, fun q a b c k => (g.2.1 q (Nat.lt_of_lt_of_le a h.1.1.1) (by rw [(h.1.2 q a).1]; exact b) c k).trans (h.2.1 q a b c k), gL.tr h.1 h.2.2 g.2.2⟩
theorem gX.mo {D D' : Nat → Prop} {S S1 : Cst} (h : gX D S S1) (m : ∀ q, D q → D' q) : gX D' S S1 := ⟨h.1, fun q a b c k => h.2.1 q a b (fun z => c (m q z)) k, h.2.2⟩
theorem gX.si (S : Cst) (d b : Nat) (v : Int32) : gX (fun q => q = d) S (siC S d b v) := ⟨(eK.si S d b v).n, fun q _ _ n k => by rw [gi_si, if_neg (fun z => n z.1)], gL.si S d b v⟩
section
variable {E E0 : Nat → Prop} {x : Nat} {S S1 : Cst} {T T1 : Nat → List Nat} {F F1 : List Nat} {col c1 : Nat → Nat}
theorem pl.k (h : Sst E x S T F col S1 T1 F1 c1) {d : Nat} (o : pl x d) : iK S1 d 5 ∧ c1 d = x := by
  refine ⟨?_, ?_⟩
  · rcases o with o | ⟨p, hp, o⟩
    · rw [o]
      exact (h.ci.wf.w0 h.k1).1.2.2.1
    · rw [o]
      exact (dk_ix h.ci.wf h.k1 hp).2
  · obtain ⟨j, hj, e⟩ := o.o.2.2
    rw [e]
    exact h.cx j hj
theorem Sst.sort (h : Sst E x S T F col S1 T1 F1 c1) {d : Nat} (o : pl x d) (v : Int32) : Sst E x S T F col (siC S1 d 0 v) T1 F1 c1 := by
  have k := o.k h
  exact h.si k.2 (by rw [k.1.2]; decide) ⟨fun z => by rw [k.1.2] at z; omega, fun z => by rw [k.1.2] at z; omega, fun z => by rw [k.1.2] at z; omega, fun z => by rw [k.1.2] at z; omega, fun z => by rw [k.1.2] at z; omega, fun z => by rw [k.1.2] at z; omega⟩
theorem y_discard (h : Sst E x S T F col S1 T1 F1 c1) {d : Nat} (o : pl x d) (e : ¬ E (d + 1)) : p_Y0_discard S1 x d ∧ ∃ S2 T2, f_Y0_discard S1 x d = (0, S2) ∧ Sst E x S T F col S2 T2 F1 c1 ∧ gX (fun q => q = d) S1 S2 ∧ giC S2 d 0 = 0 ∧ T2 (d + 1) = [] ∧ ∀ c, c ≠ d + 1 → c ≠ x → T2 c = T1 c := by
  have k := o.k h
  have w5 := h.ci.wf.w5 k.1
  obtain ⟨p1, S2, T2, f1, f2, f3, f4, f5⟩ := y_release h e o.o.1 o.o.2.1
  unfold p_Y0_discard f_Y0_discard
  simp only [q_Y0_discard_8a, b_Y0_discard_8a, w5.2, Option.getD_some, ir_so, f1]
  exact ⟨⟨w5.1, p1, trivial⟩, _, T2, rfl, f2.sort o 0, f3.x.tr (gX.si S2 d 0 0), by rw [gi_si, if_pos ⟨rfl, rfl⟩], f4, f5⟩
theorem em1 : (-1 : Int32).toInt = -1 := by decide
theorem clear_lp (hE : ∀ c, ¬ E c) : ∀ (n : Nat) (S1 : Cst) (T1 : Nat → List Nat) (b : Int32), Sst E x S T F col S1 T1 F1 c1 → 0 ≤ b.toInt → b.toInt ≤ 8 → 8 - b.toInt < n → lq_Y0_clear_18 x n S1 b ∧ ∃ S2 T2, lp_Y0_clear_18 x n S1 b = (0, S2) ∧ Sst E x S T F col S2 T2 F1 c1 ∧ gX (fun q => ∃ p, b.toNatClampNeg ≤ p ∧ p < 8 ∧ q = x + 13 + 3 * p) S1 S2 ∧ (∀ p, b.toNatClampNeg ≤ p → p < 8 → giC S2 (x + 13 + 3 * p) 0 = 0 ∧ T2 (x + 14 + 3 * p) = []) ∧ ∀ c, c ≠ x → (∀ p, b.toNatClampNeg ≤ p → p < 8 → c ≠ x + 14 + 3 * p) → T2 c = T1 c := by
  intro n
  induction n with
  | zero => intro S1 T1 b h h1 h2 h3; omega
  | succ n ih =>
    intro S1 T1 b h h1 h2 h3
    rw [lq_Y0_clear_18, lp_Y0_clear_18]
    have hb := iNat h1
    unfold ps_Y0_clear_18 st_Y0_clear_18
    by_cases c : b.toInt = 8
    · have c8 : 8 ≤ b := iLe.mpr (by rw [e8]; omega)
      rw [if_pos c8, if_pos c8]
      exact ⟨⟨trivial, trivial⟩, S1, T1, rfl, h, (gF.rf S1).x, fun p a b => by omega, fun _ _ _ => rfl⟩
    · have c8 : ¬ 8 ≤ b := fun z => by have := iLe.mp z; rw [e8] at this; omega
      rw [if_neg c8, if_neg c8]
      have dk := dk_ix h.ci.wf h.k1 (i := b.toNatClampNeg) (by omega)
      rw [dk.1, Option.getD_some]
      have o : pl x (x + 13 + 3 * b.toNatClampNeg) := Or.inr ⟨_, by omega, rfl⟩
      obtain ⟨p1, S2, T2, f1, f2, f3, f4, f5, f6⟩ := y_discard h o (hE _)
      rw [f1]
      have e := iAdd (x := b) (y := 1) (by rw [i1]; omega) (by rw [i1]; omega)
      rw [i1] at e
      have hb' := iNat (x := b + 1) (by omega)
      have hs : (b + 1).toNatClampNeg = b.toNatClampNeg + 1 := by omega
      obtain ⟨r1, S3, T3, r2, r3, r4, r5, r6⟩ := ih S2 T2 (b + 1) f2 (by omega) (by omega) (by omega)
      rw [hs] at r4 r5 r6
      unfold b_Y0_clear_34a q_Y0_clear_34a
      refine ⟨⟨⟨g0_3 h.ci.wf h.k1, ?_, ir_so.mpr dk.2, p1, trivial⟩, r1⟩, S3, T3, r2, r3, (f3.mo (fun q z => ⟨_, Nat.le_refl _, by omega, z⟩)).tr (r4.mo (fun q ⟨p, a, b, c⟩ => ⟨p, by omega, b, c⟩)), fun p a d => ?_, fun c nx nc => ?_⟩
      · rw [dk_ln h.ci.wf h.k1]
        exact vIn h1 (by omega)
      · by_cases y : p = b.toNatClampNeg
        · subst y
          refine ⟨?_, ?_⟩
          · have k2 : iK S2 (x + 13 + 3 * b.toNatClampNeg) 5 := (o.k f2).1
            rw [r4.2.1 _ k2.1 (by rw [k2.2]; decide) (fun ⟨p, a, b, c⟩ => by omega), f4]
          · rw [r6 _ (by omega) (fun p a b => by omega), show x + 14 + 3 * b.toNatClampNeg = x + 13 + 3 * b.toNatClampNeg + 1 by omega]
            exact f5
        · exact r5 p (by omega) d
      · rw [r6 c nx (fun p a b => nc p (by omega) b)]
        exact f6 c (fun z => nc _ (Nat.le_refl _) (by omega) (by omega)) nx
/-- nothing pending, drafted or lying -/
def clr (S : Cst) (T : Nat → List Nat) (x : Nat) : Prop := T (x + 1) = [] ∧ T (x + 4) = [] ∧ giC S (x + 3) 0 = 0 ∧ ∀ p, p < 8 → giC S (x + 13 + 3 * p) 0 = 0 ∧ T (x + 14 + 3 * p) = []
theorem y_clear (hE : ∀ c, ¬ E c) (h : Sst E x S T F col S1 T1 F1 c1) : p_Y0_clear S1 x ∧ ∃ S2 T2, f_Y0_clear S1 x = (0, S2) ∧ Sst E x S T F col S2 T2 F1 c1 ∧ gX (fun q => kdC S1 q = 5) S1 S2 ∧ clr S2 T2 x := by
  have w0 := h.ci.wf.w0 h.k1
  obtain ⟨p1, S2, T2, f1, f2, f3, f4, f5⟩ := y_release h (hE _) (show own x (x + 1) from Or.inr (Or.inl rfl)) (by omega)
  have o3 : pl x (x + 3) := Or.inl rfl
  obtain ⟨q1, S3, T3, g1, g2, g3, g4, g5, g6⟩ := y_discard f2 o3 (hE _)
  obtain ⟨r1, S4, T4, r2, r3, r4, r5, r6⟩ := clear_lp hE 100000 S3 T3 0 g2 (by rw [i0]; omega) (by rw [i0]; omega) (by rw [i0]; omega)
  have w2 := f2.ci.wf.w0 f2.k1
  have z0 : (0 : Int32).toNatClampNeg = 0 := rfl
  rw [z0] at r4 r5 r6
  have k3 := (o3.k g2).1
  unfold p_Y0_clear f_Y0_clear
  simp only [q_Y0_clear_34a, q_Y0_clear_16a, q_Y0_clear_8a, b_Y0_clear_34a, b_Y0_clear_16a, b_Y0_clear_8a, w0.2.1.2.1, Option.getD_some, ir_so, f1, w2.2.1.2.2.1, g1]
  refine ⟨⟨w0.1.2.1, p1, w2.1.2.2.1, q1, r1⟩, S4, T4, r2, r3, ?_, ?_, ?_, ?_, fun p hp => r5 p (Nat.zero_le _) hp⟩
  · refine f3.x.tr ?_
    have g3' : gX (fun q => kdC S1 q = 5) S2 S3 := ⟨g3.1, fun q a b c k => g3.2.1 q a b (fun z => c (by
      have k1 := (o3.k h).1.2
      rw [z]
      exact k1)) k, g3.2.2⟩
    have r4' : gX (fun q => kdC S1 q = 5) S3 S4 := ⟨r4.1, fun q a b c k => r4.2.1 q a b (fun ⟨p, _, hp, z⟩ => c (by
      rw [z]
      exact (dk_ix h.ci.wf h.k1 hp).2.2)) k, r4.2.2⟩
    exact g3'.tr r4'
  · rw [r6 _ (by omega) (fun p _ _ => by omega), g6 _ (by omega) (by omega)]
    exact f4
  · rw [r6 _ (by omega) (fun p _ _ => by omega)]
    exact g5
  · rw [r4.2.1 _ k3.1 (by rw [k3.2]; decide) (fun ⟨p, _, _, z⟩ => by omega)]
    exact g4
/-- the lowest of those pending comes afloat, the others go to the spare ones -/
theorem lowest_lp (hE : ∀ c, ¬ E c) {q0 : Nat} : ∀ (n : Nat) (S1 : Cst) (T1 : Nat → List Nat) (v : Int32) (l : List Nat), Sst E x S T F col S1 T1 F1 c1 → T1 (x + 1) = q0 :: l → v.toInt = l.length + 1 → l.length + 1 < n → lq_Y0_pullLowest_8 x n S1 v ∧ ∃ S2 T2, lp_Y0_pullLowest_8 x n S1 v = (some q0, S2) ∧ Sst E x S T F col S2 T2 (q0 :: F1) c1 ∧ gF S1 S2 ∧ T2 (x + 1) = [] ∧ ∀ c, c ≠ x + 1 → c ≠ x → T2 c = T1 c := by
  intro n
  induction n with
  | zero => intro S1 T1 v l h hT hv g; omega
  | succ n ih =>
    intro S1 T1 v l h hT hv g
    have w0 := h.ci.wf.w0 h.k1
    have l9 := (h.ci.tp (x + 1) (hE _) w0.1.2.1).2.1
    rw [hT, List.length_cons] at l9
    rw [lq_Y0_pullLowest_8, lp_Y0_pullLowest_8]
    unfold ps_Y0_pullLowest_8 st_Y0_pullLowest_8
    rw [w0.2.1.2.1, Option.getD_some]
    cases l with
    | nil =>
      have c : v ≤ 1 := iLe.mpr (by rw [i1, hv]; decide)
      rw [if_pos c, if_pos c]
      obtain ⟨p1, _, p3⟩ := y_pull h (hE _) (show own x (x + 1) from Or.inr (Or.inl rfl)) (by omega)
      obtain ⟨S2, f1, f2, f3⟩ := p3 [] q0 hT
      rw [f1]
      exact ⟨⟨⟨ir_so.mpr w0.1.2.1, p1, trivial⟩, trivial⟩, S2, _, rfl, f2, f3, tU_at .., fun c a _ => tU_ne _ _ a⟩
    | cons a l =>
      have c : ¬ v ≤ 1 := fun z => by have := iLe.mp z; rw [i1, hv, List.length_cons] at this; omega
      rw [if_neg c, if_neg c]
      obtain ⟨p1, S2, T2, f1, f2, f3, f4, f5⟩ := y_dropTop h (hE _) (show own x (x + 1) from Or.inr (Or.inl rfl)) (by omega)
      rw [f1]
      rw [List.length_cons] at hv g l9
      have e1 := iAdd (x := v) (y := -1) (by rw [em1]; omega) (by rw [em1]; omega)
      rw [em1] at e1
      have hl : T2 (x + 1) = q0 :: (a :: l).dropLast := by
        rw [f4, hT]
        rfl
      have hlen : ((a :: l).dropLast).length = l.length := by
        rw [List.length_dropLast, List.length_cons]
        omega
      obtain ⟨r1, S3, T3, r2, r3, r4, r5, r6⟩ := ih S2 T2 (v + -1) _ f2 hl (by rw [hlen]; omega) (by rw [hlen]; omega)
      unfold b_Y0_pullLowest_21a q_Y0_pullLowest_21a
      exact ⟨⟨⟨ir_so.mpr w0.1.2.1, p1, trivial⟩, r1⟩, S3, T3, r2, r3, f3.tr r4, r5, fun c a b => (r6 c a b).trans (f5 c a b)⟩
theorem y_lowest (hE : ∀ c, ¬ E c) (h : Sst E x S T F col S1 T1 F1 c1) {q0 : Nat} {l : List Nat} (hT : T1 (x + 1) = q0 :: l) : p_Y0_pullLowest S1 x ∧ ∃ S2 T2, f_Y0_pullLowest S1 x = (some q0, S2) ∧ Sst E x S T F col S2 T2 (q0 :: F1) c1 ∧ gF S1 S2 ∧ T2 (x + 1) = [] ∧ ∀ c, c ≠ x + 1 → c ≠ x → T2 c = T1 c := by
  have w0 := h.ci.wf.w0 h.k1
  have w := h.ci.tp (x + 1) (hE _) w0.1.2.1
  rw [hT, List.length_cons] at w
  unfold p_Y0_pullLowest f_Y0_pullLowest
  rw [w0.2.1.2.1, Option.getD_some]
  obtain ⟨r1, r⟩ := lowest_lp hE 100000 S1 T1 (giC S1 (x + 1) 1) l h hT (by omega) (by omega)
  exact ⟨⟨ir_so.mpr w0.1.2.1, r1⟩, r⟩
theorem y_hold {q : Nat} (h : Sst E x S T F col S1 T1 (q :: F1) c1) {d : Nat} (v : Int32) (o : pl x d) (e : ¬ E (d + 1)) (hl : (T1 (d + 1)).length < 9) : p_Y6_hold S1 d v (some q) ∧ ∃ S2, f_Y6_hold S1 d v (some q) = (0, S2) ∧ Sst E x S T F col S2 (tU T1 (d + 1) (T1 (d + 1) ++ [q])) F1 c1 ∧ gX (fun z => z = d) S1 S2 ∧ giC S2 d 0 = v := by
  have k := (o.k h).1
  have w5 := h.ci.wf.w5 k
  have h2 := h.sort o v
  obtain ⟨p1, S2, f1, f2, f3, _⟩ := y_put h2 e o.o.1 o.o.2.1 hl
  have k2 := (o.k h2).1
  unfold p_Y6_hold f_Y6_hold
  simp only [q_Y6_hold_13a, b_Y6_hold_13a, gr_si, w5.2, Option.getD_some, ir_so, ik_si, f1]
  refine ⟨⟨w5.1, p1, trivial⟩, S2, rfl, f2, (gX.si S1 d 0 v).tr f3.x, ?_⟩
  rw [f3.2.1 d k2.1 (by rw [k2.2]; decide), gi_si, if_pos ⟨rfl, rfl⟩]
end
end
