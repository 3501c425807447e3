/-! ===== the class's store: what is read where something was written ===== -/
theorem gi_si (S : Cst) (a b q k : Nat) (v : Int32) : giC (siC S a b v) q k = if q = a ∧ k = b then v else giC S q k := by
  show ((if q = a then _ else S.2.2 q) : Cel).2.2.1 k = _
  by_cases h : q = a
  · subst h
    rw [if_pos rfl]
    show (if k = b then v else giC S q k) = _
    simp
  · rw [if_neg h, if_neg (fun z => h z.1)]
    rfl
theorem gr_si (S : Cst) (a b q k : Nat) (v : Int32) : grC (siC S a b v) q k = grC S q k := by
  show ((if q = a then _ else S.2.2 q) : Cel).2.2.2 k = _
  by_cases h : q = a
  · subst h
    rw [if_pos rfl]
  · rw [if_neg h]
    rfl
theorem kd_si (S : Cst) (a b q : Nat) (v : Int32) : kdC (siC S a b v) q = kdC S q := by
  show ((if q = a then _ else S.2.2 q) : Cel).1 = _
  by_cases h : q = a
  · subst h
    rw [if_pos rfl]
  · rw [if_neg h]
    rfl
theorem ln_si (S : Cst) (a b q : Nat) (v : Int32) : lnC (siC S a b v) q = lnC S q := by
  show ((if q = a then _ else S.2.2 q) : Cel).2.1 = _
  by_cases h : q = a
  · subst h
    rw [if_pos rfl]
  · rw [if_neg h]
    rfl
theorem n1_si (S : Cst) (a b : Nat) (v : Int32) : (siC S a b v).1 = S.1 := rfl
theorem n2_si (S : Cst) (a b : Nat) (v : Int32) : (siC S a b v).2.1 = S.2.1 := rfl
theorem gr_sr (S : Cst) (a b q k : Nat) (v : Option Nat) : grC (srC S a b v) q k = if q = a ∧ k = b then v else grC S q k := by
  show ((if q = a then _ else S.2.2 q) : Cel).2.2.2 k = _
  by_cases h : q = a
  · subst h
    rw [if_pos rfl]
    show (if k = b then v else grC S q k) = _
    simp
  · rw [if_neg h, if_neg (fun z => h z.1)]
    rfl
theorem gi_sr (S : Cst) (a b q k : Nat) (v : Option Nat) : giC (srC S a b v) q k = giC S q k := by
  show ((if q = a then _ else S.2.2 q) : Cel).2.2.1 k = _
  by_cases h : q = a
  · subst h
    rw [if_pos rfl]
  · rw [if_neg h]
    rfl
theorem kd_sr (S : Cst) (a b q : Nat) (v : Option Nat) : kdC (srC S a b v) q = kdC S q := by
  show ((if q = a then _ else S.2.2 q) : Cel).1 = _
  by_cases h : q = a
  · subst h
    rw [if_pos rfl]
  · rw [if_neg h]
    rfl
theorem ln_sr (S : Cst) (a b q : Nat) (v : Option Nat) : lnC (srC S a b v) q = lnC S q := by
  show ((if q = a then _ else S.2.2 q) : Cel).2.1 = _
  by_cases h : q = a
  · subst h
    rw [if_pos rfl]
  · rw [if_neg h]
    rfl
theorem n1_sr (S : Cst) (a b : Nat) (v : Option Nat) : (srC S a b v).1 = S.1 := rfl
theorem n2_sr (S : Cst) (a b : Nat) (v : Option Nat) : (srC S a b v).2.1 = S.2.1 := rfl
theorem gi_sf (S : Cst) (a q k : Nat) (f : Nat → Int32) : giC (sfC S a f) q k = if q = a then f k else giC S q k := by
  show ((if q = a then _ else S.2.2 q) : Cel).2.2.1 k = _
  by_cases h : q = a
  · subst h
    rw [if_pos rfl, if_pos rfl]
  · rw [if_neg h, if_neg h]
    rfl
theorem gr_sf (S : Cst) (a q k : Nat) (f : Nat → Int32) : grC (sfC S a f) q k = grC S q k := by
  show ((if q = a then _ else S.2.2 q) : Cel).2.2.2 k = _
  by_cases h : q = a
  · subst h
    rw [if_pos rfl]
  · rw [if_neg h]
    rfl
theorem kd_sf (S : Cst) (a q : Nat) (f : Nat → Int32) : kdC (sfC S a f) q = kdC S q := by
  show ((if q = a then _ else S.2.2 q) : Cel).1 = _
  by_cases h : q = a
  · subst h
    rw [if_pos rfl]
  · rw [if_neg h]
    rfl
theorem ln_sf (S : Cst) (a q : Nat) (f : Nat → Int32) : lnC (sfC S a f) q = lnC S q := by
  show ((if q = a then _ else S.2.2 q) : Cel).2.1 = _
  by_cases h : q = a
  · subst h
    rw [if_pos rfl]
  · rw [if_neg h]
    rfl
theorem n1_sf (S : Cst) (a : Nat) (f : Nat → Int32) : (sfC S a f).1 = S.1 := rfl
theorem n2_sf (S : Cst) (a : Nat) (f : Nat → Int32) : (sfC S a f).2.1 = S.2.1 := rfl
theorem ce_si {S : Cst} {a q : Nat} (b : Nat) (v : Int32) (h : q ≠ a) : (siC S a b v).2.2 q = S.2.2 q := if_neg h
theorem ce_sr {S : Cst} {a q : Nat} (b : Nat) (v : Option Nat) (h : q ≠ a) : (srC S a b v).2.2 q = S.2.2 q := if_neg h
theorem ce_sf {S : Cst} {a q : Nat} (f : Nat → Int32) (h : q ≠ a) : (sfC S a f).2.2 q = S.2.2 q := if_neg h
theorem ik_si {S : Cst} {a b q c : Nat} {v : Int32} : iK (siC S a b v) q c ↔ iK S q c := by
  unfold iK
  rw [kd_si]
  exact Iff.rfl
theorem ik_sr {S : Cst} {a b q c : Nat} {v : Option Nat} : iK (srC S a b v) q c ↔ iK S q c := by
  unfold iK
  rw [kd_sr]
  exact Iff.rfl
theorem ik_sf {S : Cst} {a q c : Nat} {f : Nat → Int32} : iK (sfC S a f) q c ↔ iK S q c := by
  unfold iK
  rw [kd_sf]
  exact Iff.rfl
theorem ir_si {S : Cst} {a b c : Nat} {r : Option Nat} {v : Int32} : iR (siC S a b v) r c ↔ iR S r c := and_congr_right (fun _ => ik_si)
theorem ir_sr {S : Cst} {a b c : Nat} {r v : Option Nat} : iR (srC S a b v) r c ↔ iR S r c := and_congr_right (fun _ => ik_sr)
theorem ir_sf {S : Cst} {a c : Nat} {r : Option Nat} {f : Nat → Int32} : iR (sfC S a f) r c ↔ iR S r c := and_congr_right (fun _ => ik_sf)
theorem ir_so {S : Cst} {c z : Nat} : iR S (some z) c ↔ iK S z c := ⟨fun h => h.2, fun h => ⟨fun e => (by cases e), h⟩⟩
/-! ===== every cell is as its kind says ===== -/
def rK (S : Cst) (r : Option Nat) (c : Nat) : Prop := r = none ∨ ∃ z, r = some z ∧ iK S z c
def bZ (v : Int32) : Prop := v = 0 ∨ v = 1
def rg (v : Int32) (lo hi : Int) : Prop := lo ≤ v.toInt ∧ v.toInt ≤ hi
def W0 (S : Cst) (q : Nat) : Prop := (iK S (q + 37) 1 ∧ iK S (q + 1) 4 ∧ iK S (q + 3) 5 ∧ iK S (q + 6) 24 ∧ iK S (q + 7) 2 ∧ iK S (q + 9) 2 ∧ iK S (q + 11) 6) ∧ (grC S q 0 = some (q + 37) ∧ grC S q 1 = some (q + 1) ∧ grC S q 2 = some (q + 3) ∧ grC S q 3 = some (q + 6) ∧ grC S q 4 = some (q + 7) ∧ grC S q 5 = some (q + 9) ∧ grC S q 6 = some (q + 11)) ∧ rK S (grC S q 10) 3
def W1 (S : Cst) (q : Nat) : Prop := (iK S (q + 1) 21 ∧ lnC S (q + 1) = 200 ∧ iK S (q + 2) 20 ∧ lnC S (q + 2) = 9) ∧ (grC S q 1 = some (q + 1) ∧ grC S q 7 = some (q + 2)) ∧ rg (giC S q 0) 0 200
def W2 (S : Cst) (q : Nat) : Prop := ((giC S q 0 = 5 ∨ giC S q 0 = 6 ∨ giC S q 0 = 7) ∧ giC S q 1 = 600 ∧ rg (giC S q 3) 0 600) ∧ iR S (grC S q 2) 20 ∧ (1 ≤ lnC S ((grC S q 2).getD 0) ∧ (lnC S ((grC S q 2).getD 0) : Int) ≤ 600 * (giC S q 0).toInt)
def W3 (S : Cst) (q : Nat) : Prop := (iK S (q + 1) 6 ∧ iK S (q + 3) 22 ∧ lnC S (q + 3) = 200) ∧ (grC S q 12 = some (q + 1) ∧ grC S q 13 = some (q + 3)) ∧ (bZ (giC S q 7) ∧ bZ (giC S q 10) ∧ bZ (giC S q 11)) ∧ rK S (grC S q 15) 3
def W4 (S : Cst) (q : Nat) : Prop := (iK S (q + 1) 23 ∧ lnC S (q + 1) = 9) ∧ grC S q 0 = some (q + 1) ∧ rg (giC S q 1) 0 9
def W5 (S : Cst) (q : Nat) : Prop := iK S (q + 1) 4 ∧ grC S q 1 = some (q + 1)
def W6 (S : Cst) (q : Nat) : Prop := (iK S (q + 1) 20 ∧ lnC S (q + 1) = 400) ∧ grC S q 0 = some (q + 1) ∧ rg (giC S q 1) 0 400
def W7 (S : Cst) (q : Nat) : Prop := iR S (grC S q 0) 0 ∧ iR S (grC S q 1) 0 ∧ rK S (grC S q 2) 0 ∧ rK S (grC S q 3) 0 ∧ iR S (grC S q 4) 2
def W22 (S : Cst) (q : Nat) : Prop := ∀ i, fits .byte (.int (giC S q i)) = true
def W23 (S : Cst) (q : Nat) : Prop := ∀ i, rK S (grC S q i) 3
def W24 (S : Cst) (q : Nat) : Prop := lnC S q = 8 ∧ ∀ i, i < 8 → grC S q i = some (q + 7 + 3 * i) ∧ iK S (q + 7 + 3 * i) 5
def wfS (S : Cst) : Prop := clS S ∧ ∀ q, (iK S q 0 → W0 S q) ∧ (iK S q 1 → W1 S q) ∧ (iK S q 2 → W2 S q) ∧ (iK S q 3 → W3 S q) ∧ (iK S q 4 → W4 S q) ∧ (iK S q 5 → W5 S q) ∧ (iK S q 6 → W6 S q) ∧ (iK S q 7 → W7 S q) ∧ (iK S q 22 → W22 S q) ∧ (iK S q 23 → W23 S q) ∧ (iK S q 24 → W24 S q)
theorem wfS.w0 {S : Cst} (h : wfS S) {q : Nat} (k : iK S q 0) : W0 S q := (h.2 q).1 k
theorem wfS.w1 {S : Cst} (h : wfS S) {q : Nat} (k : iK S q 1) : W1 S q := (h.2 q).2.1 k
theorem wfS.w2 {S : Cst} (h : wfS S) {q : Nat} (k : iK S q 2) : W2 S q := (h.2 q).2.2.1 k
theorem wfS.w3 {S : Cst} (h : wfS S) {q : Nat} (k : iK S q 3) : W3 S q := (h.2 q).2.2.2.1 k
theorem wfS.w4 {S : Cst} (h : wfS S) {q : Nat} (k : iK S q 4) : W4 S q := (h.2 q).2.2.2.2.1 k
theorem wfS.w5 {S : Cst} (h : wfS S) {q : Nat} (k : iK S q 5) : W5 S q := (h.2 q).2.2.2.2.2.1 k
theorem wfS.w6 {S : Cst} (h : wfS S) {q : Nat} (k : iK S q 6) : W6 S q := (h.2 q).2.2.2.2.2.2.1 k
theorem wfS.w7 {S : Cst} (h : wfS S) {q : Nat} (k : iK S q 7) : W7 S q := (h.2 q).2.2.2.2.2.2.2.1 k
theorem wfS.w22 {S : Cst} (h : wfS S) {q : Nat} (k : iK S q 22) : W22 S q := (h.2 q).2.2.2.2.2.2.2.2.1 k
theorem wfS.w23 {S : Cst} (h : wfS S) {q : Nat} (k : iK S q 23) : W23 S q := (h.2 q).2.2.2.2.2.2.2.2.2.1 k
theorem wfS.w24 {S : Cst} (h : wfS S) {q : Nat} (k : iK S q 24) : W24 S q := (h.2 q).2.2.2.2.2.2.2.2.2.2 k
/-- which number may stand at field k of a cell of a kind; which reference -/
def okI (c k : Nat) (v : Int32) : Prop := (c = 1 → k = 0 → rg v 0 200) ∧ (c = 2 → k = 3 ∧ rg v 0 600) ∧ (c = 3 → k = 7 ∨ k = 10 ∨ k = 11 → bZ v) ∧ (c = 4 → k = 1 → rg v 0 9) ∧ (c = 6 → k = 1 → rg v 0 400) ∧ (c = 22 → fits .byte (.int v) = true)
theorem wf_si {S : Cst} {a b : Nat} {v : Int32} (h : wfS S) (ok : okI (kdC S a) b v) : wfS (siC S a b v) := by
  obtain ⟨o1, o2, o3, o4, o6, o22⟩ := ok
  refine ⟨fun q hq k z e => ?_, fun q => ⟨fun k => ?_, fun k => ?_, fun k => ?_, fun k => ?_, fun k => ?_, fun k => ?_, fun k => ?_, fun k => ?_, fun k => ?_, fun k => ?_, fun k => ?_⟩⟩
  · rw [gr_si] at e
    exact h.1 q hq k z e
  · have w := h.w0 (ik_si.mp k)
    unfold W0 rK at w ⊢
    simp only [gi_si, gr_si, ik_si]
    exact w
  · have k := ik_si.mp k
    have w := h.w1 k
    unfold W1 at w ⊢
    simp only [gi_si, gr_si, ik_si, ln_si]
    refine ⟨w.1, w.2.1, ?_⟩
    split
    · next e => exact o1 (by rw [← e.1]; exact k.2) e.2.symm
    · exact w.2.2
  · have k := ik_si.mp k
    have w := h.w2 k
    unfold W2 at w ⊢
    simp only [gi_si, gr_si, ln_si, ir_si]
    by_cases z : q = a
    · have o2 := o2 (by rw [← z]; exact k.2)
      rw [if_neg (fun e => by have := e.2; omega), if_neg (fun e => by have := e.2; omega), if_pos ⟨z, o2.1.symm⟩]
      exact ⟨⟨w.1.1, w.1.2.1, o2.2⟩, w.2⟩
    · rw [if_neg (fun e => z e.1), if_neg (fun e => z e.1), if_neg (fun e => z e.1)]
      exact w
  · have k := ik_si.mp k
    have w := h.w3 k
    unfold W3 rK at w ⊢
    simp only [gi_si, gr_si, ik_si, ln_si]
    refine ⟨w.1, w.2.1, ⟨?_, ?_, ?_⟩, w.2.2.2⟩
    · split
      · next e => exact o3 (by rw [← e.1]; exact k.2) (by have := e.2; omega)
      · exact w.2.2.1.1
    · split
      · next e => exact o3 (by rw [← e.1]; exact k.2) (by have := e.2; omega)
      · exact w.2.2.1.2.1
    · split
      · next e => exact o3 (by rw [← e.1]; exact k.2) (by have := e.2; omega)
      · exact w.2.2.1.2.2
  · have k := ik_si.mp k
    have w := h.w4 k
    unfold W4 at w ⊢
    simp only [gi_si, gr_si, ik_si, ln_si]
    refine ⟨w.1, w.2.1, ?_⟩
    split
    · next e => exact o4 (by rw [← e.1]; exact k.2) e.2.symm
    · exact w.2.2
  · have w := h.w5 (ik_si.mp k)
    unfold W5 at w ⊢
    simp only [gr_si, ik_si]
    exact w
  · have k := ik_si.mp k
    have w := h.w6 k
    unfold W6 at w ⊢
    simp only [gi_si, gr_si, ik_si, ln_si]
    refine ⟨w.1, w.2.1, ?_⟩
    split
    · next e => exact o6 (by rw [← e.1]; exact k.2) e.2.symm
    · exact w.2.2
  · have w := h.w7 (ik_si.mp k)
    unfold W7 rK at w ⊢
    simp only [gr_si, ik_si, ir_si]
    exact w
  · have k := ik_si.mp k
    have w := h.w22 k
    intro i
    rw [gi_si]
    split
    · next e => exact o22 (by rw [← e.1]; exact k.2)
    · exact w i
  · have w := h.w23 (ik_si.mp k)
    intro i
    have w := w i
    unfold rK at w ⊢
    simp only [gr_si, ik_si]
    exact w
  · have w := h.w24 (ik_si.mp k)
    unfold W24 at w ⊢
    simp only [gr_si, ik_si, ln_si]
    exact w
def okR (S : Cst) (a b : Nat) (v : Option Nat) : Prop := (∀ z, v = some z → z < S.1) ∧ (kdC S a = 0 → b = 10 ∧ rK S v 3) ∧ (kdC S a = 1 → False) ∧ (kdC S a = 2 → b = 2 ∧ iR S v 20 ∧ 1 ≤ lnC S (v.getD 0) ∧ (lnC S (v.getD 0) : Int) ≤ 600 * (giC S a 0).toInt) ∧ (kdC S a = 3 → b = 15 ∧ rK S v 3) ∧ (kdC S a = 4 → False) ∧ (kdC S a = 5 → False) ∧ (kdC S a = 6 → False) ∧ (kdC S a = 7 → (b = 2 ∨ b = 3) ∧ rK S v 0) ∧ (kdC S a = 23 → rK S v 3) ∧ (kdC S a = 24 → False)
theorem wf_sr {S : Cst} {a b : Nat} {v : Option Nat} (h : wfS S) (ok : okR S a b v) : wfS (srC S a b v) := by
  obtain ⟨o, o0, o1, o2, o3, o4, o5, o6, o7, o23, o24⟩ := ok
  refine ⟨fun q hq k z e => ?_, fun q => ⟨fun k => ?_, fun k => ?_, fun k => ?_, fun k => ?_, fun k => ?_, fun k => ?_, fun k => ?_, fun k => ?_, fun k => ?_, fun k => ?_, fun k => ?_⟩⟩
  · rw [gr_sr] at e
    split at e
    · exact o z e
    · exact h.1 q hq k z e
  · have k := ik_sr.mp k
    have w := h.w0 k
    unfold W0 rK at w ⊢
    simp only [gr_sr, ik_sr]
    by_cases e : q = a
    · have o0 := o0 (by rw [← e]; exact k.2)
      rw [if_neg (fun e => by have := e.2; omega), if_neg (fun e => by have := e.2; omega), if_neg (fun e => by have := e.2; omega), if_neg (fun e => by have := e.2; omega), if_neg (fun e => by have := e.2; omega), if_neg (fun e => by have := e.2; omega), if_neg (fun e => by have := e.2; omega), if_pos ⟨e, o0.1.symm⟩]
      exact ⟨w.1, w.2.1, o0.2⟩
    · simp only [e, false_and, if_false]
      exact w
  · have k := ik_sr.mp k
    have w := h.w1 k
    have e : q ≠ a := fun e => o1 (by rw [← e]; exact k.2)
    unfold W1 at w ⊢
    simp only [gi_sr, gr_sr, ik_sr, ln_sr, e, false_and, if_false]
    exact w
  · have k := ik_sr.mp k
    have w := h.w2 k
    unfold W2 at w ⊢
    simp only [gi_sr, gr_sr, ln_sr, ir_sr]
    by_cases e : q = a
    · have o2 := o2 (by rw [← e]; exact k.2)
      rw [if_pos ⟨e, o2.1.symm⟩]
      rw [e] at w ⊢
      exact ⟨w.1, o2.2.1, o2.2.2⟩
    · simp only [e, false_and, if_false]
      exact w
  · have k := ik_sr.mp k
    have w := h.w3 k
    unfold W3 rK at w ⊢
    simp only [gi_sr, gr_sr, ik_sr, ln_sr]
    by_cases e : q = a
    · have o3 := o3 (by rw [← e]; exact k.2)
      rw [if_neg (fun e => by have := e.2; omega), if_neg (fun e => by have := e.2; omega), if_pos ⟨e, o3.1.symm⟩]
      exact ⟨w.1, w.2.1, w.2.2.1, o3.2⟩
    · simp only [e, false_and, if_false]
      exact w
  · have k := ik_sr.mp k
    have w := h.w4 k
    have e : q ≠ a := fun e => o4 (by rw [← e]; exact k.2)
    unfold W4 at w ⊢
    simp only [gi_sr, gr_sr, ik_sr, ln_sr, e, false_and, if_false]
    exact w
  · have k := ik_sr.mp k
    have w := h.w5 k
    have e : q ≠ a := fun e => o5 (by rw [← e]; exact k.2)
    unfold W5 at w ⊢
    simp only [gr_sr, ik_sr, e, false_and, if_false]
    exact w
  · have k := ik_sr.mp k
    have w := h.w6 k
    have e : q ≠ a := fun e => o6 (by rw [← e]; exact k.2)
    unfold W6 at w ⊢
    simp only [gi_sr, gr_sr, ik_sr, ln_sr, e, false_and, if_false]
    exact w
  · have k := ik_sr.mp k
    have w := h.w7 k
    unfold W7 rK at w ⊢
    simp only [gr_sr, ik_sr, ir_sr]
    by_cases e : q = a
    · obtain ⟨o7, o8⟩ := o7 (by rw [← e]; exact k.2)
      rw [if_neg (show ¬ (q = a ∧ 0 = b) from fun e => by have := e.2; omega), if_neg (show ¬ (q = a ∧ 1 = b) from fun e => by have := e.2; omega), if_neg (show ¬ (q = a ∧ 4 = b) from fun e => by have := e.2; omega)]
      refine ⟨w.1, w.2.1, ?_, ?_, w.2.2.2.2⟩
      · split
        · exact o8
        · exact w.2.2.1
      · split
        · exact o8
        · exact w.2.2.2.1
    · simp only [e, false_and, if_false]
      exact w
  · have w := h.w22 (ik_sr.mp k)
    intro i
    rw [gi_sr]
    exact w i
  · have k := ik_sr.mp k
    have w := h.w23 k
    intro i
    have w := w i
    unfold rK at w ⊢
    simp only [gr_sr, ik_sr]
    split
    · next e => exact o23 (by rw [← e.1]; exact k.2)
    · exact w
  · have k := ik_sr.mp k
    have w := h.w24 k
    have e : q ≠ a := fun e => o24 (by rw [← e]; exact k.2)
    unfold W24 at w ⊢
    simp only [gr_sr, ik_sr, ln_sr, e, false_and, if_false]
    exact w
theorem wf_sf {S : Cst} {a : Nat} {f : Nat → Int32} (h : wfS S) (ok : kdC S a = 20 ∨ kdC S a = 21 ∨ (kdC S a = 22 ∧ ∀ i, fits .byte (.int (f i)) = true)) : wfS (sfC S a f) := by
  have ne : ∀ q c, c < 20 → iK S q c → q ≠ a := fun q c hc k e => by
    have := k.2
    rw [e] at this
    omega
  refine ⟨fun q hq k z e => ?_, fun q => ⟨fun k => ?_, fun k => ?_, fun k => ?_, fun k => ?_, fun k => ?_, fun k => ?_, fun k => ?_, fun k => ?_, fun k => ?_, fun k => ?_, fun k => ?_⟩⟩
  · rw [gr_sf] at e
    exact h.1 q hq k z e
  · have w := h.w0 (ik_sf.mp k)
    unfold W0 rK at w ⊢
    simp only [gr_sf, ik_sf]
    exact w
  · have k := ik_sf.mp k
    have w := h.w1 k
    unfold W1 at w ⊢
    simp only [gi_sf, gr_sf, ik_sf, ln_sf, ne q 1 (by omega) k, if_false]
    exact w
  · have k := ik_sf.mp k
    have w := h.w2 k
    unfold W2 at w ⊢
    simp only [gi_sf, gr_sf, ln_sf, ir_sf, ne q 2 (by omega) k, if_false]
    exact w
  · have k := ik_sf.mp k
    have w := h.w3 k
    unfold W3 rK at w ⊢
    simp only [gi_sf, gr_sf, ik_sf, ln_sf, ne q 3 (by omega) k, if_false]
    exact w
  · have k := ik_sf.mp k
    have w := h.w4 k
    unfold W4 at w ⊢
    simp only [gi_sf, gr_sf, ik_sf, ln_sf, ne q 4 (by omega) k, if_false]
    exact w
  · have w := h.w5 (ik_sf.mp k)
    unfold W5 at w ⊢
    simp only [gr_sf, ik_sf]
    exact w
  · have k := ik_sf.mp k
    have w := h.w6 k
    unfold W6 at w ⊢
    simp only [gi_sf, gr_sf, ik_sf, ln_sf, ne q 6 (by omega) k, if_false]
    exact w
  · have w := h.w7 (ik_sf.mp k)
    unfold W7 rK at w ⊢
    simp only [gr_sf, ik_sf, ir_sf]
    exact w
  · have k := ik_sf.mp k
    have w := h.w22 k
    intro i
    rw [gi_sf]
    split
    · next e =>
      rcases ok with o | o | o
      · rw [← e, k.2] at o; cases o
      · rw [← e, k.2] at o; cases o
      · exact o.2 i
    · exact w i
  · have w := h.w23 (ik_sf.mp k)
    intro i
    have w := w i
    unfold rK at w ⊢
    simp only [gr_sf, ik_sf]
    exact w
  · have w := h.w24 (ik_sf.mp k)
    unfold W24 at w ⊢
    simp only [gr_sf, ik_sf, ln_sf]
    exact w
