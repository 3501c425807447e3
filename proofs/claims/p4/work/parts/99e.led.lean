/-! ===== ledgers: write, open, become ===== -/
theorem y_write {S : Cst} {l : Nat} (h : wfS S) (k : iK S l 2) (c v : Int32) : p_Y3_write S l c v ∧ ∃ S2, f_Y3_write S l c v = (0, S2) ∧ (S2 = S ∨ ∃ i, S2 = siC S ((grC S l 2).getD 0) i v) := by
  have w := h.w2 k
  unfold p_Y3_write f_Y3_write q_Y3_write_46 b_Y3_write_46
  refine ⟨iteI (fun _ => trivial) (fun _ => iteI (fun _ => trivial) (fun _ => iteI (fun _ => trivial) (fun a => ⟨w.2.1, iteI (fun _ => trivial) (fun b => ⟨w.2.1, ix_ge a b, trivial⟩)⟩))), ?_⟩
  repeat' split
  · exact ⟨S, rfl, Or.inl rfl⟩
  · exact ⟨S, rfl, Or.inl rfl⟩
  · exact ⟨S, rfl, Or.inl rfl⟩
  · exact ⟨S, rfl, Or.inl rfl⟩
  · exact ⟨_, rfl, Or.inr ⟨_, rfl⟩⟩
section
variable {E E0 : Nat → Prop} {x : Nat} {S S1 S2 : Cst} {T T1 : Nat → List Nat} {F F1 : List Nat} {col c1 c2 : Nat → Nat}
/-- what a ledger's steps leave -/
def LSt (E : Nat → Prop) (T : Nat → List Nat) (F : List Nat) (l : Nat) (S : Cst) (col : Nat → Nat) (S2 : Cst) (c2 : Nat → Nat) : Prop := CI E S2 T F c2 ∧ eN S S2 ∧ (∀ q, q < S.1 → c2 q = col q) ∧ (∀ q, q < S.1 → q ≠ l → q ≠ (grC S l 2).getD 0 → S2.2.2 q = S.2.2 q) ∧ ((grC S2 l 2).getD 0 = (grC S l 2).getD 0 ∨ S.1 ≤ (grC S2 l 2).getD 0) ∧ (giC S2 l 0 = giC S l 0 ∧ giC S2 l 1 = giC S l 1) ∧ (S2.1 + lcl S l ≤ S.1 + lcl S2 l ∧ S2.2.1 + psL S l ≤ S.2.1 + psL S2 l)
theorem LSt.rf (h : CI E S T F col) (l : Nat) : LSt E T F l S col S col := ⟨h, eN.rf S, fun _ _ => rfl, fun _ _ _ _ => rfl, Or.inl rfl, ⟨rfl, rfl⟩, Nat.le_refl _, Nat.le_refl _⟩
theorem LSt.tr {l : Nat} (h : LSt E T F l S col S1 c1) (g : LSt E T F l S1 c1 S2 c2) : LSt E T F l S col S2 c2 := by
  obtain ⟨_, h2, h3, h4, h5, h6, h7, h8⟩ := h
  obtain ⟨g1, g2, g3, g4, g5, g6, g7, g8⟩ := g
  refine ⟨g1, h2.tr g2, fun q a => (g3 q (Nat.lt_of_lt_of_le a h2.1.1)).trans (h3 q a), fun q a n m => (g4 q (Nat.lt_of_lt_of_le a h2.1.1) n (fun z => ?_)).trans (h4 q a n m), ?_, ⟨g6.1.trans h6.1, g6.2.trans h6.2⟩, by omega, by omega⟩
  · rcases h5 with y | y
    · exact m (z.trans y)
    · omega
  · have := h2.1.1
    rcases g5 with y | y
    · rw [y]
      exact h5
    · exact Or.inr (by omega)
theorem LSt.of {l : Nat} (k : iK S l 2) (h : LG E T F l S col S2 c2) (e : (grC S2 l 2).getD 0 = (grC S l 2).getD 0 ∨ S.1 ≤ (grC S2 l 2).getD 0) : LSt E T F l S col S2 c2 := ⟨h.1, h.2.1, h.2.2.1, fun q a n _ => h.2.2.2.1 q a n, e, ⟨h.2.2.2.2.1 0, h.2.2.2.2.1 1⟩, h.2.2.2.2.2.1⟩
theorem LSt.k {l : Nat} (h : LSt E T F l S col S2 c2) (k : iK S l 2) : iK S2 l 2 := k.n h.2.1
theorem LSt.z {l : Nat} (h : CI E S T F col) (k : iK S l 2) (i : Nat) (v : Int32) : LSt E T F l S col (siC S ((grC S l 2).getD 0) i v) col := by
  have w := (h.wf.w2 k).2.1.2
  have nl : l ≠ (grC S l 2).getD 0 := fun z => by have := w.2; rw [← z, k.2] at this; omega
  refine ⟨h.si ⟨fun z => by rw [w.2] at z; omega, fun z => by rw [w.2] at z; omega, fun z => by rw [w.2] at z; omega, fun z => by rw [w.2] at z; omega, fun z => by rw [w.2] at z; omega, fun z => by rw [w.2] at z; omega⟩ (by rw [w.2]; decide), (eK.si ..).n, fun _ _ => rfl, fun q _ _ n => ce_si _ _ n, Or.inl (by rw [gr_si]), ⟨by rw [gi_si, if_neg (fun z => nl z.1)], by rw [gi_si, if_neg (fun z => nl z.1)]⟩, ?_, ?_⟩
  · unfold lcl
    rw [gr_si, ln_si, n1_si]
    exact Nat.le_refl _
  · unfold psL lcl
    have e0 : giC (siC S ((grC S l 2).getD 0) i v) l 0 = giC S l 0 := by rw [gi_si, if_neg (fun z => nl z.1)]
    rw [gr_si, ln_si, e0, n2_si]
    exact Nat.le_refl _
theorem LSt.zf {l : Nat} (h : CI E S T F col) (k : iK S l 2) (f : Nat → Int32) : LSt E T F l S col (sfC S ((grC S l 2).getD 0) f) col := by
  have w := (h.wf.w2 k).2.1.2
  have nl : l ≠ (grC S l 2).getD 0 := fun z => by have := w.2; rw [← z, k.2] at this; omega
  refine ⟨h.sf (Or.inl w.2), (eK.sf ..).n, fun _ _ => rfl, fun q _ _ n => ce_sf _ n, Or.inl (by rw [gr_sf]), ⟨by rw [gi_sf, if_neg nl], by rw [gi_sf, if_neg nl]⟩, ?_, ?_⟩
  · unfold lcl
    rw [gr_sf, ln_sf, n1_sf]
    exact Nat.le_refl _
  · unfold psL lcl
    have e0 : giC (sfC S ((grC S l 2).getD 0) f) l 0 = giC S l 0 := by rw [gi_sf, if_neg nl]
    rw [gr_sf, ln_sf, e0, n2_sf]
    exact Nat.le_refl _
theorem LSt.n {l : Nat} (h : CI E S T F col) (k : iK S l 2) {v : Int32} (hv : rg v 0 600) : LSt E T F l S col (siC S l 3 v) col := by
  refine ⟨h.si ⟨fun z => by rw [k.2] at z; omega, fun _ => ⟨rfl, hv⟩, fun z => by rw [k.2] at z; omega, fun z => by rw [k.2] at z; omega, fun z => by rw [k.2] at z; omega, fun z => by rw [k.2] at z; omega⟩ (by rw [k.2]; decide), (eK.si ..).n, fun _ _ => rfl, fun q _ n _ => ce_si _ _ n, Or.inl (by rw [gr_si]), ⟨by rw [gi_si, if_neg (by omega)], by rw [gi_si, if_neg (by omega)]⟩, ?_, ?_⟩
  · unfold lcl
    rw [gr_si, ln_si, n1_si]
    exact Nat.le_refl _
  · unfold psL lcl
    have e0 : giC (siC S l 3 v) l 0 = giC S l 0 := by rw [gi_si, if_neg (by omega)]
    rw [gr_si, ln_si, e0, n2_si]
    exact Nat.le_refl _
theorem w_write (h : CI E S T F col) {l : Nat} (k : iK S l 2) (c v : Int32) : p_Y3_write S l c v ∧ ∃ S2, f_Y3_write S l c v = (0, S2) ∧ LSt E T F l S col S2 col ∧ giC S2 l 3 = giC S l 3 := by
  obtain ⟨p, S2, f, e⟩ := y_write h.wf k c v
  refine ⟨p, S2, f, ?_⟩
  rcases e with rfl | ⟨i, rfl⟩
  · exact ⟨LSt.rf h l, rfl⟩
  · have w := (h.wf.w2 k).2.1.2
    exact ⟨LSt.z h k i v, by rw [gi_si, if_neg (fun z => by have := w.2; rw [← z.1, k.2] at this; omega)]⟩
theorem isF (S : Cst) (l : Nat) : f_Y3_isFull S l = if giC S l 3 < giC S l 1 then 0 else 1 := rfl
theorem w_open (h : CI E S T F col) {l : Nat} (k : iK S l 2) : ∃ S2 c2, f_Y3_open S l = (0, S2) ∧ (∀ lc ls, S2.1 ≤ lc → S2.2.1 ≤ ls → p_Y3_open S l lc ls) ∧ LSt E T F l S col S2 c2 ∧ giC S2 l 3 = if giC S l 3 < 600 then giC S l 3 + 1 else giC S l 3 := by
  have w := h.wf.w2 k
  have e6 : (600 : Int32).toInt = 600 := by decide
  have hr := w.1.2.2
  unfold rg at hr
  unfold f_Y3_open p_Y3_open
  rw [isF, w.1.2.1]
  by_cases c : giC S l 3 < 600
  · rw [if_pos c, if_pos c, if_pos rfl]
    have c := iLt.mp c
    rw [e6] at c
    have e1 := iAdd (x := giC S l 3) (y := 1) (by rw [i1]; omega) (by rw [i1]; omega)
    rw [i1] at e1
    have g := LSt.n h k (v := giC S l 3 + 1) ⟨by omega, by omega⟩
    have k2 := g.k k
    obtain ⟨S2, c2, f1, f2, f3, f4, f5⟩ := y_room g.1 k2 (r := giC S l 3 + 1) ⟨by omega, by omega⟩
    unfold b_Y3_open_22a q_Y3_open_22a b_Y3_open_25 q_Y3_open_25
    rw [show giC (siC S l 3 (giC S l 3 + 1)) l 3 = giC S l 3 + 1 by rw [gi_si, if_pos ⟨rfl, rfl⟩], f1]
    refine ⟨S2, c2, rfl, fun lc ls a b => ⟨y_isFull S l, ?_⟩, g.tr (LSt.of k2 f3 f5), ?_⟩
    · rw [if_pos rfl]
      exact ⟨⟨⟨f3.2.1.1.1, a⟩, f3.2.1.1.2, b⟩, f2 _ _ (Nat.le_refl _) (Nat.le_refl _), trivial⟩
    · rw [f3.2.2.2.2.1 3, gi_si, if_pos ⟨rfl, rfl⟩]
  · rw [if_neg c, if_neg c, if_neg (by decide)]
    unfold b_Y3_open_25 q_Y3_open_25
    exact ⟨S, col, rfl, fun _ _ _ _ => ⟨y_isFull S l, by rw [if_neg (by decide)]; trivial⟩, LSt.rf h l, rfl⟩
theorem w_ledBecome (h : CI E S T F col) {l m : Nat} (k : iK S l 2) (km : iK S m 2) : ∃ S2 c2, f_Y3_become S l m = (0, S2) ∧ (∀ lc ls, S2.1 ≤ lc → S2.2.1 ≤ ls → p_Y3_become S l m lc ls) ∧ LSt E T F l S col S2 c2 ∧ giC S2 l 3 = giC S m 3 := by
  have w := h.wf.w2 k
  have wm := h.wf.w2 km
  have e6 : (600 : Int32).toInt = 600 := by decide
  have hr := wm.1.2.2
  unfold rg at hr
  have e1 : (if giC S l 1 < giC S m 3 then giC S l 1 else giC S m 3) = giC S m 3 := by
    rw [if_neg (fun z => by have := iLt.mp z; rw [w.1.2.1, e6] at this; omega)]
  unfold f_Y3_become p_Y3_become
  rw [e1]
  obtain ⟨S1, c1, f1, f2, f3, f4, f5⟩ := y_room h k wm.1.2.2
  rw [f1]
  have g := LSt.of k f3 f5
  have k1 := g.k k
  have w1 := g.1.wf.w2 k1
  have km1 := km.n g.2.1
  have wm1 := g.1.wf.w2 km1
  have hv : rg (giC S m 3) 0 600 := wm.1.2.2
  have key : ∃ S2, b_Y3_become_17a S1 l m (giC S m 3) = (0, S2) ∧ (∀ lc ls, q_Y3_become_17a S1 l m lc ls (giC S m 3)) ∧ LSt E T F l S1 c1 S2 c1 ∧ giC S2 l 3 = giC S m 3 := by
    obtain ⟨d1, d2, d3, d4, hg⟩ := led_e (L := lnC S1 ((grC S1 l 2).getD 0)) w1.1.1 w1.1.2.1 hv w1.2.2.2
    have hL2 := wm1.2.2.2
    have d5 : (Int32.ofNat (lnC S1 ((grC S1 m 2).getD 0))).toInt = lnC S1 ((grC S1 m 2).getD 0) := (led_e (L := lnC S1 ((grC S1 m 2).getD 0)) wm1.1.1 wm1.1.2.1 hv wm1.2.2.2).2.2.1
    unfold b_Y3_become_17a q_Y3_become_17a b_Y3_become_64 q_Y3_become_64
    by_cases c1' : Int32.ofNat (lnC S1 ((grC S1 l 2).getD 0)) < giC S m 3 * giC S1 l 0
    · simp only [if_pos c1']
      exact ⟨_, rfl, fun _ _ => ⟨w1.2.1, trivial⟩, LSt.n g.1 k1 hv, by rw [gi_si, if_pos ⟨rfl, rfl⟩]⟩
    · simp only [if_neg c1']
      by_cases c2' : Int32.ofNat (lnC S1 ((grC S1 m 2).getD 0)) < giC S m 3 * giC S1 l 0
      · simp only [if_pos c2']
        exact ⟨_, rfl, fun _ _ => ⟨w1.2.1, wm1.2.1, trivial⟩, LSt.n g.1 k1 hv, by rw [gi_si, if_pos ⟨rfl, rfl⟩]⟩
      · simp only [if_neg c2']
        have c1' := mt iLt.mpr c1'
        have c2' := mt iLt.mpr c2'
        rw [d1, d3] at c1'
        rw [d1, d5] at c2'
        have hn : 0 ≤ (giC S m 3).toInt * (giC S1 l 0).toInt := by
          rcases hg with y | y | y <;> rw [y] <;> omega
        have en := iNat (x := giC S m 3 * giC S1 l 0) (by rw [d1]; exact hn)
        rw [d1] at en
        have z0 : (0 : Int32).toNatClampNeg = 0 := rfl
        have g2 := LSt.zf (l := l) g.1 k1 (va_cpy (giC S1 ((grC S1 m 2).getD 0)) (giC S1 ((grC S1 l 2).getD 0)) (0 : Int32).toNatClampNeg (0 : Int32).toNatClampNeg (giC S m 3 * giC S1 l 0).toNatClampNeg)
        refine ⟨_, rfl, fun _ _ => ⟨w1.2.1, wm1.2.1, wm1.2.1, w1.2.1, ⟨⟨by decide, by decide, fun y => ?_⟩, by omega, by omega⟩, trivial⟩, g2.tr (LSt.n g2.1 (g2.k k1) hv), by rw [gi_si, if_pos ⟨rfl, rfl⟩]⟩
        have y := iLt.mp y
        rw [i0, d1] at y
        omega
  obtain ⟨S2, r1, r2, r3, r4⟩ := key
  refine ⟨S2, c1, r1, fun lc ls a b => ⟨⟨⟨f3.2.1.1.1, ?_⟩, f3.2.1.1.2, ?_⟩, f2 _ _ (Nat.le_refl _) (Nat.le_refl _), r2 _ _⟩, g.tr r3, r4⟩
  · exact Nat.le_trans r3.2.1.1.1 a
  · exact Nat.le_trans r3.2.1.1.2 b
/-- a ledger's step is one of its assembly -/
theorem Sst.led (h : Sst E x S T F col S1 T1 F1 c1) {l : Nat} (hl : l = x + 7 ∨ l = x + 9) (g : LSt E T1 F1 l S1 c1 S2 c2) : Sst E x S T F col S2 T1 F1 c2 := by
  have w := h.ci.wf.w0 h.k1
  have k : iK S1 l 2 := by
    rcases hl with e | e <;> rw [e]
    · exact w.1.2.2.2.2.1
    · exact w.1.2.2.2.2.2.1
  have cl : c1 l = x := by
    rcases hl with e | e <;> rw [e]
    · exact h.cx 7 (by omega)
    · exact h.cx 9 (by omega)
  have cz : c1 ((grC S1 l 2).getD 0) = x := by rw [h.ci.c2 l k, cl]
  have oth : ∀ m, iK S1 m 2 → m ≠ l → lcl S2 m = lcl S1 m ∧ psL S2 m = psL S1 m := fun m km n => by
    have wz := (h.ci.wf.w2 k).2.1.2
    have e : S2.2.2 m = S1.2.2 m := g.2.2.2.1 m km.1 n (fun z => by have := wz.2; rw [← z, km.2] at this; omega)
    have e2 : grC S2 m 2 = grC S1 m 2 := by unfold grC; rw [e]
    have e0 : giC S2 m 0 = giC S1 m 0 := by unfold giC; rw [e]
    have a : lcl S2 m = lcl S1 m := by
      unfold lcl
      rw [e2]
      exact (g.2.1.2 _ (h.ci.wf.w2 km).2.1.2.1).2
    refine ⟨a, ?_⟩
    unfold psL
    rw [a, e0]
  refine h.tr ⟨g.1, g.2.1, g.2.2.1, fun q a n => g.2.2.2.1 q a (fun z => n (by rw [z]; exact cl)) (fun z => n (by rw [z]; exact cz)), fun _ _ _ => rfl, ?_, ?_, h.k1, fun q m => ?_, id⟩
  · have g7 := g.2.2.2.2.2.2.1
    unfold pcL
    rcases hl with e | e <;> rw [e] at g7 oth
    · have := (oth (x + 9) w.1.2.2.2.2.2.1 (by omega)).1
      omega
    · have := (oth (x + 7) w.1.2.2.2.2.1 (by omega)).1
      omega
  · have g8 := g.2.2.2.2.2.2.2
    unfold plL
    rcases hl with e | e <;> rw [e] at g8 oth
    · have := (oth (x + 9) w.1.2.2.2.2.2.1 (by omega)).2
      omega
    · have := (oth (x + 7) w.1.2.2.2.2.1 (by omega)).2
      omega
  · rw [g.2.2.1 q (h.ci.tf.2 q m).1.1]
    exact h.fc q m
end
