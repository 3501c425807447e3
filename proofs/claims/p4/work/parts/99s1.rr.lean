/-! ===== both sides in one state: x the class's assembly, H the reference's Hall ===== -/
/-- the pile of a row: 0 the pending ones, 1 the drafted ones, p + 2 those at p -/
def rP (x : Nat) : Nat → Nat
  | 0 => x + 1
  | 1 => x + 4
  | p + 2 => x + 13 + 3 * p + 1
/-- a vote, a ballot -/
def vB (v b : Int32) : Prop := (b = 2 ∧ v = 0) ∨ (b = 0 ∧ v = 1) ∨ (b = 1 ∧ v = 2)
/-- how many have voted -/
def vCn (S : Cst) (q : Nat) : Nat → Nat
  | 0 => 0
  | n + 1 => vCn S q n + (if giC S (q + 3) n = 0 then 0 else 1)
/-- a motion at q, at m -/
def mR (S : Cst) (q : Nat) (H : HS) (m : Nat) : Prop :=
  (giC S q 2 = H.2 14 m ∧ giC S q 3 = H.2 15 m ∧ giC S q 4 = H.2 16 m ∧ giC S q 5 = H.2 17 m ∧ giC S q 6 = H.2 18 m) ∧
  (giC S q 7 = H.2 24 m ∧ giC S q 11 = H.2 26 m) ∧
  (H.2 26 m = 0 → giC S q 8 = H.2 20 m ∧ giC S q 9 = H.2 21 m) ∧
  (giC S (q + 1) 1 = H.2 19 m ∧ ∀ i : Nat, (i : Int) < (H.2 19 m).toInt → giC S (q + 2) i = H.2 28 (400 * m + i)) ∧
  (∀ s, s < 200 → vB (giC S (q + 3) s) (H.2 29 (200 * m + s))) ∧
  ((∀ s : Nat, s < 200 → (H.1 0).toInt ≤ (s : Int) → giC S (q + 3) s = 0) ∧ (giC S q 14).toInt = vCn S q 200) ∧
  (H.2 14 m ≠ 2 → H.2 14 m ≠ 3 → H.2 20 m = 0 ∧ H.2 21 m = 0 ∧ H.2 26 m = 0)
def hR (S : Cst) (x : Nat) (H : HS) : Prop :=
  (giC S (x + 37) 0 = H.1 0 ∧ giC S (x + 37) 2 = H.1 1 ∧ giC S (x + 37) 3 = H.1 2 ∧ giC S (x + 37) 4 = H.1 3 ∧ giC S (x + 37) 5 = H.1 4 ∧ giC S (x + 37) 6 = H.1 5) ∧
  (∀ s : Nat, s < 200 → (s : Int) < (H.1 0).toInt → giC S (x + 38) s = H.2 11 s) ∧ (∀ k, k < 9 → giC S (x + 39) k = H.2 12 k) ∧ 0 ≤ (H.1 4).toInt ∧ ∀ s : Nat, (s : Int) < (H.1 0).toInt → H.2 11 s = 0 ∨ H.2 11 s = 1
def wR (S : Cst) (T : Nat → List Nat) (x : Nat) (H : HS) : Prop := ∀ g, g < 10 → ((T (rP x g)).length : Int) = hN H g ∧ ∀ i, i < (T (rP x g)).length → mR S ((T (rP x g)).getD i 0) H (hM H g i)
/-- the sorts of the draft and of the places; whether those that are there alone are laid -/
def oR (S : Cst) (T : Nat → List Nat) (x : Nat) (H : HS) : Prop :=
  ((H.1 35 = 0 → giC S (x + 3) 0 = 0) ∧ (H.1 35 ≠ 0 → giC S (x + 3) 0 = if H.1 36 = 0 then 2 else 3)) ∧
  (∀ p, p < 8 → (H.2 34 p = 0 → giC S (x + 13 + 3 * p) 0 = 0) ∧ (H.2 34 p ≠ 0 → giC S (x + 13 + 3 * p) 0 = if H.2 37 p = 0 then (if H.2 27 (hM H (p + 2) 0) = 0 then 2 else 1) else 3)) ∧
  (∀ g, g < 10 → hL H g 0 → ¬ hT H g → giC S ((T (rP x g)).getD 0 0) 10 = H.2 25 (hM H g 0)) ∧
  (∀ g, g < 10 → hL H g 0 → ¬ hT H g → H.2 25 (hM H g 0) = 0 → H.2 26 (hM H g 0) = 0) ∧
  ∀ g, g < 10 → hL H g 0 → ¬ hT H g → H.2 27 (hM H g 0) ≠ 0 → 2 ≤ g ∧ H.2 25 (hM H g 0) = 0
/-- a ledger's cells are nobody's text -/
def oz (S : Cst) (l : Nat) : Prop := ∀ q, iK S q 6 → (grC S l 2).getD 0 ≠ q + 1
def jR (wF : Prop × (Nat → Int32) × Int32 × (Nat → Int32)) (S : Cst) (x : Nat) (H : HS) : Prop :=
  (giC S (x + 7) 3 = H.1 7 ∧ 7 * (H.1 7).toInt ≤ lcl S (x + 7) ∧ ∀ i j : Nat, (i : Int) < (H.1 7).toInt → j < 6 → giC S ((grC S (x + 7) 2).getD 0) (7 * i + j) = H.2 40 (6 * i + j)) ∧
  (giC S (x + 9) 3 = H.1 8 ∧ 5 * (H.1 8).toInt ≤ lcl S (x + 9) ∧ ∀ i j : Nat, (i : Int) < (H.1 8).toInt → j < 5 → giC S ((grC S (x + 9) 2).getD 0) (5 * i + j) = H.2 41 (5 * i + j)) ∧
  (giC S (x + 7) 0 = 7 ∧ giC S (x + 9) 0 = 5) ∧ oz S (x + 7) ∧ oz S (x + 9) ∧ (grC S (x + 7) 2).getD 0 ≠ (grC S (x + 9) 2).getD 0 ∧ (grC S (x + 7) 2).getD 0 ≠ x + 39 ∧ (grC S (x + 9) 2).getD 0 ≠ x + 39 ∧ ∀ i : Nat, (i : Int) < (H.1 7).toInt → giC S ((grC S (x + 7) 2).getD 0) (7 * i + 6) = wF.2.1 i
def aR (wF : Prop × (Nat → Int32) × Int32 × (Nat → Int32)) (S : Cst) (x : Nat) (H : HS) : Prop :=
  (giC S x 7 = H.1 9 ∧ (wF.1 → giC S x 9 = H.1 10)) ∧ (0 ≤ (H.1 9).toInt ∧ (H.1 9).toInt ≤ (H.1 8).toInt) ∧
  (H.1 9 = 0 → H.1 39 = -1 ∧ giC S (x + 11) 1 = 0) ∧ (H.1 9 ≠ 0 → giC S (x + 11) 1 = H.1 39) ∧ ∀ i : Nat, (i : Int) < (H.1 39).toInt → giC S (x + 12) i = H.2 38 i
/-- names: the moved ones (row 0, tabled rows) have one each; a laid one's subject is known again -/
def nR (N : Int) (S : Cst) (T : Nat → List Nat) (x : Nat) (H : HS) : Prop :=
  (0 ≤ (giC S x 8).toInt ∧ (giC S x 8).toInt ≤ N) ∧
  (∀ g i, hL H g i → hT H g → (H.2 14 (hM H g i) ≠ 9 → giC S ((T (rP x g)).getD i 0) 0 ≠ 0) ∧ (0 ≤ (giC S ((T (rP x g)).getD i 0) 0).toInt ∧ (giC S ((T (rP x g)).getD i 0) 0).toInt ≤ (giC S x 8).toInt) ∧ H.2 26 (hM H g i) = 0) ∧
  (∀ g i g' i', hL H g i → hT H g → hL H g' i' → hT H g' → giC S ((T (rP x g)).getD i 0) 0 ≠ 0 → giC S ((T (rP x g)).getD i 0) 0 = giC S ((T (rP x g')).getD i' 0) 0 → g = g' ∧ i = i') ∧
  ∀ j, hL H j 0 → ¬ hT H j → H.2 25 (hM H j 0) ≠ 0 → (H.2 14 (hM H j 0) = 2 ∨ H.2 14 (hM H j 0) = 3) →
    (1 ≤ (giC S ((T (rP x j)).getD 0 0) 1).toInt ∧ (giC S ((T (rP x j)).getD 0 0) 1).toInt ≤ (giC S x 8).toInt) ∧ (0 ≤ (H.1 30 - H.2 23 (hM H j 0)).toInt ∧ (H.1 30 - H.2 23 (hM H j 0)).toInt < N) ∧
    (∀ g i, hL H g i → hT H g → (giC S ((T (rP x j)).getD 0 0) 1 = giC S ((T (rP x g)).getD i 0) 0 ↔ H.2 23 (hM H j 0) = H.2 22 (hM H g i))) ∧
    ∀ g, hL H g 0 → ¬ hT H g → H.2 23 (hM H j 0) ≠ H.2 22 (hM H g 0)
/-- of all motions the voters are counted -/
def sV (S : Cst) : Prop := ∀ q, iK S q 3 → (giC S q 14).toInt = vCn S q 200
/-- the voters, and what no act moves -/
def sW (wF : Prop × (Nat → Int32) × Int32 × (Nat → Int32)) (S : Cst) (H : HS) : Prop := sV S ∧ (H.1 0 = wF.2.2.1 ∧ H.2 40 = wF.2.2.2)
def RR (wF : Prop × (Nat → Int32) × Int32 × (Nat → Int32)) (N : Int) (S : Cst) (T : Nat → List Nat) (x : Nat) (H : HS) : Prop := hR S x H ∧ wR S T x H ∧ oR S T x H ∧ jR wF S x H ∧ (aR wF S x H ∧ sW wF S H) ∧ nR N S T x H
section
variable {wF : Prop × (Nat → Int32) × Int32 × (Nat → Int32)} {x : Nat} {S S1 S2 : Cst} {T T1 : Nat → List Nat} {col c1 : Nat → Nat} {H : HS} {N : Int}
theorem rP_p (x p : Nat) : rP x (p + 2) = x + 13 + 3 * p + 1 := rfl
theorem rP_own {g : Nat} (hg : g < 10) : own x (rP x g) ∧ rP x g ≠ x := by
  match g, hg with
  | 0, _ => exact ⟨Or.inr (Or.inl rfl), by show x + 1 ≠ x; omega⟩
  | 1, _ => exact ⟨Or.inr (Or.inr (Or.inl rfl)), by show x + 4 ≠ x; omega⟩
  | p + 2, hp => exact ⟨Or.inr (Or.inr (Or.inr ⟨p, by omega, by rw [rP_p]; omega⟩)), by rw [rP_p]; omega⟩
/-! what stands where, by the class's own invariant -/
theorem AS.ci (a : AS x S T col S1 T1 c1) : CI noE S1 T1 [] c1 := a.1.ci
theorem AS.k1 (a : AS x S T col S1 T1 c1) : iK S1 x 0 := a.1.k1
theorem AS.w0 (a : AS x S T col S1 T1 c1) : W0 S1 x := a.ci.wf.w0 a.k1
theorem AS.w1 (a : AS x S T col S1 T1 c1) : W1 S1 (x + 37) := a.ci.wf.w1 a.w0.1.1
theorem AS.g0 (a : AS x S T col S1 T1 c1) : grC S1 x 0 = some (x + 37) := a.w0.2.1.1
theorem AS.g1 (a : AS x S T col S1 T1 c1) : grC S1 x 1 = some (x + 1) := a.w0.2.1.2.1
theorem AS.g2 (a : AS x S T col S1 T1 c1) : grC S1 x 2 = some (x + 3) := a.w0.2.1.2.2.1
theorem AS.g4 (a : AS x S T col S1 T1 c1) : grC S1 x 4 = some (x + 7) := a.w0.2.1.2.2.2.2.1
theorem AS.k4 (a : AS x S T col S1 T1 c1) : iK S1 (x + 1) 4 := a.w0.1.2.1
theorem AS.k5 (a : AS x S T col S1 T1 c1) : iK S1 (x + 3) 5 := a.w0.1.2.2.1
theorem AS.kd (a : AS x S T col S1 T1 c1) : iK S1 (x + 4) 4 := (a.ci.wf.w5 a.k5).1
theorem AS.m3 (a : AS x S T col S1 T1 c1) {c q : Nat} (m : q ∈ T1 c) : iK S1 q 3 := (a.ci.tk c q m).1
theorem AS.sz (a : AS x S T col S1 T1 c1) {P : Nat} (k : iK S1 P 4) : (giC S1 P 1).toInt = (T1 P).length := (a.ci.tp P (noE_n _) k).1
theorem gD_mem {l : List Nat} {i : Nat} (h : i < l.length) : l.getD i 0 ∈ l := by
  rw [List.getD_eq_getElem?_getD, List.getElem?_eq_getElem h]
  exact List.getElem_mem h
theorem l_last {l : List Nat} (h : l ≠ []) : ∃ k, l = k ++ [l.getD (l.length - 1) 0] := by
  refine ⟨l.dropLast, ?_⟩
  have e := (List.dropLast_concat_getLast h).symm
  have f : l.getD (l.length - 1) 0 = l.getLast h := by
    have hl : l.length - 1 < l.length := by
      have := List.length_pos_iff.mpr h
      omega
    rw [List.getD_eq_getElem?_getD, List.getElem?_eq_getElem hl, List.getLast_eq_getElem]
    rfl
  rw [f]
  exact e
/-! the rows -/
theorem rr_n (w : wR S1 T1 x H) : ((T1 (x + 1)).length : Int) = (H.1 6).toInt := (w 0 (by omega)).1
theorem rr_d (w : wR S1 T1 x H) : ((T1 (x + 4)).length : Int) = (H.1 35).toInt := (w 1 (by omega)).1
theorem rr_z (a : AS x S T col S1 T1 c1) (w : wR S1 T1 x H) : giC S1 (x + 1) 1 = H.1 6 := iEq.mpr ((a.sz a.k4).trans (rr_n w))
theorem rr_top (a : AS x S T col S1 T1 c1) (w : wR S1 T1 x H) (h : RA H) : (H.1 6 = 0 → f_Y5_top S1 (x + 1) = none) ∧ (H.1 6 ≠ 0 → ∃ q, f_Y5_top S1 (x + 1) = some q ∧ mR S1 q H (f_X11_top H).1.toNatClampNeg ∧ q ∈ T1 (x + 1) ∧ q = (T1 (x + 1)).getD (H.1 6 - 1).toNatClampNeg 0) := by
  have n := rr_n w
  refine ⟨fun z => ?_, fun z => ?_⟩
  · refine tp_n a.ci (noE_n _) a.k4 ?_
    rw [z, i0] at n
    exact List.length_eq_zero_iff.mp (by omega)
  · have p := pend_pos h z
    have b := h.2.1
    have e := iSub (x := H.1 6) (y := 1) (by rw [i1]; omega) (by rw [i1]; omega)
    rw [i1] at e
    have k := iNat (x := H.1 6 - 1) (by omega)
    have hl : (H.1 6 - 1).toNatClampNeg < (T1 (x + 1)).length := by omega
    have hne : T1 (x + 1) ≠ [] := fun y => by rw [y] at hl; simp at hl
    obtain ⟨l, hl2⟩ := l_last hne
    have e2 : (T1 (x + 1)).length - 1 = (H.1 6 - 1).toNatClampNeg := by omega
    rw [e2] at hl2
    exact ⟨_, tp_s a.ci (noE_n _) a.k4 hl2, (w 0 (by omega)).2 _ hl, gD_mem hl, rfl⟩
theorem rr_at (a : AS x S T col S1 T1 c1) (w : wR S1 T1 x H) (h : RA H) (i : Int32) : (¬ (0 ≤ i.toInt ∧ i.toInt < (H.1 6).toInt) → f_Y5_at S1 (x + 1) i = none) ∧ (0 ≤ i.toInt → i.toInt < (H.1 6).toInt → ∃ q, f_Y5_at S1 (x + 1) i = some q ∧ mR S1 q H (H.2 31 i.toNatClampNeg).toNatClampNeg ∧ q ∈ T1 (x + 1) ∧ q = (T1 (x + 1)).getD i.toNatClampNeg 0) := by
  have n := rr_n w
  refine ⟨fun z => at_n a.ci (noE_n _) a.k4 (by omega), fun z1 z2 => ?_⟩
  have k := iNat z1
  have hl : i.toNatClampNeg < (T1 (x + 1)).length := by omega
  exact ⟨_, at_s a.ci (noE_n _) a.k4 z1 (by omega), (w 0 (by omega)).2 _ hl, gD_mem hl, rfl⟩
theorem rr_dr (a : AS x S T col S1 T1 c1) (w : wR S1 T1 x H) (o : oR S1 T1 x H) (h : HI (H.1 7).toInt H) : (H.1 35 = 0 ∨ H.1 36 ≠ 0 → f_Y6_motion S1 (x + 3) = none) ∧ (H.1 35 ≠ 0 → H.1 36 = 0 → ∃ q, f_Y6_motion S1 (x + 3) = some q ∧ mR S1 q H (H.2 32 0).toNatClampNeg ∧ giC S1 q 10 = H.2 25 (H.2 32 0).toNatClampNeg ∧ T1 (x + 4) = [q]) := by
  have n := rr_d w
  have op : pl x (x + 3) := Or.inl rfl
  refine ⟨fun z => mot_n a.ci a.k1 op ?_, fun z1 z2 => ?_⟩
  · rcases z with z | z
    · rw [o.1.1 z]
      decide
    · by_cases y : H.1 35 = 0
      · rw [o.1.1 y]
        decide
      · rw [o.1.2 y, if_neg z]
        decide
  · have b := h.1.1 1 (by omega)
    have t : ¬ hT H 1 := fun y => y z2
    have b3 := b.2.2 t
    have e1 : hN H 1 = (H.1 35).toInt := rfl
    have hz := mt iEq.mpr z1
    rw [i0] at hz
    have hl : (T1 (x + 4)).length = 1 := by omega
    obtain ⟨q, hq⟩ := List.length_eq_one_iff.mp hl
    have L : hL H 1 0 := ⟨by omega, by omega⟩
    have m := (w 1 (by omega)).2 0 (by show 0 < (T1 (x + 4)).length; omega)
    have lq := o.2.2.1 1 (by omega) L t
    have e2 : (T1 (rP x 1)).getD 0 0 = q := by
      show (T1 (x + 4)).getD 0 0 = q
      rw [hq]
      rfl
    rw [e2] at m lq
    refine ⟨q, (mot_s a.ci a.k1 op (noE_n _) ?_).2 q [] hq, m, lq, hq⟩
    rw [o.1.2 z1, if_pos z2]
theorem dr_L (h : HA H) (z1 : ¬ H.1 35 = 0) (z2 : H.1 36 = 0) : hL H 1 0 ∧ ¬ hT H 1 := by
  have z1' := mt iEq.mpr z1
  rw [i0] at z1'
  have b := (h.1.1.1 1 (by omega)).1
  have e1 : hN H 1 = (H.1 35).toInt := rfl
  exact ⟨⟨by omega, by omega⟩, fun y => y z2⟩
theorem rr_de (o : oR S1 T1 x H) : f_Y6_isEmpty S1 (x + 3) = if H.1 35 = 0 then 1 else 0 := by
  unfold f_Y6_isEmpty b_Y6_isEmpty_12
  by_cases z : H.1 35 = 0
  · rw [if_pos z, if_pos (o.1.1 z)]
  · rw [if_neg z, if_neg]
    rw [o.1.2 z]
    split <;> decide
/-! the house -/
/-- a seat -/
abbrev sE (H : HS) (s : Int32) : Prop := 0 ≤ s.toInt ∧ s.toInt < (H.1 0).toInt
theorem sE_n {s : Int32} (h : RA H) (q : sE H s) : s.toNatClampNeg < 200 := by
  have k := iNat q.1
  have := h.1
  have := q.2
  omega
theorem sE_z {s : Int32} (q : sE H s) : (s.toNatClampNeg : Int) < (H.1 0).toInt := by
  have k := iNat q.1
  have := q.2
  omega
theorem hs_has (a : AS x S T col S1 T1 c1) (r : hR S1 x H) (h : RA H) (s : Int32) : f_Y2_has S1 (x + 37) s = if sE H s then 1 else 0 := by
  have w1 := a.w1
  unfold f_Y2_has b_Y2_has_25 b_Y2_has_26
  rw [w1.2.1.1, Option.getD_some, w1.1.2.1, r.1.1]
  have l200 : (Int32.ofNat 200).toInt = 200 := by decide
  have b := h.1
  by_cases c1 : s < 0
  · rw [if_pos c1, if_neg (fun q => by have := iLt.mp c1; rw [i0] at this; have := q.1; omega)]
  · rw [if_neg c1]
    have c1 := mt iLt.mpr c1
    rw [i0] at c1
    by_cases c2 : H.1 0 ≤ s
    · rw [if_pos c2, if_neg (fun q => by have := iLe.mp c2; have := q.2; omega)]
    · rw [if_neg c2]
      have c2 := mt iLe.mpr c2
      rw [if_neg (fun z => by have := iLe.mp z; rw [l200] at this; omega), if_pos ⟨by omega, by omega⟩]
theorem hs_there (a : AS x S T col S1 T1 c1) (r : hR S1 x H) (h : RA H) (s : Int32) : f_Y2_isThere S1 (x + 37) s = if sE H s ∧ H.2 11 s.toNatClampNeg ≠ 0 then 1 else 0 := by
  have w1 := a.w1
  unfold f_Y2_isThere b_Y2_isThere_34 b_Y2_isThere_35
  rw [w1.2.1.1, Option.getD_some, w1.1.2.1, r.1.1]
  have l200 : (Int32.ofNat 200).toInt = 200 := by decide
  have b := h.1
  by_cases c1 : s < 0
  · rw [if_pos c1, if_neg (fun q => by have := iLt.mp c1; rw [i0] at this; have := q.1.1; omega)]
  · rw [if_neg c1]
    have c1 := mt iLt.mpr c1
    rw [i0] at c1
    by_cases c2 : H.1 0 ≤ s
    · rw [if_pos c2, if_neg (fun q => by have := iLe.mp c2; have := q.1.2; omega)]
    · rw [if_neg c2]
      have c2 := mt iLe.mpr c2
      have q : sE H s := ⟨by omega, by omega⟩
      rw [if_neg (fun z => by have := iLe.mp z; rw [l200] at this; omega), r.2.1 _ (sE_n h q) (sE_z q)]
      by_cases z : H.2 11 s.toNatClampNeg = 0
      · rw [if_pos z, if_neg (fun y => y.2 z)]
      · rw [if_neg z, if_pos ⟨q, z⟩]
end
