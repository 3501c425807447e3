section
variable {wF : Prop × (Nat → Int32) × Int32 × (Nat → Int32)} {E E0 : Nat → Prop} {x : Nat} {S S1 S2 S3 : Cst} {T T1 T2 : Nat → List Nat} {F F1 : List Nat} {col c1 : Nat → Nat} {H H2 H3 : HS} {N : Int}
theorem fill_vv (z : Nat) (X : Cst) : ∃ Y, (lp_K7_fill_031fb_5 z 100000 X 0 0 (Int32.ofNat 200)).2 = Y ∧ (∀ s, s < 200 → giC Y z s = 0) ∧ (∀ q k, q ≠ z → giC Y q k = giC X q k) ∧ Y.1 = X.1 := by
  obtain ⟨q1, q2, q3, q4⟩ := fill_v (z := z) 100000 X 0 (by rw [i0]; omega) (by rw [i0]; omega) (by rw [i0]; omega)
  rw [zn0] at q1
  exact ⟨_, rfl, fun s hs => q1 s (Nat.zero_le _) hs, q3, q4⟩
theorem kt_v {X : Cst} {q : Nat} (v : Int32) (rX : grC X q 13 = some (q + 3)) (lX : lnC X (q + 3) = 200) (n : ¬ giC X q 14 ≤ 0) : b_Y4_keepTextAs_60a X q v = (0, siC (lp_K7_fill_031fb_5 (q + 3) 100000 X 0 0 (Int32.ofNat 200)).2 q 14 0) := by
  unfold b_Y4_keepTextAs_60a b_Y4_keepTextAs_75a b_Y4_keepTextAs_80 f_K7_fill_031fb
  rw [if_neg n, rX, Option.getD_some, lX]
theorem kt_0 {X : Cst} {q : Nat} (v : Int32) (n : giC X q 14 ≤ 0) : b_Y4_keepTextAs_60a X q v = (0, X) := by
  unfold b_Y4_keepTextAs_60a b_Y4_keepTextAs_80
  rw [if_pos n]
theorem keep_v (h : Sst E x S T F col S1 T1 F1 c1) {q : Nat} (k : iK S1 q 3) (c : c1 q = x) (v : Int32) (hv : (giC S1 q 14).toInt = vCn S1 q 200) : ∃ S2, f_Y4_keepTextAs S1 q v = (0, S2) ∧ mU E x S T F col T1 F1 c1 q S1 S2 ∧ nM S2 q v ∧ S2.1 = S1.1 ∧ ∀ j i, (j = 1 ∨ j = 2) → giC S2 (q + j) i = giC S1 (q + j) i := by
  obtain ⟨-, S0, f0, u0, -⟩ := y_keep h k c v
  have w3 := h.ci.wf.w3 k
  generalize hX : siC (siC (siC (siC (siC (siC (siC (siC (siC (siC (siC (siC S1 q 0 0) q 1 0) q 2 v) q 3 (-1)) q 4 (-1)) q 5 0) q 6 0) q 7 0) q 8 0) q 9 0) q 10 0) q 11 0 = X
  have gX' : ∀ i, giC X q i = if i = 11 then 0 else if i = 10 then 0 else if i = 9 then 0 else if i = 8 then 0 else if i = 7 then 0 else if i = 6 then 0 else if i = 5 then 0 else if i = 4 then -1 else if i = 3 then -1 else if i = 2 then v else if i = 1 then 0 else if i = 0 then 0 else giC S1 q i := fun i => by
    rw [← hX]
    simp only [gi_si, true_and]
  have oX : ∀ j i, 0 < j → giC X (q + j) i = giC S1 (q + j) i := fun j i hj => by
    rw [← hX]
    simp only [gi_si]
    rw [if_neg (fun y => by omega), if_neg (fun y => by omega), if_neg (fun y => by omega), if_neg (fun y => by omega), if_neg (fun y => by omega), if_neg (fun y => by omega), if_neg (fun y => by omega), if_neg (fun y => by omega), if_neg (fun y => by omega), if_neg (fun y => by omega), if_neg (fun y => by omega), if_neg (fun y => by omega)]
  have nX : X.1 = S1.1 := by rw [← hX]; rfl
  have rX : grC X q 13 = some (q + 3) := by
    rw [← hX]
    simp only [gr_si]
    exact w3.2.1.2
  have lX : lnC X (q + 3) = 200 := by
    rw [← hX]
    simp only [ln_si]
    exact w3.1.2.2
  have e : f_Y4_keepTextAs S1 q v = b_Y4_keepTextAs_60a X q v := by rw [← hX]; rfl
  have x0 : giC X q 0 = 0 := by rw [gX' 0]; simp
  have x1 : giC X q 1 = 0 := by rw [gX' 1]; simp
  have x2 : giC X q 2 = v := by rw [gX' 2]; simp
  have x3 : giC X q 3 = -1 := by rw [gX' 3]; simp
  have x4 : giC X q 4 = -1 := by rw [gX' 4]; simp
  have x5 : giC X q 5 = 0 := by rw [gX' 5]; simp
  have x6 : giC X q 6 = 0 := by rw [gX' 6]; simp
  have x7 : giC X q 7 = 0 := by rw [gX' 7]; simp
  have x8 : giC X q 8 = 0 := by rw [gX' 8]; simp
  have x9 : giC X q 9 = 0 := by rw [gX' 9]; simp
  have x10 : giC X q 10 = 0 := by rw [gX' 10]; simp
  have x11 : giC X q 11 = 0 := by rw [gX' 11]; simp
  have v14 : giC X q 14 = giC S1 q 14 := by rw [gX' 14]; simp
  clear gX' hX
  refine ⟨S0, f0, u0, ?_⟩
  rw [e] at f0
  by_cases z : giC X q 14 ≤ 0
  · rw [kt_0 v z] at f0
    obtain ⟨-, rfl⟩ := Prod.mk.inj f0
    have z' := iLe.mp z
    rw [v14, i0, hv] at z'
    have vz := vCn_0 (S1 := S1) (q := q) 200 (by omega)
    refine ⟨⟨⟨x0, x1, x2, x3, x4, x5, x6⟩, ⟨x7, x8, x9, x10, x11⟩, fun s hs => (oX 3 s (by omega)).trans (vz s hs), ?_⟩, nX, fun j i hj => oX j i (by omega)⟩
    rw [v14, hv]
    omega
  · rw [kt_v v rX lX z] at f0
    obtain ⟨Y, eY, q1, q3, q4⟩ := fill_vv (q + 3) X
    rw [eY] at f0
    obtain ⟨-, rfl⟩ := Prod.mk.inj f0
    have y0 : ∀ i, i ≠ 14 → giC (siC Y q 14 0) q i = giC X q i := fun i hi => by rw [gi_si, if_neg (fun y => hi y.2), q3 q i (by omega)]
    refine ⟨⟨⟨(y0 0 (by decide)).trans x0, (y0 1 (by decide)).trans x1, (y0 2 (by decide)).trans x2, (y0 3 (by decide)).trans x3, (y0 4 (by decide)).trans x4, (y0 5 (by decide)).trans x5, (y0 6 (by decide)).trans x6⟩, ⟨(y0 7 (by decide)).trans x7, (y0 8 (by decide)).trans x8, (y0 9 (by decide)).trans x9, (y0 10 (by decide)).trans x10, (y0 11 (by decide)).trans x11⟩, fun s hs => ?_, ?_⟩, q4.trans nX, fun j i hj => ?_⟩
    · rw [gi_si, if_neg (fun y => by omega)]
      exact q1 s hs
    · rw [gi_si, if_pos ⟨rfl, rfl⟩]
      exact i0
    · rw [gi_si, if_neg (fun y => by omega), q3 _ _ (by omega)]
      exact oX j i (by omega)
end
