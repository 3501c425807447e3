/-! ===== a result kept, an entry written: both sides ===== -/
section
variable {wF : Prop × (Nat → Int32) × Int32 × (Nat → Int32)} {E : Nat → Prop} {x : Nat} {S S1 S2 S3 : Cst} {T T1 T2 T3 : Nat → List Nat} {F F1 : List Nat} {col c1 c2 c3 : Nat → Nat} {H H2 H3 : HS} {N N2 M M2 : Int} {D : Nat → Prop}
def wI (S : Cst) (l n : Nat) (C : Int32) : Prop := (giC S l 3).toInt = n + 1 ∧ giC S l 0 = C ∧ ((n : Int) + 1) * C.toInt ≤ lcl S l
theorem wst (h : CI noE S T [] col) {l n j : Nat} {C c : Int32} (k : iK S l 2) (W : wI S l n C) (v : Int32) (hj : c.toInt = j) (hc : (j : Int) < C.toInt) : f_Y3_write S l c v = (0, siC S ((grC S l 2).getD 0) (C.toNatClampNeg * n + j) v) ∧ LSt noE T [] l S col (siC S ((grC S l 2).getD 0) (C.toNatClampNeg * n + j) v) col ∧ wI (siC S ((grC S l 2).getD 0) (C.toNatClampNeg * n + j) v) l n C := by
  obtain ⟨w1, w2, w3⟩ := W
  have nl : (grC S l 2).getD 0 ≠ l := ik_ne (h.wf.w2 k).2.1.2 k (by decide)
  have f := write_v h.wf k v w1 (by rw [w2]; exact w3) hj (by rw [w2]; exact hc)
  rw [w2] at f
  refine ⟨f, LSt.z h k _ v, ?_, ?_, ?_⟩
  · rw [gi_si, if_neg (fun y => nl y.1.symm)]
    exact w1
  · rw [gi_si, if_neg (fun y => nl y.1.symm)]
    exact w2
  · unfold lcl at w3 ⊢
    rw [gr_si, ln_si]
    exact w3
/-- the reference's state with a result more -/
def kpH (H : HS) (k o y n : Int32) : HS := sI (sA (sA (sA (sA (sA H 41 (5 * (H.1 8).toNatClampNeg) (H.1 7)) 41 (5 * (H.1 8).toNatClampNeg + 1) k) 41 (5 * (H.1 8).toNatClampNeg + 2) o) 41 (5 * (H.1 8).toNatClampNeg + 3) y) 41 (5 * (H.1 8).toNatClampNeg + 4) n) 8 (H.1 8 + 1)
theorem kpH_r (H : HS) (k o y n : Int32) (i : Nat) : (kpH H k o y n).2 41 i = if i = 5 * (H.1 8).toNatClampNeg + 4 then n else if i = 5 * (H.1 8).toNatClampNeg + 3 then y else if i = 5 * (H.1 8).toNatClampNeg + 2 then o else if i = 5 * (H.1 8).toNatClampNeg + 1 then k else if i = 5 * (H.1 8).toNatClampNeg then H.1 7 else H.2 41 i := rfl
theorem kpH_q (H : HS) (k o y n : Int32) {q : Nat} (h : q ≠ 41) : (kpH H k o y n).2 q = H.2 q := by
  show (sA (sA (sA (sA (sA H 41 _ _) 41 _ _) 41 _ _) 41 _ _) 41 _ _).2 q = H.2 q
  rw [sA_k h, sA_k h, sA_k h, sA_k h, sA_k h]
/-- with an entry more -/
def miH (H : HS) (k a b c d v : Int32) : HS := sI (sA (sA (sA (sA (sA (sA H 40 (6 * (H.1 7).toNatClampNeg) k) 40 (6 * (H.1 7).toNatClampNeg + 1) a) 40 (6 * (H.1 7).toNatClampNeg + 2) b) 40 (6 * (H.1 7).toNatClampNeg + 3) c) 40 (6 * (H.1 7).toNatClampNeg + 4) d) 40 (6 * (H.1 7).toNatClampNeg + 5) v) 7 (H.1 7 + 1)
theorem miH_r (H : HS) (k a b c d v : Int32) (i : Nat) : (miH H k a b c d v).2 40 i = if i = 6 * (H.1 7).toNatClampNeg + 5 then v else if i = 6 * (H.1 7).toNatClampNeg + 4 then d else if i = 6 * (H.1 7).toNatClampNeg + 3 then c else if i = 6 * (H.1 7).toNatClampNeg + 2 then b else if i = 6 * (H.1 7).toNatClampNeg + 1 then a else if i = 6 * (H.1 7).toNatClampNeg then k else H.2 40 i := rfl
theorem miH_q (H : HS) (k a b c d v : Int32) {q : Nat} (h : q ≠ 40) : (miH H k a b c d v).2 q = H.2 q := by
  show (sA (sA (sA (sA (sA (sA H 40 _ _) 40 _ _) 40 _ _) 40 _ _) 40 _ _) 40 _ _).2 q = H.2 q
  rw [sA_k h, sA_k h, sA_k h, sA_k h, sA_k h, sA_k h]
theorem keepR_v (a : AS x S T col S1 T1 c1) (r : RR wF N S1 T1 x H) (h8 : 0 ≤ (H.1 8).toInt ∧ (H.1 8).toInt < 600) (k o y n : Int32) : ∃ S2 c2, f_Y7_keep S1 x k o y n = (0, S2) ∧ LSt noE T1 [] (x + 9) S1 c1 S2 c2 ∧ nk S1 S2 ∧ RR wF N S2 T1 x (kpH H k o y n) := by
  have w := a.w0
  have kl := w.1.2.2.2.2.2.1
  have e0 : giC S1 (x + 9) 3 = H.1 8 := r.2.2.2.1.2.1.1
  have ec0 : giC S1 (x + 9) 0 = 5 := r.2.2.2.1.2.2.1.2
  have olc : 5 * (H.1 8).toInt ≤ lcl S1 (x + 9) := r.2.2.2.1.2.1.2.1
  have kn := iNat h8.1
  obtain ⟨Sa, ca, f, g, e3, e3i, el, ec, nka⟩ := open_v a.ci kl (by rw [e0]; exact h8.2)
  have ka := a.k1.n g.2.1
  have wa := g.1.wf.w0 ka
  have e5a : grC Sa x 5 = some (x + 9) := wa.2.1.2.2.2.2.2.1
  have e4a : grC Sa x 4 = some (x + 7) := wa.2.1.2.2.2.2.1
  have e1a : grC Sa x 1 = some (x + 1) := wa.2.1.2.1
  have k0 : iK Sa (x + 9) 2 := wa.1.2.2.2.2.2.1
  have g5 : giC Sa (x + 9) 0 = 5 := g.2.2.2.2.2.1.1.trans ec0
  have t5 : (5 : Int32).toInt = 5 := by decide
  have W0 : wI Sa (x + 9) (H.1 8).toNatClampNeg 5 := ⟨by rw [e3i, e0]; omega, g5, by rw [t5]; rw [e0, ec0, t5] at el; omega⟩
  obtain ⟨z, hz⟩ : ∃ z, z = (grC Sa (x + 9) 2).getD 0 := ⟨_, rfl⟩
  obtain ⟨f0, g0, W1⟩ := wst g.1 k0 W0 (c := 0) (j := 0) (giC Sa (x + 7) 3) rfl (by rw [t5]; decide)
  rw [← hz] at f0 g0 W1
  obtain ⟨B0, hB0⟩ : ∃ B, B = siC Sa z (Int32.toNatClampNeg 5 * (H.1 8).toNatClampNeg + 0) (giC Sa (x + 7) 3) := ⟨_, rfl⟩
  rw [← hB0] at f0 g0 W1
  have k1 : iK B0 (x + 9) 2 := g0.k k0
  obtain ⟨f1, g1, W2⟩ := wst g0.1 k1 W1 (c := 1) (j := 1) k rfl (by rw [t5]; decide)
  have hz1 : (grC B0 (x + 9) 2).getD 0 = z := by rw [hB0, gr_si]; exact hz.symm
  rw [hz1] at f1 g1 W2
  obtain ⟨B1, hB1⟩ : ∃ B, B = siC B0 z (Int32.toNatClampNeg 5 * (H.1 8).toNatClampNeg + 1) k := ⟨_, rfl⟩
  rw [← hB1] at f1 g1 W2
  have k2 : iK B1 (x + 9) 2 := g1.k k1
  obtain ⟨f2, g2, W3⟩ := wst g1.1 k2 W2 (c := 2) (j := 2) o rfl (by rw [t5]; decide)
  have hz2 : (grC B1 (x + 9) 2).getD 0 = z := by rw [hB1, gr_si]; exact hz1
  rw [hz2] at f2 g2 W3
  obtain ⟨B2, hB2⟩ : ∃ B, B = siC B1 z (Int32.toNatClampNeg 5 * (H.1 8).toNatClampNeg + 2) o := ⟨_, rfl⟩
  rw [← hB2] at f2 g2 W3
  have k3 : iK B2 (x + 9) 2 := g2.k k2
  obtain ⟨f3, g3, W4⟩ := wst g2.1 k3 W3 (c := 3) (j := 3) y rfl (by rw [t5]; decide)
  have hz3 : (grC B2 (x + 9) 2).getD 0 = z := by rw [hB2, gr_si]; exact hz2
  rw [hz3] at f3 g3 W4
  obtain ⟨B3, hB3⟩ : ∃ B, B = siC B2 z (Int32.toNatClampNeg 5 * (H.1 8).toNatClampNeg + 3) y := ⟨_, rfl⟩
  rw [← hB3] at f3 g3 W4
  have k4 : iK B3 (x + 9) 2 := g3.k k3
  obtain ⟨f4, g4, W5⟩ := wst g3.1 k4 W4 (c := 4) (j := 4) n rfl (by rw [t5]; decide)
  have hz4 : (grC B3 (x + 9) 2).getD 0 = z := by rw [hB3, gr_si]; exact hz3
  rw [hz4] at f4 g4 W5
  obtain ⟨B4, hB4⟩ : ∃ B, B = siC B3 z (Int32.toNatClampNeg 5 * (H.1 8).toNatClampNeg + 4) n := ⟨_, rfl⟩
  rw [← hB4] at f4 g4 W5
  have k5 : iK B4 (x + 9) 2 := g4.k k4
  have G : LSt noE T1 [] (x + 9) S1 c1 B4 ca := (((((g.tr g0).tr g1).tr g2).tr g3).tr g4)
  have hzL : (grC B4 (x + 9) 2).getD 0 = z := by rw [hB4, gr_si]; exact hz4
  have n5 : Int32.toNatClampNeg 5 = 5 := by decide
  have cc : ∀ i, giC B4 z i = if i = 5 * (H.1 8).toNatClampNeg + 4 then n else if i = 5 * (H.1 8).toNatClampNeg + 3 then y else if i = 5 * (H.1 8).toNatClampNeg + 2 then o else if i = 5 * (H.1 8).toNatClampNeg + 1 then k else if i = 5 * (H.1 8).toNatClampNeg + 0 then (giC Sa (x + 7) 3) else giC Sa z i := fun i => by
    rw [hB4]
    simp only [gi_si, true_and, n5]
    rw [hB3]
    simp only [gi_si, true_and, n5]
    rw [hB2]
    simp only [gi_si, true_and, n5]
    rw [hB1]
    simp only [gi_si, true_and, n5]
    rw [hB0]
    simp only [gi_si, true_and, n5]
  have nkL : nk S1 B4 := fun q c n k => nka q c n (by
    rw [hB4] at k
    have k := ik_si.mp k
    rw [hB3] at k
    have k := ik_si.mp k
    rw [hB2] at k
    have k := ik_si.mp k
    rw [hB1] at k
    have k := ik_si.mp k
    rw [hB0] at k
    have k := ik_si.mp k
    exact k)
  have old : ∀ i : Nat, i < 5 * (H.1 8).toNatClampNeg → giC B4 ((grC B4 (x + 9) 2).getD 0) i = giC S1 ((grC S1 (x + 9) 2).getD 0) i := fun i hi => by
    rw [hzL, cc i, if_neg (by omega), if_neg (by omega), if_neg (by omega), if_neg (by omega), if_neg (by omega), hz]
    exact ec i (by omega)
  have e7 : giC Sa (x + 7) 3 = H.1 7 := by
    have k7 := w.1.2.2.2.2.1
    have e : Sa.2.2 (x + 7) = S1.2.2 (x + 7) := g.2.2.2.1 _ k7.1 (by omega) (ik_ne k7 (zl_k a.ci a.k1 (Or.inr rfl)).2 (by decide))
    unfold giC
    rw [e]
    exact r.2.2.2.1.1.1
  have e1 := iAdd (x := H.1 8) (y := 1) (by rw [i1]; omega) (by rw [i1]; omega)
  rw [i1] at e1
  have eh : (kpH H k o y n).1 8 = H.1 8 + 1 := rfl
  refine ⟨B4, ca, ?_, G, nkL, r.l9 a.ci a.k1 G nkL ?_ ?_ (fun i j hi hj => ?_) ⟨⟨rfl, rfl, rfl, rfl, rfl⟩, fun q h1 h2 => kpH_q H k o y n (by omega)⟩ ⟨rfl, rfl, rfl, rfl, rfl⟩ ⟨rfl, rfl, rfl, rfl⟩ ⟨rfl, rfl, rfl, rfl⟩ (by rw [eh]; omega)⟩
  · unfold f_Y7_keep b_Y7_keep_7a b_Y7_keep_22a b_Y7_keep_31a b_Y7_keep_40a b_Y7_keep_49a b_Y7_keep_59a
    rw [w.2.1.2.2.2.2.2.1, Option.getD_some, f]
    simp only [e5a, e4a, Option.getD_some, f0]
    rw [show grC B0 x 5 = some (x + 9) from by rw [hB0, gr_si]; exact e5a]
    simp only [Option.getD_some, f1]
    rw [show grC B1 x 5 = some (x + 9) from by rw [hB1, gr_si, hB0, gr_si]; exact e5a]
    simp only [Option.getD_some, f2]
    rw [show grC B2 x 5 = some (x + 9) from by rw [hB2, gr_si, hB1, gr_si, hB0, gr_si]; exact e5a]
    simp only [Option.getD_some, f3]
    rw [show grC B3 x 5 = some (x + 9) from by rw [hB3, gr_si, hB2, gr_si, hB1, gr_si, hB0, gr_si]; exact e5a]
    simp only [Option.getD_some, f4]
  · refine iEq.mpr ?_
    rw [W5.1, eh, e1]
    omega
  · have y := W5.2.2
    rw [t5] at y
    rw [eh, e1]
    omega
  · rw [eh, e1] at hi
    rw [hzL, cc, kpH_r, e7]
    by_cases y : i < (H.1 8).toNatClampNeg
    · rw [if_neg (show ¬ 5 * i + j = _ by omega), if_neg (show ¬ 5 * i + j = _ by omega), if_neg (show ¬ 5 * i + j = _ by omega), if_neg (show ¬ 5 * i + j = _ by omega), if_neg (show ¬ 5 * i + j = _ by omega), if_neg (show ¬ 5 * i + j = _ by omega), if_neg (show ¬ 5 * i + j = _ by omega), if_neg (show ¬ 5 * i + j = _ by omega), if_neg (show ¬ 5 * i + j = _ by omega), if_neg (show ¬ 5 * i + j = _ by omega), hz, ec _ (by omega)]
      exact r.2.2.2.1.2.1.2.2 i j (by omega) hj
    · have ei : i = (H.1 8).toNatClampNeg := by omega
      subst ei
      rcases (show j = 0 ∨ j = 1 ∨ j = 2 ∨ j = 3 ∨ j = 4 by omega) with rfl | rfl | rfl | rfl | rfl
      · rw [if_neg (show ¬ 5 * (H.1 8).toNatClampNeg + 0 = _ by omega), if_neg (show ¬ 5 * (H.1 8).toNatClampNeg + 0 = _ by omega), if_neg (show ¬ 5 * (H.1 8).toNatClampNeg + 0 = _ by omega), if_neg (show ¬ 5 * (H.1 8).toNatClampNeg + 0 = _ by omega), if_pos rfl, if_neg (show ¬ 5 * (H.1 8).toNatClampNeg + 0 = _ by omega), if_neg (show ¬ 5 * (H.1 8).toNatClampNeg + 0 = _ by omega), if_neg (show ¬ 5 * (H.1 8).toNatClampNeg + 0 = _ by omega), if_neg (show ¬ 5 * (H.1 8).toNatClampNeg + 0 = _ by omega), if_pos (Nat.add_zero _)]
      · rw [if_neg (show ¬ 5 * (H.1 8).toNatClampNeg + 1 = _ by omega), if_neg (show ¬ 5 * (H.1 8).toNatClampNeg + 1 = _ by omega), if_neg (show ¬ 5 * (H.1 8).toNatClampNeg + 1 = _ by omega), if_pos rfl, if_neg (show ¬ 5 * (H.1 8).toNatClampNeg + 1 = _ by omega), if_neg (show ¬ 5 * (H.1 8).toNatClampNeg + 1 = _ by omega), if_neg (show ¬ 5 * (H.1 8).toNatClampNeg + 1 = _ by omega), if_pos rfl]
      · rw [if_neg (show ¬ 5 * (H.1 8).toNatClampNeg + 2 = _ by omega), if_neg (show ¬ 5 * (H.1 8).toNatClampNeg + 2 = _ by omega), if_pos rfl, if_neg (show ¬ 5 * (H.1 8).toNatClampNeg + 2 = _ by omega), if_neg (show ¬ 5 * (H.1 8).toNatClampNeg + 2 = _ by omega), if_pos rfl]
      · rw [if_neg (show ¬ 5 * (H.1 8).toNatClampNeg + 3 = _ by omega), if_pos rfl, if_neg (show ¬ 5 * (H.1 8).toNatClampNeg + 3 = _ by omega), if_pos rfl]
      · rw [if_pos rfl, if_pos rfl]
theorem min_v (a : Sst noE x S T [] col S1 T1 [] c1) (r : RR wF N S1 T1 x H) (h8 : 0 ≤ (H.1 7).toInt ∧ (H.1 7).toInt < 600) (k p b c d v : Int32) : ∃ S2 c2, b_Y0_enact_39a S1 x k p b c d v = (v, S2) ∧ LSt noE T1 [] (x + 7) S1 c1 S2 c2 ∧ nk S1 S2 ∧ RR (wF.1, upd wF.2.1 (H.1 7).toNatClampNeg (H.1 6), wF.2.2.1, (miH H k p b c d v).2 40) N S2 T1 x (miH H k p b c d v) ∧ giC S2 ((grC S2 (x + 7) 2).getD 0) (7 * (H.1 7).toNatClampNeg + 6) = H.1 6 ∧ ∀ i, i < 7 * (H.1 7).toNatClampNeg → giC S2 ((grC S2 (x + 7) 2).getD 0) i = giC S1 ((grC S1 (x + 7) 2).getD 0) i := by
  have w := a.ci.wf.w0 a.k1
  have kl := w.1.2.2.2.2.1
  have e0 : giC S1 (x + 7) 3 = H.1 7 := r.2.2.2.1.1.1
  have ec0 : giC S1 (x + 7) 0 = 7 := r.2.2.2.1.2.2.1.1
  have olc : 7 * (H.1 7).toInt ≤ lcl S1 (x + 7) := r.2.2.2.1.1.2.1
  have kn := iNat h8.1
  obtain ⟨Sa, ca, f, g, e3, e3i, el, ec, nka⟩ := open_v a.ci kl (by rw [e0]; exact h8.2)
  have ka := a.k1.n g.2.1
  have wa := g.1.wf.w0 ka
  have e5a : grC Sa x 5 = some (x + 9) := wa.2.1.2.2.2.2.2.1
  have e4a : grC Sa x 4 = some (x + 7) := wa.2.1.2.2.2.2.1
  have e1a : grC Sa x 1 = some (x + 1) := wa.2.1.2.1
  have k0 : iK Sa (x + 7) 2 := wa.1.2.2.2.2.1
  have g5 : giC Sa (x + 7) 0 = 7 := g.2.2.2.2.2.1.1.trans ec0
  have t5 : (7 : Int32).toInt = 7 := by decide
  have W0 : wI Sa (x + 7) (H.1 7).toNatClampNeg 7 := ⟨by rw [e3i, e0]; omega, g5, by rw [t5]; rw [e0, ec0, t5] at el; omega⟩
  obtain ⟨z, hz⟩ : ∃ z, z = (grC Sa (x + 7) 2).getD 0 := ⟨_, rfl⟩
  obtain ⟨f0, g0, W1⟩ := wst g.1 k0 W0 (c := 0) (j := 0) k rfl (by rw [t5]; decide)
  rw [← hz] at f0 g0 W1
  obtain ⟨B0, hB0⟩ : ∃ B, B = siC Sa z (Int32.toNatClampNeg 7 * (H.1 7).toNatClampNeg + 0) k := ⟨_, rfl⟩
  rw [← hB0] at f0 g0 W1
  have k1 : iK B0 (x + 7) 2 := g0.k k0
  obtain ⟨f1, g1, W2⟩ := wst g0.1 k1 W1 (c := 1) (j := 1) p rfl (by rw [t5]; decide)
  have hz1 : (grC B0 (x + 7) 2).getD 0 = z := by rw [hB0, gr_si]; exact hz.symm
  rw [hz1] at f1 g1 W2
  obtain ⟨B1, hB1⟩ : ∃ B, B = siC B0 z (Int32.toNatClampNeg 7 * (H.1 7).toNatClampNeg + 1) p := ⟨_, rfl⟩
  rw [← hB1] at f1 g1 W2
  have k2 : iK B1 (x + 7) 2 := g1.k k1
  obtain ⟨f2, g2, W3⟩ := wst g1.1 k2 W2 (c := 2) (j := 2) b rfl (by rw [t5]; decide)
  have hz2 : (grC B1 (x + 7) 2).getD 0 = z := by rw [hB1, gr_si]; exact hz1
  rw [hz2] at f2 g2 W3
  obtain ⟨B2, hB2⟩ : ∃ B, B = siC B1 z (Int32.toNatClampNeg 7 * (H.1 7).toNatClampNeg + 2) b := ⟨_, rfl⟩
  rw [← hB2] at f2 g2 W3
  have k3 : iK B2 (x + 7) 2 := g2.k k2
  obtain ⟨f3, g3, W4⟩ := wst g2.1 k3 W3 (c := 3) (j := 3) c rfl (by rw [t5]; decide)
  have hz3 : (grC B2 (x + 7) 2).getD 0 = z := by rw [hB2, gr_si]; exact hz2
  rw [hz3] at f3 g3 W4
  obtain ⟨B3, hB3⟩ : ∃ B, B = siC B2 z (Int32.toNatClampNeg 7 * (H.1 7).toNatClampNeg + 3) c := ⟨_, rfl⟩
  rw [← hB3] at f3 g3 W4
  have k4 : iK B3 (x + 7) 2 := g3.k k3
  obtain ⟨f4, g4, W5⟩ := wst g3.1 k4 W4 (c := 4) (j := 4) d rfl (by rw [t5]; decide)
  have hz4 : (grC B3 (x + 7) 2).getD 0 = z := by rw [hB3, gr_si]; exact hz3
  rw [hz4] at f4 g4 W5
  obtain ⟨B4, hB4⟩ : ∃ B, B = siC B3 z (Int32.toNatClampNeg 7 * (H.1 7).toNatClampNeg + 4) d := ⟨_, rfl⟩
  rw [← hB4] at f4 g4 W5
  have k5 : iK B4 (x + 7) 2 := g4.k k4
  obtain ⟨f5, g5, W6⟩ := wst g4.1 k5 W5 (c := 5) (j := 5) v rfl (by rw [t5]; decide)
  have hz5 : (grC B4 (x + 7) 2).getD 0 = z := by rw [hB4, gr_si]; exact hz4
  rw [hz5] at f5 g5 W6
  obtain ⟨B5, hB5⟩ : ∃ B, B = siC B4 z (Int32.toNatClampNeg 7 * (H.1 7).toNatClampNeg + 5) v := ⟨_, rfl⟩
  rw [← hB5] at f5 g5 W6
  have k6 : iK B5 (x + 7) 2 := g5.k k5
  obtain ⟨v6, hv6⟩ : ∃ v6, giC B5 (x + 1) 1 = v6 := ⟨_, rfl⟩
  obtain ⟨f6, g6, W7⟩ := wst g5.1 k6 W6 (c := 6) (j := 6) v6 rfl (by rw [t5]; decide)
  have hz6 : (grC B5 (x + 7) 2).getD 0 = z := by rw [hB5, gr_si]; exact hz5
  rw [hz6] at f6 g6 W7
  obtain ⟨B6, hB6⟩ : ∃ B, B = siC B5 z (Int32.toNatClampNeg 7 * (H.1 7).toNatClampNeg + 6) v6 := ⟨_, rfl⟩
  rw [← hB6] at f6 g6 W7
  have k7 : iK B6 (x + 7) 2 := g6.k k6
  have G : LSt noE T1 [] (x + 7) S1 c1 B6 ca := (((((((g.tr g0).tr g1).tr g2).tr g3).tr g4).tr g5).tr g6)
  have hzL : (grC B6 (x + 7) 2).getD 0 = z := by rw [hB6, gr_si]; exact hz6
  have n5 : Int32.toNatClampNeg 7 = 7 := by decide
  have cc : ∀ i, giC B6 z i = if i = 7 * (H.1 7).toNatClampNeg + 6 then v6 else if i = 7 * (H.1 7).toNatClampNeg + 5 then v else if i = 7 * (H.1 7).toNatClampNeg + 4 then d else if i = 7 * (H.1 7).toNatClampNeg + 3 then c else if i = 7 * (H.1 7).toNatClampNeg + 2 then b else if i = 7 * (H.1 7).toNatClampNeg + 1 then p else if i = 7 * (H.1 7).toNatClampNeg + 0 then k else giC Sa z i := fun i => by
    rw [hB6]
    simp only [gi_si, true_and, n5]
    rw [hB5]
    simp only [gi_si, true_and, n5]
    rw [hB4]
    simp only [gi_si, true_and, n5]
    rw [hB3]
    simp only [gi_si, true_and, n5]
    rw [hB2]
    simp only [gi_si, true_and, n5]
    rw [hB1]
    simp only [gi_si, true_and, n5]
    rw [hB0]
    simp only [gi_si, true_and, n5]
  have nkL : nk S1 B6 := fun q c n k => nka q c n (by
    rw [hB6] at k
    have k := ik_si.mp k
    rw [hB5] at k
    have k := ik_si.mp k
    rw [hB4] at k
    have k := ik_si.mp k
    rw [hB3] at k
    have k := ik_si.mp k
    rw [hB2] at k
    have k := ik_si.mp k
    rw [hB1] at k
    have k := ik_si.mp k
    rw [hB0] at k
    have k := ik_si.mp k
    exact k)
  have old : ∀ i : Nat, i < 7 * (H.1 7).toNatClampNeg → giC B6 ((grC B6 (x + 7) 2).getD 0) i = giC S1 ((grC S1 (x + 7) 2).getD 0) i := fun i hi => by
    rw [hzL, cc i, if_neg (by omega), if_neg (by omega), if_neg (by omega), if_neg (by omega), if_neg (by omega), if_neg (by omega), if_neg (by omega), hz]
    exact ec i (by omega)
  have e1 := iAdd (x := H.1 7) (y := 1) (by rw [i1]; omega) (by rw [i1]; omega)
  rw [i1] at e1
  have eh : (miH H k p b c d v).1 7 = H.1 7 + 1 := rfl
  have c6 : giC B6 ((grC B6 (x + 7) 2).getD 0) (7 * (H.1 7).toNatClampNeg + 6) = H.1 6 := by
    rw [hzL, cc, if_pos rfl, ← hv6]
    have k1 := w.1.2.1
    have e : Sa.2.2 (x + 1) = S1.2.2 (x + 1) := g.2.2.2.1 _ k1.1 (by omega) (ik_ne k1 (zl_k a.ci a.k1 (Or.inl rfl)).2 (by decide))
    have nz : x + 1 ≠ z := fun y => by
      have kz := (g.1.wf.w2 k0).2.1.2
      rw [← hz, ← y] at kz
      have := kz.2
      have k1a := k1.n g.2.1
      rw [k1a.2] at this
      exact absurd this (by decide)
    rw [hB5, gi_si, if_neg (fun y => nz y.1), hB4, gi_si, if_neg (fun y => nz y.1), hB3, gi_si, if_neg (fun y => nz y.1), hB2, gi_si, if_neg (fun y => nz y.1), hB1, gi_si, if_neg (fun y => nz y.1), hB0, gi_si, if_neg (fun y => nz y.1)]
    unfold giC
    rw [e]
    exact iEq.mpr ((a.ci.tp (x + 1) (noE_n _) k1).1.trans (rr_n r.2.1))
  refine ⟨B6, ca, ?_, G, nkL, r.l7 (H2 := miH H k p b c d v) a.ci a.k1 G nkL ?_ ?_ (fun i j hi hj => ?_) ⟨⟨rfl, rfl, rfl, rfl, rfl⟩, fun q h1 h2 => miH_q H k p b c d v (by omega)⟩ ⟨rfl, rfl, rfl, rfl, rfl⟩ ⟨rfl, rfl, rfl, rfl⟩ ⟨rfl, rfl, rfl, rfl⟩ (Int.le_refl _) (fun i hi => ?_), c6, old⟩
  · unfold b_Y0_enact_39a b_Y0_enact_48a b_Y0_enact_57a b_Y0_enact_66a b_Y0_enact_75a b_Y0_enact_85a b_Y0_enact_95a b_Y0_enact_105a b_Y0_enact_121a
    rw [w.2.1.2.2.2.2.1, Option.getD_some, f]
    simp only [e4a, e1a, Option.getD_some, f0]
    rw [show grC B0 x 4 = some (x + 7) from by rw [hB0, gr_si]; exact e4a]
    simp only [Option.getD_some, f1]
    rw [show grC B1 x 4 = some (x + 7) from by rw [hB1, gr_si, hB0, gr_si]; exact e4a]
    simp only [Option.getD_some, f2]
    rw [show grC B2 x 4 = some (x + 7) from by rw [hB2, gr_si, hB1, gr_si, hB0, gr_si]; exact e4a]
    simp only [Option.getD_some, f3]
    rw [show grC B3 x 4 = some (x + 7) from by rw [hB3, gr_si, hB2, gr_si, hB1, gr_si, hB0, gr_si]; exact e4a]
    simp only [Option.getD_some, f4]
    rw [show grC B4 x 4 = some (x + 7) from by rw [hB4, gr_si, hB3, gr_si, hB2, gr_si, hB1, gr_si, hB0, gr_si]; exact e4a]
    simp only [Option.getD_some, f5]
    rw [show grC B5 x 4 = some (x + 7) from by rw [hB5, gr_si, hB4, gr_si, hB3, gr_si, hB2, gr_si, hB1, gr_si, hB0, gr_si]; exact e4a]
    rw [show grC B5 x 1 = some (x + 1) from by rw [hB5, gr_si, hB4, gr_si, hB3, gr_si, hB2, gr_si, hB1, gr_si, hB0, gr_si]; exact e1a]
    rw [Option.getD_some, Option.getD_some, hv6]
    simp only [Option.getD_some, f6]
  · refine iEq.mpr ?_
    rw [W7.1, eh, e1]
    omega
  · have y := W7.2.2
    rw [t5] at y
    rw [eh, e1]
    omega
  · rw [eh, e1] at hi
    rw [hzL, cc, miH_r]
    by_cases y : i < (H.1 7).toNatClampNeg
    · rw [if_neg (show ¬ 7 * i + j = _ by omega), if_neg (show ¬ 7 * i + j = _ by omega), if_neg (show ¬ 7 * i + j = _ by omega), if_neg (show ¬ 7 * i + j = _ by omega), if_neg (show ¬ 7 * i + j = _ by omega), if_neg (show ¬ 7 * i + j = _ by omega), if_neg (show ¬ 7 * i + j = _ by omega), if_neg (show ¬ 6 * i + j = _ by omega), if_neg (show ¬ 6 * i + j = _ by omega), if_neg (show ¬ 6 * i + j = _ by omega), if_neg (show ¬ 6 * i + j = _ by omega), if_neg (show ¬ 6 * i + j = _ by omega), if_neg (show ¬ 6 * i + j = _ by omega), hz, ec _ (by omega)]
      exact r.2.2.2.1.1.2.2 i j (by omega) hj
    · have ei : i = (H.1 7).toNatClampNeg := by omega
      subst ei
      rcases (show j = 0 ∨ j = 1 ∨ j = 2 ∨ j = 3 ∨ j = 4 ∨ j = 5 by omega) with rfl | rfl | rfl | rfl | rfl | rfl
      · rw [if_neg (show ¬ 7 * (H.1 7).toNatClampNeg + 0 = _ by omega), if_neg (show ¬ 7 * (H.1 7).toNatClampNeg + 0 = _ by omega), if_neg (show ¬ 7 * (H.1 7).toNatClampNeg + 0 = _ by omega), if_neg (show ¬ 7 * (H.1 7).toNatClampNeg + 0 = _ by omega), if_neg (show ¬ 7 * (H.1 7).toNatClampNeg + 0 = _ by omega), if_neg (show ¬ 7 * (H.1 7).toNatClampNeg + 0 = _ by omega), if_pos rfl, if_neg (show ¬ 6 * (H.1 7).toNatClampNeg + 0 = _ by omega), if_neg (show ¬ 6 * (H.1 7).toNatClampNeg + 0 = _ by omega), if_neg (show ¬ 6 * (H.1 7).toNatClampNeg + 0 = _ by omega), if_neg (show ¬ 6 * (H.1 7).toNatClampNeg + 0 = _ by omega), if_neg (show ¬ 6 * (H.1 7).toNatClampNeg + 0 = _ by omega), if_pos (Nat.add_zero _)]
      · rw [if_neg (show ¬ 7 * (H.1 7).toNatClampNeg + 1 = _ by omega), if_neg (show ¬ 7 * (H.1 7).toNatClampNeg + 1 = _ by omega), if_neg (show ¬ 7 * (H.1 7).toNatClampNeg + 1 = _ by omega), if_neg (show ¬ 7 * (H.1 7).toNatClampNeg + 1 = _ by omega), if_neg (show ¬ 7 * (H.1 7).toNatClampNeg + 1 = _ by omega), if_pos rfl, if_neg (show ¬ 6 * (H.1 7).toNatClampNeg + 1 = _ by omega), if_neg (show ¬ 6 * (H.1 7).toNatClampNeg + 1 = _ by omega), if_neg (show ¬ 6 * (H.1 7).toNatClampNeg + 1 = _ by omega), if_neg (show ¬ 6 * (H.1 7).toNatClampNeg + 1 = _ by omega), if_pos rfl]
      · rw [if_neg (show ¬ 7 * (H.1 7).toNatClampNeg + 2 = _ by omega), if_neg (show ¬ 7 * (H.1 7).toNatClampNeg + 2 = _ by omega), if_neg (show ¬ 7 * (H.1 7).toNatClampNeg + 2 = _ by omega), if_neg (show ¬ 7 * (H.1 7).toNatClampNeg + 2 = _ by omega), if_pos rfl, if_neg (show ¬ 6 * (H.1 7).toNatClampNeg + 2 = _ by omega), if_neg (show ¬ 6 * (H.1 7).toNatClampNeg + 2 = _ by omega), if_neg (show ¬ 6 * (H.1 7).toNatClampNeg + 2 = _ by omega), if_pos rfl]
      · rw [if_neg (show ¬ 7 * (H.1 7).toNatClampNeg + 3 = _ by omega), if_neg (show ¬ 7 * (H.1 7).toNatClampNeg + 3 = _ by omega), if_neg (show ¬ 7 * (H.1 7).toNatClampNeg + 3 = _ by omega), if_pos rfl, if_neg (show ¬ 6 * (H.1 7).toNatClampNeg + 3 = _ by omega), if_neg (show ¬ 6 * (H.1 7).toNatClampNeg + 3 = _ by omega), if_pos rfl]
      · rw [if_neg (show ¬ 7 * (H.1 7).toNatClampNeg + 4 = _ by omega), if_neg (show ¬ 7 * (H.1 7).toNatClampNeg + 4 = _ by omega), if_pos rfl, if_neg (show ¬ 6 * (H.1 7).toNatClampNeg + 4 = _ by omega), if_pos rfl]
      · rw [if_neg (show ¬ 7 * (H.1 7).toNatClampNeg + 5 = _ by omega), if_pos rfl, if_pos rfl]
  · rw [eh, e1] at hi
    by_cases y : i = (H.1 7).toNatClampNeg
    · subst y
      rw [upd_eq]
      exact c6
    · rw [upd_ne y, old _ (by omega)]
      exact r.2.2.2.1.2.2.2.2.2.2.2.2 i (by omega)
end
