/-! ===== begun anew, in both ===== -/
section
variable {wF : Prop × (Nat → Int32) × Int32 × (Nat → Int32)} {x y : Nat} {S S1 S2 S3 S4 : Cst} {T T1 T2 T3 : Nat → List Nat} {F F1 : List Nat} {col c1 c2 c3 : Nat → Nat} {H H2 G R : HS} {N N2 M M2 : Int}
theorem bg141 (x1 : Int32) : ∀ (n : Nat) (S : HS) (x : Int32), 0 ≤ x.toInt → x.toInt ≤ 8 → 8 - x.toInt < n → ∃ u, (lp_X11_begin_141 n S x1 x).2 = sR S 34 u := by
  intro n
  induction n with
  | zero => intro S x a b c; omega
  | succ n ih =>
    intro S x a b c
    rw [lp_X11_begin_141]
    unfold st_X11_begin_141
    have e8 : (8 : Int32).toInt = 8 := by decide
    by_cases z : 8 ≤ x
    · rw [if_pos z]
      exact ⟨S.2 34, by rw [sR_id]⟩
    · rw [if_neg z]
      have z := mt iLe.mpr z
      rw [e8] at z
      have e := iAdd (x := x) (y := 1) (by rw [i1]; omega) (by rw [i1]; omega)
      rw [i1] at e
      obtain ⟨u, g⟩ := ih (sA S 34 x.toNatClampNeg 0) (x + 1) (by omega) (by omega) (by omega)
      rw [sR_sA] at g
      exact ⟨u, g⟩
theorem bg120 (x1 : Int32) : ∀ (n : Nat) (S : HS) (x : Int32), 0 ≤ x.toInt → x.toInt ≤ 90 → 90 - x.toInt < n → ∃ w u, (lp_X11_begin_120 n S x1 x).2 = sR (sR S 13 w) 34 u := by
  intro n
  induction n with
  | zero => intro S x a b c; omega
  | succ n ih =>
    intro S x a b c
    rw [lp_X11_begin_120]
    unfold st_X11_begin_120
    have e9 : (90 : Int32).toInt = 90 := by decide
    by_cases z : 90 ≤ x
    · rw [if_pos z]
      obtain ⟨u, g⟩ := bg141 x1 100000 S 0 (by rw [i0]; omega) (by rw [i0]; omega) (by rw [i0]; omega)
      exact ⟨S.2 13, u, by rw [sR_id]; exact g⟩
    · rw [if_neg z]
      have z := mt iLe.mpr z
      rw [e9] at z
      have e := iAdd (x := x) (y := 1) (by rw [i1]; omega) (by rw [i1]; omega)
      rw [i1] at e
      obtain ⟨w, u, g⟩ := ih (sA S 13 x.toNatClampNeg 0) (x + 1) (by omega) (by omega) (by omega)
      rw [sR_sA] at g
      exact ⟨w, u, g⟩
/-- the majorities at the start -/
def mj0 (k : Nat) : Int32 := if k = 6 then 2 else 1
theorem bg89 (x1 : Int32) : ∀ (n : Nat) (S : HS) (x : Int32), 0 ≤ x.toInt → x.toInt ≤ 9 → 9 - x.toInt < n → ∃ v w u, (lp_X11_begin_89 n S x1 x).2 = sR (sR (sR S 12 v) 13 w) 34 u ∧ (∀ j, x.toNatClampNeg ≤ j → j < 9 → v j = mj0 j) ∧ ∀ j, j < x.toNatClampNeg → v j = S.2 12 j := by
  intro n
  induction n with
  | zero => intro S x a b c; omega
  | succ n ih =>
    intro S x a b c
    rw [lp_X11_begin_89]
    unfold st_X11_begin_89 b_X11_begin_111
    have e9 : (9 : Int32).toInt = 9 := by decide
    have k := iNat a
    by_cases z : 9 ≤ x
    · rw [if_pos z]
      have z := iLe.mp z
      rw [e9] at z
      obtain ⟨w, u, g⟩ := bg120 x1 100000 S 0 (by rw [i0]; omega) (by rw [i0]; omega) (by rw [i0]; omega)
      exact ⟨S.2 12, w, u, by rw [sR_id]; exact g, fun j h1 h2 => by omega, fun _ _ => rfl⟩
    · rw [if_neg z]
      have z := mt iLe.mpr z
      rw [e9] at z
      have e := iAdd (x := x) (y := 1) (by rw [i1]; omega) (by rw [i1]; omega)
      rw [i1] at e
      have k2 := iNat (x := x + 1) (by omega)
      have e6 : (6 : Int32).toInt = 6 := by decide
      have m : ∀ w : Int32, mj0 x.toNatClampNeg = w → ∃ v w' u, (lp_X11_begin_89 n (sA S 12 x.toNatClampNeg w) x1 (x + 1)).2 = sR (sR (sR S 12 v) 13 w') 34 u ∧ (∀ j, x.toNatClampNeg ≤ j → j < 9 → v j = mj0 j) ∧ ∀ j, j < x.toNatClampNeg → v j = S.2 12 j := fun w hw => by
        obtain ⟨v, w', u, g, g2, g3⟩ := ih (sA S 12 x.toNatClampNeg w) (x + 1) (by omega) (by omega) (by omega)
        rw [sR_sA] at g
        have g3 : ∀ j, j < (x + 1).toNatClampNeg → v j = upd (S.2 12) x.toNatClampNeg w j := g3
        refine ⟨v, w', u, g, fun j h1 h2 => ?_, fun j h1 => ?_⟩
        · by_cases q : j = x.toNatClampNeg
          · rw [g3 j (by omega), q, upd_eq, hw]
          · exact g2 j (by omega) h2
        · rw [g3 j (by omega)]
          exact upd_ne (by omega)
      by_cases q : x = 6
      · rw [if_pos q]
        exact m 2 (by rw [q]; decide)
      · rw [if_neg q]
        have q' := mt iEq.mpr q
        rw [e6] at q'
        exact m 1 (if_neg (by omega))
theorem bg67 (x1 : Int32) : ∀ (n : Nat) (S : HS) (x : Int32), 0 ≤ x.toInt → x.toInt ≤ 200 → 200 - x.toInt < n → ∃ t v w u, (lp_X11_begin_67 n S x1 x).2 = sR (sR (sR (sR S 11 t) 12 v) 13 w) 34 u ∧ (∀ s, x.toNatClampNeg ≤ s → s < 200 → t s = 0) ∧ (∀ s, s < x.toNatClampNeg → t s = S.2 11 s) ∧ ∀ j, j < 9 → v j = mj0 j := by
  intro n
  induction n with
  | zero => intro S x a b c; omega
  | succ n ih =>
    intro S x a b c
    rw [lp_X11_begin_67]
    unfold st_X11_begin_67
    have k := iNat a
    by_cases z : 200 ≤ x
    · rw [if_pos z]
      have z := iLe.mp z
      rw [i200] at z
      obtain ⟨v, w, u, g, g2, -⟩ := bg89 x1 100000 S 0 (by rw [i0]; omega) (by rw [i0]; omega) (by rw [i0]; omega)
      rw [zn0] at g2
      exact ⟨S.2 11, v, w, u, by rw [sR_id]; exact g, fun s h1 h2 => by omega, fun _ _ => rfl, fun j hj => g2 j (Nat.zero_le _) hj⟩
    · rw [if_neg z]
      have z := mt iLe.mpr z
      rw [i200] at z
      have e := iAdd (x := x) (y := 1) (by rw [i1]; omega) (by rw [i1]; omega)
      rw [i1] at e
      have k2 := iNat (x := x + 1) (by omega)
      obtain ⟨t, v, w, u, g, g2, g3, g4⟩ := ih (sA S 11 x.toNatClampNeg 0) (x + 1) (by omega) (by omega) (by omega)
      rw [sR_sA] at g
      have g3 : ∀ j, j < (x + 1).toNatClampNeg → t j = upd (S.2 11) x.toNatClampNeg 0 j := g3
      refine ⟨t, v, w, u, g, fun s h1 h2 => ?_, fun s h1 => ?_, g4⟩
      · by_cases q : s = x.toNatClampNeg
        · rw [g3 s (by omega), q, upd_eq]
        · exact g2 s (by omega) h2
      · rw [g3 s (by omega)]
        exact upd_ne (by omega)
/-- the reference begun -/
theorem beg_v (H : HS) (x1 : Int32) : ∃ R, (f_X11_begin H x1).2 = R ∧ (R.1 0 = x1 ∧ R.1 1 = 0 ∧ R.1 2 = -1 ∧ R.1 3 = 0 ∧ R.1 4 = 0 ∧ R.1 5 = -1) ∧ (R.1 6 = 0 ∧ R.1 7 = 0 ∧ R.1 8 = 0 ∧ R.1 9 = 0 ∧ R.1 10 = 0) ∧ (R.1 35 = 0 ∧ R.1 39 = -1) ∧ (∀ s, s < 200 → R.2 11 s = 0) ∧ (∀ j, j < 9 → R.2 12 j = mj0 j) ∧ (∀ p, p < 8 → R.2 34 p = 0) ∧ R.2 40 = H.2 40 := by
  have g := (beg_67 x1 100000 (sI (sI (sI (sI (sI (sI (sI (sI (sI (sI (sI (sI (sI H 0 x1) 1 0) 2 (-1)) 3 0) 4 0) 5 (-1)) 6 0) 7 0) 8 0) 9 0) 10 0) 35 0) 39 (-1)) 0 (by rw [i0]; omega) (by rw [i0]; omega) (by rw [i0]; omega)).2
  obtain ⟨t, v, w, u, e, q1, -, q3⟩ := bg67 x1 100000 (sI (sI (sI (sI (sI (sI (sI (sI (sI (sI (sI (sI (sI H 0 x1) 1 0) 2 (-1)) 3 0) 4 0) 5 (-1)) 6 0) 7 0) 8 0) 9 0) 10 0) 35 0) 39 (-1)) 0 (by rw [i0]; omega) (by rw [i0]; omega) (by rw [i0]; omega)
  rw [zn0] at q1
  unfold f_X11_begin
  obtain ⟨g1, -, g3, -⟩ := g
  refine ⟨_, rfl, ?_⟩
  generalize (lp_X11_begin_67 100000 (sI (sI (sI (sI (sI (sI (sI (sI (sI (sI (sI (sI (sI H 0 x1) 1 0) 2 (-1)) 3 0) 4 0) 5 (-1)) 6 0) 7 0) 8 0) 9 0) 10 0) 35 0) 39 (-1)) x1 0).2 = R at g1 g3 e ⊢
  subst e
  exact ⟨⟨rfl, rfl, rfl, rfl, rfl, rfl⟩, ⟨rfl, rfl, rfl, rfl, rfl⟩, ⟨rfl, rfl⟩, fun s hs => q1 s (Nat.zero_le _) hs, q3, g3, rfl⟩
/-- the class: no new cell -/
theorem n1_clear_lp : ∀ (n : Nat) (S1 : Cst) (T1 : Nat → List Nat) (b : Int32), Sst noE x S T F col S1 T1 F1 c1 → 0 ≤ b.toInt → b.toInt ≤ 8 → 8 - b.toInt < n → (lp_Y0_clear_18 x n S1 b).2.1 = S1.1 := by
  have e8 : (8 : Int32).toInt = 8 := by decide
  intro n
  induction n with
  | zero => intro S1 T1 b h h1 h2 h3; omega
  | succ n ih =>
    intro S1 T1 b h h1 h2 h3
    rw [lp_Y0_clear_18]
    have hb := iNat h1
    unfold st_Y0_clear_18
    by_cases c : b.toInt = 8
    · have c8 : 8 ≤ b := iLe.mpr (by rw [e8]; omega)
      rw [if_pos c8]
    · have c8 : ¬ 8 ≤ b := fun z => by have := iLe.mp z; rw [e8] at this; omega
      rw [if_neg c8]
      have dk := dk_ix h.ci.wf h.k1 (i := b.toNatClampNeg) (by omega)
      rw [dk.1, Option.getD_some]
      have o : pl x (x + 13 + 3 * b.toNatClampNeg) := Or.inr ⟨_, by omega, rfl⟩
      obtain ⟨-, S2, T2, f1, f2, f3, f4, f5, f6⟩ := y_discard h o (noE_n _)
      have n1 := n1_discard h o (noE_n _) f1
      rw [f1]
      have e := iAdd (x := b) (y := 1) (by rw [i1]; omega) (by rw [i1]; omega)
      rw [i1] at e
      unfold b_Y0_clear_34a
      exact (ih S2 T2 (b + 1) f2 (by omega) (by omega) (by omega)).trans n1
theorem n1_clear (h : Sst noE x S T F col S1 T1 F1 c1) : (f_Y0_clear S1 x).2.1 = S1.1 := by
  have w0 := h.ci.wf.w0 h.k1
  obtain ⟨-, S2, T2, f1, f2, f3, f4, f5⟩ := y_release h (noE_n _) (show own x (x + 1) from Or.inr (Or.inl rfl)) (by omega)
  have o3 : pl x (x + 3) := Or.inl rfl
  obtain ⟨-, S3, T3, g1, g2, g3, g4, g5, g6⟩ := y_discard f2 o3 (noE_n _)
  have n1 := n1_discard f2 o3 (noE_n _) g1
  have w2 := f2.ci.wf.w0 f2.k1
  unfold f_Y0_clear b_Y0_clear_8a b_Y0_clear_16a
  rw [w0.2.1.2.1, Option.getD_some, f1]
  simp only
  rw [w2.2.1.2.2.1, Option.getD_some, g1]
  exact ((n1_clear_lp 100000 S3 T3 0 g2 (by rw [i0]; omega) (by rw [i0]; omega) (by rw [i0]; omega)).trans n1).trans f3.2.2.2
/-- a row filled -/
theorem fill5 {z : Nat} (v : Int32) : ∀ (n : Nat) (S2 : Cst) (b : Int32), 0 ≤ b.toInt → b.toInt ≤ 9 → 9 - b.toInt < n → ∃ S3, lp_K7_fill_53178_5 z n S2 v b (Int32.ofNat 9) = (0, S3) ∧ (∀ s, b.toNatClampNeg ≤ s → s < 9 → giC S3 z s = v) ∧ (∀ s, s < b.toNatClampNeg → giC S3 z s = giC S2 z s) ∧ (∀ q k, q ≠ z → giC S3 q k = giC S2 q k) ∧ (∀ q k, grC S3 q k = grC S2 q k) ∧ (∀ q, lnC S3 q = lnC S2 q) ∧ ∀ q c, iK S3 q c → iK S2 q c := by
  have h9 : (Int32.ofNat 9).toInt = 9 := by decide
  intro n
  induction n with
  | zero => intro S2 b h1 h3 h4; omega
  | succ n ih =>
    intro S2 b h1 h3 h4
    have k := iNat h1
    rw [lp_K7_fill_53178_5]
    unfold st_K7_fill_53178_5
    by_cases c : Int32.ofNat 9 ≤ b
    · have := iLe.mp c
      rw [h9] at this
      rw [if_pos c]
      exact ⟨S2, rfl, fun s h5 h6 => by omega, fun _ _ => rfl, fun _ _ _ => rfl, fun _ _ => rfl, fun _ => rfl, fun _ _ h => h⟩
    · rw [if_neg c]
      have c := mt iLe.mpr c
      rw [h9] at c
      have e := iAdd (x := b) (y := 1) (by rw [i1]; omega) (by rw [i1]; omega)
      rw [i1] at e
      have k2 := iNat (x := b + 1) (by omega)
      obtain ⟨S3, f, q1, q2, q3, q4, q5, q6⟩ := ih (siC S2 z b.toNatClampNeg v) (b + 1) (by omega) (by omega) (by omega)
      refine ⟨S3, f, fun s h5 h6 => ?_, fun s h5 => ?_, fun q k n => ?_, fun q k => ?_, fun q => ?_, fun q c k => ik_si.mp (q6 q c k)⟩
      · by_cases w : s = b.toNatClampNeg
        · rw [q2 s (by omega), gi_si, if_pos ⟨rfl, w⟩]
        · exact q1 s (by omega) h6
      · rw [q2 s (by omega), gi_si, if_neg (fun w => by omega)]
      · rw [q3 q k n, gi_si, if_neg (fun w => n w.1)]
      · rw [q4, gr_si]
      · rw [q5, ln_si]
/-- the house begun -/
theorem hbeg_v (wf : wfS S1) (kx : iK S1 x 0) (n : Int32) : ∃ S2, f_Y2_begin S1 (x + 37) n = (0, S2) ∧ hC' x S1 S2 ∧ (giC S2 (x + 37) 0 = n ∧ giC S2 (x + 37) 2 = 0 ∧ giC S2 (x + 37) 3 = -1 ∧ giC S2 (x + 37) 4 = 0 ∧ giC S2 (x + 37) 5 = 0 ∧ giC S2 (x + 37) 6 = -1) ∧ (∀ s, s < 200 → giC S2 (x + 38) s = 0) ∧ ∀ j, j < 9 → giC S2 (x + 39) j = mj0 j := by
  have w1 := wf.w1 (wf.w0 kx).1.1
  obtain ⟨X, hX⟩ : ∃ X, X = siC (siC (siC (siC S1 (x + 37) 0 n) (x + 37) 4 0) (x + 37) 5 0) (x + 37) 3 (-1) := ⟨_, rfl⟩
  have gX' : ∀ k, grC X (x + 37) k = grC S1 (x + 37) k := fun k => by rw [hX]; simp only [gr_si]
  have lX : ∀ q, lnC X q = lnC S1 q := fun q => by rw [hX]; simp only [ln_si]
  obtain ⟨S3, f, p1, -, p3, p4, p5, p6⟩ := empty_l (y := x + 37) 100000 X 0 (by rw [gX']; exact w1.2.1.1) (by rw [lX]; exact w1.1.2.1) (by rw [i0]; omega) (by rw [i0]; omega) (by rw [i0]; omega)
  rw [zn0] at p1
  have f : f_Y2_empty X (x + 37) = (0, siC (siC S3 (x + 37) 2 0) (x + 37) 6 (-1)) := f
  obtain ⟨Y, hY⟩ : ∃ Y, Y = siC (siC S3 (x + 37) 2 0) (x + 37) 6 (-1) := ⟨_, rfl⟩
  rw [← hY] at f
  have y7 : grC Y (x + 37) 7 = some (x + 39) := by
    rw [hY]
    simp only [gr_si]
    rw [p4, gX']
    exact w1.2.1.2
  have yl : lnC Y (x + 39) = 9 := by
    rw [hY]
    simp only [ln_si]
    rw [p5, lX]
    exact w1.1.2.2.2
  obtain ⟨Z, f2, q1, -, q3, q4, q5, q6⟩ := fill5 (z := x + 39) 1 100000 Y 0 (by rw [i0]; omega) (by rw [i0]; omega) (by rw [i0]; omega)
  rw [zn0] at q1
  have z7 : grC Z (x + 37) 7 = some (x + 39) := (q4 _ _).trans y7
  have n6 : (6 : Int32).toNatClampNeg = 6 := by decide
  have eB : f_Y2_begin S1 (x + 37) n = (0, siC Z (x + 39) 6 2) := by
    unfold f_Y2_begin b_Y2_begin_24a b_Y2_begin_32a f_K7_fill_53178
    rw [← hX, f]
    simp only
    rw [y7, Option.getD_some, yl, f2]
    simp only
    rw [z7, Option.getD_some, n6]
  have v : ∀ k, giC (siC Z (x + 39) 6 2) (x + 37) k = giC Y (x + 37) k := fun k => by rw [gi_si, if_neg (fun w => by omega), q3 _ _ (by omega)]
  have vY : ∀ k, giC Y (x + 37) k = if k = 6 then -1 else if k = 2 then 0 else if k = 3 then -1 else if k = 5 then 0 else if k = 4 then 0 else if k = 0 then n else giC S1 (x + 37) k := fun k => by
    rw [hY]
    simp only [gi_si, true_and]
    rw [p3 _ _ (by omega), hX]
    simp only [gi_si, true_and]
  refine ⟨_, eB, ⟨fun q k h1 h2 h3 => ?_, fun q k => ?_, fun q => ?_, fun q c k => ?_⟩, ⟨?_, ?_, ?_, ?_, ?_, ?_⟩, fun s hs => ?_, fun j hj => ?_⟩
  · rw [gi_si, if_neg (fun w => h3 w.1), q3 _ _ h3, hY]
    simp only [gi_si]
    rw [if_neg (fun w => h1 w.1), if_neg (fun w => h1 w.1), p3 _ _ (by omega), hX]
    simp only [gi_si]
    rw [if_neg (fun w => h1 w.1), if_neg (fun w => h1 w.1), if_neg (fun w => h1 w.1), if_neg (fun w => h1 w.1)]
  · rw [gr_si, q4, hY]
    simp only [gr_si]
    rw [p4, hX]
    simp only [gr_si]
  · rw [ln_si, q5, hY]
    simp only [ln_si]
    rw [p5, lX]
  · have k := q6 q c (ik_si.mp k)
    rw [hY] at k
    have k := p6 q c (ik_si.mp (ik_si.mp k))
    rw [hX] at k
    exact ik_si.mp (ik_si.mp (ik_si.mp (ik_si.mp k)))
  · rw [v, vY]; rfl
  · rw [v, vY]; rfl
  · rw [v, vY]; rfl
  · rw [v, vY]; rfl
  · rw [v, vY]; rfl
  · rw [v, vY]; rfl
  · rw [gi_si, if_neg (fun w => by omega), q3 _ _ (by omega), hY]
    simp only [gi_si]
    rw [if_neg (fun w => by omega), if_neg (fun w => by omega)]
    exact p1 s (Nat.zero_le _) hs
  · rw [gi_si]
    by_cases w : j = 6
    · rw [if_pos ⟨rfl, w⟩, w]
      rfl
    · rw [if_neg (fun y => w y.2), q1 j (Nat.zero_le _) hj]
      exact (if_neg w).symm
/-- what an assembly is whatever it holds -/
def jS (S : Cst) (x : Nat) : Prop := (giC S (x + 7) 0 = 7 ∧ giC S (x + 9) 0 = 5) ∧ oz S (x + 7) ∧ oz S (x + 9) ∧ (grC S (x + 7) 2).getD 0 ≠ (grC S (x + 9) 2).getD 0 ∧ (grC S (x + 7) 2).getD 0 ≠ x + 39 ∧ (grC S (x + 9) 2).getD 0 ≠ x + 39
theorem RR.jS (r : RR wF N S T x H) : jS S x := by
  obtain ⟨-, -, -, ⟨-, -, c, d1, d2, d3, d4, d5, -⟩, -⟩ := r
  exact ⟨c, d1, d2, d3, d4, d5⟩
theorem begin_sim (h : Sst noE x S T [] col S1 T1 [] c1) (j : jS S1 x) (sv : sV S1) {n : Int32} (hn : 0 ≤ n.toInt ∧ n.toInt ≤ 200) : ∃ S2 T2, f_Y0_begin S1 x n = (0, S2) ∧ AS x S T col S2 T2 c1 ∧ ∀ (H : HS) (z : Nat → Int32), RR (True, z, n, H.2 40) 0 S2 T2 x (f_X11_begin H n).2 := by
  obtain ⟨-, S2, T2, f1, f2, f3, f4⟩ := y_clear noE_n h
  have n1 : S2.1 = S1.1 := by
    have := n1_clear h
    rw [f1] at this
    exact this
  have w2 := f2.ci.wf.w0 f2.k1
  obtain ⟨-, v, S3, g1, u3⟩ := y_hbegin f2 (n := n) hn
  obtain ⟨S3', g1', hc, hv, hs, hj⟩ := hbeg_v f2.ci.wf f2.k1 n
  obtain ⟨-, rfl⟩ := Prod.mk.inj (g1.symm.trans g1')
  have w3 := u3.w0
  have r0 : rg 0 0 600 := ⟨by rw [i0]; omega, by rw [i0]; omega⟩
  have r4 : rg 0 0 400 := ⟨by rw [i0]; omega, by rw [i0]; omega⟩
  have u4 := u3.lN (j := 7) (Or.inl rfl) 0 r0
  have w4 := u4.w0
  have u5 := u4.lN (j := 9) (Or.inr rfl) 0 r0
  have w5 := u5.w0
  have u6 := u5.tI w5.1.2.2.2.2.2.2 (f2.cx 11 (by omega)) 0 r4
  have u7 := ((u6.aI 7 0).aI 8 0).aI 9 0
  have e : f_Y0_begin S1 x n = (0, siC (siC (siC (siC (siC (siC S3 (x + 7) 3 0) (x + 9) 3 0) (x + 11) 1 0) x 7 0) x 8 0) x 9 0) := by
    unfold f_Y0_begin b_Y0_begin_4a b_Y0_begin_12a b_Y0_begin_36a
    rw [f1]
    simp only
    rw [w2.2.1.1, Option.getD_some, g1]
    simp only
    rw [w3.2.1.2.2.2.2.1, Option.getD_some, w4.2.1.2.2.2.2.2.1, Option.getD_some, w5.2.1.2.2.2.2.2.2, Option.getD_some]
  have as : AS x S T col (siC (siC (siC (siC (siC (siC S3 (x + 7) 3 0) (x + 9) 3 0) (x + 11) 1 0) x 7 0) x 8 0) x 9 0) T2 c1 := ⟨u7.1, (PI.clr f4).kp f2.ci f2.k1 u7.2.1 (fun _ _ _ => rfl)⟩
  refine ⟨_, T2, e, as, fun H z => ?_⟩
  obtain ⟨X, hX⟩ : ∃ X, X = siC (siC (siC (siC (siC (siC S3 (x + 7) 3 0) (x + 9) 3 0) (x + 11) 1 0) x 7 0) x 8 0) x 9 0 := ⟨_, rfl⟩
  rw [← hX] at as ⊢
  obtain ⟨R, eR, ⟨v0, v1, v2, v3, v4, v5⟩, ⟨v6, v7, v8, v9, v10⟩, ⟨v35, v39⟩, v11, v12, v34, v40⟩ := beg_v H n
  rw [eR]
  have gx : ∀ q k, giC X q k = if q = x ∧ k = 9 then 0 else if q = x ∧ k = 8 then 0 else if q = x ∧ k = 7 then 0 else if q = x + 11 ∧ k = 1 then 0 else if q = x + 9 ∧ k = 3 then 0 else if q = x + 7 ∧ k = 3 then 0 else giC S3 q k := fun q k => by
    rw [hX]
    simp only [gi_si]
  have gr : ∀ q k, grC X q k = grC S3 q k := fun q k => by
    rw [hX]
    simp only [gr_si]
  have ln : ∀ q, lnC X q = lnC S3 q := fun q => by
    rw [hX]
    simp only [ln_si]
  have ik : ∀ q c, iK X q c → iK S2 q c := fun q c k => by
    rw [hX] at k
    exact hc.2.2.2 q c (ik_si.mp (ik_si.mp (ik_si.mp (ik_si.mp (ik_si.mp (ik_si.mp k))))))
  have gh : ∀ k, giC X (x + 37) k = giC S3 (x + 37) k := fun k => by
    rw [gx, if_neg (fun y => by omega), if_neg (fun y => by omega), if_neg (fun y => by omega), if_neg (fun y => by omega), if_neg (fun y => by omega), if_neg (fun y => by omega)]
  have gt : ∀ k, giC X (x + 38) k = giC S3 (x + 38) k := fun k => by
    rw [gx, if_neg (fun y => by omega), if_neg (fun y => by omega), if_neg (fun y => by omega), if_neg (fun y => by omega), if_neg (fun y => by omega), if_neg (fun y => by omega)]
  have gm : ∀ k, giC X (x + 39) k = giC S3 (x + 39) k := fun k => by
    rw [gx, if_neg (fun y => by omega), if_neg (fun y => by omega), if_neg (fun y => by omega), if_neg (fun y => by omega), if_neg (fun y => by omega), if_neg (fun y => by omega)]
  have so : ∀ d, pl x d → giC X d 0 = giC S2 d 0 := fun d o => by
    have k := pl.lt f2.ci f2.k1 o
    have h1 : d ≠ x + 37 := fun y => ik_ne k w2.1.1 (by decide) y
    have w1 := f2.ci.wf.w1 w2.1.1
    have h2 : d ≠ x + 38 := fun y => ik_ne k w1.1.1 (by decide) y
    have h3 : d ≠ x + 39 := fun y => ik_ne k w1.1.2.2.1 (by decide) y
    rw [gx, if_neg (fun y => absurd y.2 (by decide)), if_neg (fun y => absurd y.2 (by decide)), if_neg (fun y => absurd y.2 (by decide)), if_neg (fun y => absurd y.2 (by decide)), if_neg (fun y => absurd y.2 (by decide)), if_neg (fun y => absurd y.2 (by decide))]
    exact hc.1 d 0 h1 h2 h3
  have N0 : ∀ g, g < 10 → hN R g = 0 := fun g hg => by
    match g with
    | 0 => show (R.1 6).toInt = 0; rw [v6]; rfl
    | 1 => show (R.1 35).toInt = 0; rw [v35]; rfl
    | p + 2 => show (R.2 34 p).toInt = 0; rw [v34 p (by omega)]; rfl
  have nL : ∀ g i, ¬ hL R g i := fun g i l => by
    have := l.2
    rw [N0 g l.1] at this
    omega
  have T0 : ∀ g, g < 10 → T2 (rP x g) = [] := fun g hg => by
    match g, hg with
    | 0, _ => exact f4.1
    | 1, _ => exact f4.2.1
    | p + 2, hg =>
      have := (f4.2.2.2 p (by omega)).2
      rw [rP_p, show x + 13 + 3 * p + 1 = x + 14 + 3 * p by omega]
      exact this
  have z7 : (0 : Int32).toInt = 0 := i0
  have k7 : iK S1 (x + 7) 2 := (h.ci.wf.w0 h.k1).1.2.2.2.2.1
  have k9 : iK S1 (x + 9) 2 := (h.ci.wf.w0 h.k1).1.2.2.2.2.2.1
  have rl : ∀ l, iK S1 l 2 → grC X l 2 = grC S1 l 2 := fun l k => by rw [gr, hc.2.1, f3.2.2 l k.1 k.2]
  have vl : ∀ l, iK S1 l 2 → l ≠ x → giC X l 0 = giC S1 l 0 := fun l k n => by
    have h1 : l ≠ x + 37 := fun y => ik_ne k (h.ci.wf.w0 h.k1).1.1 (by decide) y
    have w1 := h.ci.wf.w1 (h.ci.wf.w0 h.k1).1.1
    have h2 : l ≠ x + 38 := fun y => ik_ne k w1.1.1 (by decide) y
    have h3 : l ≠ x + 39 := fun y => ik_ne k w1.1.2.2.1 (by decide) y
    rw [gx, if_neg (fun y => absurd y.2 (by decide)), if_neg (fun y => absurd y.2 (by decide)), if_neg (fun y => absurd y.2 (by decide)), if_neg (fun y => absurd y.2 (by decide)), if_neg (fun y => absurd y.2 (by decide)), if_neg (fun y => absurd y.2 (by decide)), hc.1 l 0 h1 h2 h3]
    exact f3.2.1 l k.1 (by rw [k.2]; decide) (fun y => absurd (k.2.symm.trans y) (by decide)) 0
  have i6 : ∀ q c, iK X q c → iK S1 q c := fun q c k => ik_b (ik q c k) f3.1 n1
  have lc : ∀ l, (0 : Int) ≤ lcl X l := fun l => Int.natCast_nonneg _
  refine ⟨⟨⟨?_, ?_, ?_, ?_, ?_, ?_⟩, fun s hs' _ => ?_, fun k hk => ?_, ?_⟩, fun g hg => ⟨?_, fun i hi => ?_⟩, ⟨⟨fun _ => ?_, fun y => absurd v35 y⟩, fun p hp => ⟨fun _ => ?_, fun y => absurd (v34 p hp) y⟩, fun g _ l => absurd l (nL g 0), fun g _ l => absurd l (nL g 0), fun g _ l => absurd l (nL g 0)⟩, ⟨⟨?_, ?_, fun i j hi => ?_⟩, ⟨?_, ?_, fun i j hi => ?_⟩, ⟨?_, ?_⟩, fun q k => ?_, fun q k => ?_, ?_, ?_, ?_, fun i hi => ?_⟩, ⟨⟨⟨?_, fun _ => ?_⟩, ?_, fun _ => ⟨v39, ?_⟩, fun y => absurd v9 y, fun i hi => ?_⟩, fun q k => ?_, v0, v40⟩, ⟨?_, ?_⟩, fun g i l => absurd l (nL g i), fun g i g' i' l => absurd l (nL g i), fun j l => absurd l (nL j 0)⟩
  · rw [gh, hv.1, v0]
  · rw [gh, hv.2.1, v1]
  · rw [gh, hv.2.2.1, v2]
  · rw [gh, hv.2.2.2.1, v3]
  · rw [gh, hv.2.2.2.2.1, v4]
  · rw [gh, hv.2.2.2.2.2, v5]
  · rw [gt, hs s hs', v11 s hs']
  · rw [gm, hj k hk, v12 k hk]
  · rw [v4, i0]
    refine ⟨Int.le_refl _, fun s hs' => Or.inl (v11 s ?_)⟩
    rw [v0] at hs'
    omega
  · rw [T0 g hg, N0 g hg]
    rfl
  · rw [T0 g hg] at hi
    exact absurd hi (Nat.not_lt_zero _)
  · rw [so _ (Or.inl rfl)]
    exact f4.2.2.1
  · rw [so _ (Or.inr ⟨p, hp, rfl⟩)]
    exact (f4.2.2.2 p hp).1
  · rw [gx, if_neg (fun y => by omega), if_neg (fun y => by omega), if_neg (fun y => by omega), if_neg (fun y => by omega), if_neg (fun y => by omega), if_pos ⟨rfl, rfl⟩, v7]
  · rw [v7, i0]
    have := lc (x + 7)
    omega
  · rw [v7, i0] at hi
    omega
  · rw [gx, if_neg (fun y => by omega), if_neg (fun y => by omega), if_neg (fun y => by omega), if_neg (fun y => by omega), if_pos ⟨rfl, rfl⟩, v8]
  · rw [v8, i0]
    have := lc (x + 9)
    omega
  · rw [v8, i0] at hi
    omega
  · rw [vl _ k7 (by omega)]
    exact j.1.1
  · rw [vl _ k9 (by omega)]
    exact j.1.2
  · rw [rl _ k7]
    exact j.2.1 q (i6 q 6 k)
  · rw [rl _ k9]
    exact j.2.2.1 q (i6 q 6 k)
  · rw [rl _ k7, rl _ k9]
    exact j.2.2.2.1
  · rw [rl _ k7]
    exact j.2.2.2.2.1
  · rw [rl _ k9]
    exact j.2.2.2.2.2
  · rw [v7, i0] at hi
    omega
  · rw [gx, if_neg (fun y => absurd y.2 (by decide)), if_neg (fun y => absurd y.2 (by decide)), if_pos ⟨rfl, rfl⟩, v9]
  · rw [gx, if_pos ⟨rfl, rfl⟩, v10]
  · rw [v9, v8, i0]
    omega
  · rw [gx, if_neg (fun y => by omega), if_neg (fun y => by omega), if_neg (fun y => by omega), if_pos ⟨rfl, rfl⟩]
  · have em : (-1 : Int32).toInt = -1 := by decide
    rw [v39, em] at hi
    omega
  · have kq := i6 q 3 k
    have W := W3k h.ci.wf kq
    have c : ∀ i, i < 4 → ∀ k, giC X (q + i) k = giC S1 (q + i) k := fun i hi k => by
      obtain ⟨m0, m3, m7, m9, m11, m12, mp⟩ := mo_x h.ci h.k1 kq hi
      obtain ⟨h1, h2, h3⟩ := mo_h h.ci h.k1 kq hi
      rw [gx, if_neg (fun y => m0 y.1), if_neg (fun y => m0 y.1), if_neg (fun y => m0 y.1), if_neg (fun y => m11 y.1), if_neg (fun y => m9 y.1), if_neg (fun y => m7 y.1), hc.1 _ k h1 h2 h3]
      rcases (show i = 0 ∨ i = 1 ∨ i = 2 ∨ i = 3 by omega) with rfl | rfl | rfl | rfl
      · exact f3.2.1 q kq.1 (by rw [kq.2]; decide) (fun y => absurd (kq.2.symm.trans y) (by decide)) k
      · exact f3.2.1 _ W.1.1 (by rw [W.1.2]; decide) (fun y => absurd (W.1.2.symm.trans y) (by decide)) k
      · exact f3.2.1 _ W.2.1.1 (by rw [W.2.1.2]; decide) (fun y => absurd (W.2.1.2.symm.trans y) (by decide)) k
      · exact f3.2.1 _ W.2.2.1 (by rw [W.2.2.2]; decide) (fun y => absurd (W.2.2.2.symm.trans y) (by decide)) k
    rw [vCn_cg (c 3 (by omega)), show giC X q 14 = giC S1 q 14 from c 0 (by omega) 14]
    exact sv q kq
  · rw [gx, if_neg (fun y => absurd y.2 (by decide)), if_pos ⟨rfl, rfl⟩, i0]
    exact Int.le_refl _
  · rw [gx, if_neg (fun y => absurd y.2 (by decide)), if_pos ⟨rfl, rfl⟩, i0]
    exact Int.le_refl _
end
