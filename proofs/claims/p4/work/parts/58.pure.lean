/-! ===== the draft's span and words ===== -/
theorem one_n {N : Int} {S : HS} (h : HI N S) (hd : 1 ≤ (S.1 35).toInt) (ht : S.1 36 = 0) : hN S 1 = 1 := by
  have a := (h.1.1 1 (by omega)).2.2 (fun q => q ht)
  have c : hN S 1 = (S.1 35).toInt := rfl
  omega
theorem zn0 : (0 : Int32).toNatClampNeg = 0 := by decide
theorem d_11 {N : Int} {S : HS} (h : HI N S) (hN0 : 0 ≤ N) (hd : 1 ≤ (S.1 35).toInt) (ht : S.1 36 = 0) {x2 x3 : Int32} (h2 : 0 ≤ x2.toInt) (h3 : x2.toInt ≤ x3.toInt) (h4 : x3.toInt ≤ 400) :
    ((vp_in 0 9) ∧ (vp_in (S.2 32 (0 : Int32).toNatClampNeg) 90) ∧ (vp_in 0 9) ∧ (vp_in ((sA S 20 (S.2 32 (0 : Int32).toNatClampNeg).toNatClampNeg x2).2 32 (0 : Int32).toNatClampNeg) 90) ∧ True) ∧
    DO (N + 1) S (sA (sA S 20 (S.2 32 (0 : Int32).toNatClampNeg).toNatClampNeg x2) 21 ((sA S 20 (S.2 32 (0 : Int32).toNatClampNeg).toNatClampNeg x2).2 32 (0 : Int32).toNatClampNeg).toNatClampNeg x3) := by
  have d := draft0_in h.ra hd
  have v := vIn (n := 90) d.1 d.2
  have z : vp_in 0 9 := vIn (by rw [i0]; omega) (by rw [i0]; omega)
  refine ⟨⟨z, v, z, v, True.intro⟩, ⟨?_, h.2.1, h.2.2⟩, rfl, Or.inl rfl⟩
  have l : hL S 1 0 := ⟨by omega, by have := one_n h hd ht; omega⟩
  have w := h.1.2.2.2.2.1 1 0 l
  refine h.1.slot 1 (S.2 32 (0 : Int32).toNatClampNeg).toNatClampNeg (by omega) (by omega) (one_n h hd ht) (by rw [zn0]; rfl) rfl rfl rfl rfl (fun x a b => ⟨rfl, upd_ne b, upd_ne b, rfl⟩) ⟨w.1, w.2.1, ?_⟩ (fun g q => ?_) (fun g i a => ?_)
  · show 0 ≤ (upd (S.2 20) (S.2 32 (0 : Int32).toNatClampNeg).toNatClampNeg x2 (S.2 32 (0 : Int32).toNatClampNeg).toNatClampNeg).toInt ∧ (upd (S.2 20) (S.2 32 (0 : Int32).toNatClampNeg).toNatClampNeg x2 (S.2 32 (0 : Int32).toNatClampNeg).toNatClampNeg).toInt ≤ (upd (S.2 21) (S.2 32 (0 : Int32).toNatClampNeg).toNatClampNeg x3 (S.2 32 (0 : Int32).toNatClampNeg).toNatClampNeg).toInt ∧ (upd (S.2 21) (S.2 32 (0 : Int32).toNatClampNeg).toNatClampNeg x3 (S.2 32 (0 : Int32).toNatClampNeg).toNatClampNeg).toInt ≤ 400 * (N + 1 + 1)
    rw [upd_eq, upd_eq]
    omega
  · rcases g with _ | _ | p
    · exact ⟨rfl, Iff.rfl⟩
    · exact ⟨rfl, Iff.rfl⟩
    · exact ⟨rfl, Iff.rfl⟩
  · rcases g with _ | _ | p
    · rfl
    · rfl
    · rfl
/-- how many words a number adds -/
def cW (x : Int32) : Int := if x = 0 then 0 else 1
theorem addWord_i {N : Int} {S : HS} (h : HI N S) (hd : 1 ≤ (S.1 35).toInt) (ht : S.1 36 = 0) (x : Int32) (q : (S.2 19 (hM S 1 0)).toInt + cW x ≤ 400) :
    p_X11_addWord S x ∧ HI N (f_X11_addWord S x).2 ∧ (f_X11_addWord S x).2.1 = S.1 ∧ hM (f_X11_addWord S x).2 1 0 = hM S 1 0 ∧ ((f_X11_addWord S x).2.2 19 (hM S 1 0)).toInt = (S.2 19 (hM S 1 0)).toInt + cW x := by
  have l : hL S 1 0 := ⟨by omega, by have := one_n h hd ht; omega⟩
  have w := h.1.2.2.2.2.1 1 0 l
  have m0 : hM S 1 0 = (S.2 32 (0 : Int32).toNatClampNeg).toNatClampNeg := by rw [zn0]; rfl
  unfold cW at q
  unfold cW
  by_cases z : x = 0
  · rw [if_pos z] at q ⊢
    unfold p_X11_addWord f_X11_addWord
    rw [if_pos z, if_pos z]
    exact ⟨True.intro, h, rfl, rfl, by show (S.2 19 (hM S 1 0)).toInt = _; omega⟩
  rw [if_neg z] at q ⊢
  refine ⟨addWord_p h.ra hd x ?_, ?_⟩
  · rw [← m0]
    have := w.2.1
    omega
  have e := iAdd (x := S.2 19 (hM S 1 0)) (y := 1) (by have := w.2.1; rw [i1]; omega) (by rw [i1]; omega)
  rw [i1] at e
  unfold f_X11_addWord
  rw [if_neg z]
  dsimp only
  rw [← m0]
  have k : (upd (S.2 19) (hM S 1 0) (S.2 19 (hM S 1 0) + 1) (hM S 1 0)).toInt = (S.2 19 (hM S 1 0)).toInt + 1 := by rw [upd_eq, e]
  refine ⟨⟨?_, h.2.1, h.2.2⟩, rfl, rfl, k⟩
  refine h.1.slot 1 (hM S 1 0) (by omega) (by omega) (one_n h hd ht) rfl rfl rfl rfl rfl (fun x a b => ⟨upd_ne b, rfl, rfl, rfl⟩) ⟨w.1, ?_, w.2.2⟩ (fun g q => ?_) (fun g i a => ?_)
  · show 0 ≤ (upd (S.2 19) (hM S 1 0) (S.2 19 (hM S 1 0) + 1) (hM S 1 0)).toInt ∧ (upd (S.2 19) (hM S 1 0) (S.2 19 (hM S 1 0) + 1) (hM S 1 0)).toInt ≤ 400
    rw [k]
    have := w.2.1
    omega
  · rcases g with _ | _ | p
    · exact ⟨rfl, Iff.rfl⟩
    · exact ⟨rfl, Iff.rfl⟩
    · exact ⟨rfl, Iff.rfl⟩
  · rcases g with _ | _ | p
    · rfl
    · rfl
    · rfl
theorem d_12 {N : Int} {S : HS} (h : HI N S) (hd : 1 ≤ (S.1 35).toInt) (ht : S.1 36 = 0) (x1 x2 x3 x4 x5 : Int32) (q : (S.2 19 (hM S 1 0)).toInt + cW x2 + cW x3 + cW x4 + cW x5 ≤ 400) :
    (p_X11_addWord S x2 ∧ q_X11_does_a343 (f_X11_addWord S x2).2 x1 x2 x3 x4 x5) ∧ DO (N + 1) S (b_X11_does_a343 (f_X11_addWord S x2).2 x1 x2 x3 x4 x5).2 := by
  have cw : ∀ x, 0 ≤ cW x := fun x => by unfold cW; split <;> omega
  have c2 := cw x2
  have c3 := cw x3
  have c4 := cw x4
  have c5 := cw x5
  obtain ⟨a1, a2, a3, a4, a5⟩ := addWord_i h hd ht x2 (by omega)
  unfold q_X11_does_a343 b_X11_does_a343 q_X11_does_a348 b_X11_does_a348 q_X11_does_a354 b_X11_does_a354
  generalize (f_X11_addWord S x2).2 = S1 at a2 a3 a4 a5
  obtain ⟨b1, b2, b3, b4, b5⟩ := addWord_i a2 (by rw [a3]; exact hd) (by rw [a3]; exact ht) x3 (by rw [a4, a5]; omega)
  generalize (f_X11_addWord S1 x3).2 = S2 at b2 b3 b4 b5
  rw [a4, a5] at b5
  rw [a4] at b4
  obtain ⟨c1, c2, c3, c4, c5⟩ := addWord_i b2 (by rw [b3, a3]; exact hd) (by rw [b3, a3]; exact ht) x4 (by rw [b4, b5]; omega)
  generalize (f_X11_addWord S2 x4).2 = S3 at c2 c3 c4 c5
  rw [b4, b5] at c5
  rw [b4] at c4
  obtain ⟨d1, d2, d3, d4, d5⟩ := addWord_i c2 (by rw [c3, b3, a3]; exact hd) (by rw [c3, b3, a3]; exact ht) x5 (by rw [c4, c5]; omega)
  generalize (f_X11_addWord S3 x5).2 = S4 at d2 d3 d4 d5
  have e : S4.1 = S.1 := by rw [d3, c3, b3, a3]
  have dr := draft0_in d2.ra (by rw [e]; exact hd)
  exact ⟨⟨a1, b1, c1, d1, vIn (by rw [i0]; omega) (by rw [i0]; omega), vIn dr.1 dr.2, True.intro⟩, DO.of (d2.up (by omega)) (by show S4.1 7 = _; rw [e]) (by show S4.1 8 = _; rw [e])⟩
/-! ===== laying ===== -/
theorem c9 {x1 x : Int32} (hx : 0 ≤ x1.toInt ∧ x1.toInt ≤ 7) (h1 : 0 ≤ x.toInt) (h2 : x.toInt ≤ 9) : ((9 * x1) + x).toNatClampNeg = 9 * x1.toNatClampNeg + x.toNatClampNeg := by
  have e9 : (9 : Int32).toInt = 9 := by decide
  have m := iMul (x := 9) (y := x1) (n := 9 * x1.toInt) (by rw [e9]) (by omega) (by omega)
  have a := iAdd (x := 9 * x1) (y := x) (by rw [m]; omega) (by rw [m]; omega)
  rw [m] at a
  have b := iNat (x := (9 * x1) + x) (by omega)
  have c := iNat hx.1
  have d := iNat h1
  omega
theorem vbb {x : Int32} (h : x = 0 ∨ x = 1) : vp_nar .boolean x = x := by rcases h with q | q <;> subst q <;> rfl
theorem lay_l {x1 : Int32} (hx : 0 ≤ x1.toInt ∧ x1.toInt ≤ 7) : ∀ (n : Nat) (S : HS) (x2 x : Int32), (S.1 36 = 0 ∨ S.1 36 = 1) → (S.1 35).toInt ≤ 9 → 0 ≤ x.toInt → x.toInt ≤ (S.1 35).toInt → (S.1 35).toInt - x.toInt < n →
    ∃ u, (lp_X11_lay_67 n S x1 x2 x).2 = sI (sA (sA (sR S 33 u) 34 x1.toNatClampNeg (S.1 35)) 37 x1.toNatClampNeg (S.1 36)) 35 0 ∧ (∀ i : Nat, x.toInt ≤ i → (i : Int) < (S.1 35).toInt → u (9 * x1.toNatClampNeg + i) = S.2 32 i) ∧ (∀ j : Nat, (j : Int) < 9 * x1.toInt + x.toInt ∨ 9 * x1.toInt + (S.1 35).toInt ≤ j → u j = S.2 33 j) := by
  intro n
  induction n with
  | zero => intro S x2 x hb h9 h1 h2 h3; omega
  | succ n ih =>
    intro S x2 x hb h9 h1 h2 h3
    rw [lp_X11_lay_67]
    unfold st_X11_lay_67
    by_cases c : S.1 35 ≤ x
    · rw [if_pos c]
      have c := iLe.mp c
      refine ⟨S.2 33, ?_, fun i a b => by omega, fun j _ => rfl⟩
      rw [sR_id, ← vbb hb]
      show sI (sA (sA S 34 x1.toNatClampNeg (S.1 35)) 37 x1.toNatClampNeg (vp_nar .boolean (S.1 36))) 35 0 = _
      rw [vbb hb]
    · rw [if_neg c]
      have c := mt iLe.mpr c
      have e := iAdd (x := x) (y := 1) (by rw [i1]; omega) (by rw [i1]; omega)
      rw [i1] at e
      have k := iNat h1
      have k1 := iNat hx.1
      have cc := c9 hx h1 (by omega)
      obtain ⟨u, q1, q2, q3⟩ := ih (sA S 33 (9 * x1.toNatClampNeg + x.toNatClampNeg) (S.2 32 x.toNatClampNeg)) x2 (x + 1) hb h9 (by omega) (by show _ ≤ (S.1 35).toInt; omega) (by show (S.1 35).toInt - _ < _; omega)
      rw [sR_sA] at q1
      refine ⟨u, ?_, fun i a b => ?_, fun j z => ?_⟩
      · rw [cc]
        exact q1
      · by_cases y : i = x.toNatClampNeg
        · subst y
          rw [q3 (9 * x1.toNatClampNeg + x.toNatClampNeg) (by omega)]
          exact upd_eq
        · exact q2 i (by omega) b
      · rw [q3 j (by have c : (S.1 35).toInt = ((sA S 33 (9 * x1.toNatClampNeg + x.toNatClampNeg) (S.2 32 x.toNatClampNeg)).1 35).toInt := rfl; omega)]
        exact upd_ne (by omega)
/-- the rows of subjects and of what is laid alone are other ones -/
def sL (S : HS) (w w' : Nat → Int32) : HS := sR (sR S 23 w) 25 w'
theorem lay_T {S : HS} (x1 : Int32) : ∃ w w', (f_X11_lay S x1).2 = (lp_X11_lay_67 100000 (sL S w w') x1 (S.2 32 (0 : Int32).toNatClampNeg) 0).2 ∧ ∀ m, m ≠ hM S 1 0 → w m = S.2 23 m := by
  have m0 : hM S 1 0 = (S.2 32 (0 : Int32).toNatClampNeg).toNatClampNeg := by rw [zn0]; rfl
  have a65 : ∃ w w', (b_X11_lay_65 S x1 (S.2 32 (0 : Int32).toNatClampNeg)).2 = (lp_X11_lay_67 100000 (sL S w w') x1 (S.2 32 (0 : Int32).toNatClampNeg) 0).2 ∧ ∀ m, m ≠ hM S 1 0 → w m = S.2 23 m := by
    refine ⟨S.2 23, S.2 25, ?_, fun _ _ => rfl⟩
    have e : sL S (S.2 23) (S.2 25) = S := by
      unfold sL
      rw [sR_id, sR_id]
    rw [e]
    rfl
  have a58 : ∃ w w', (b_X11_lay_58 S x1 (S.2 32 (0 : Int32).toNatClampNeg)).2 = (lp_X11_lay_67 100000 (sL S w w') x1 (S.2 32 (0 : Int32).toNatClampNeg) 0).2 ∧ ∀ m, m ≠ hM S 1 0 → w m = S.2 23 m := by
    refine ⟨S.2 23, upd (S.2 25) (S.2 32 (0 : Int32).toNatClampNeg).toNatClampNeg 1, ?_, fun _ _ => rfl⟩
    have e : sL S (S.2 23) (upd (S.2 25) (S.2 32 (0 : Int32).toNatClampNeg).toNatClampNeg 1) = sA S 25 (S.2 32 (0 : Int32).toNatClampNeg).toNatClampNeg 1 := by
      unfold sL
      rw [sR_id]
      rfl
    rw [e]
    rfl
  have a43 : ∃ w w', (b_X11_lay_43 S x1 (S.2 32 (0 : Int32).toNatClampNeg)).2 = (lp_X11_lay_67 100000 (sL S w w') x1 (S.2 32 (0 : Int32).toNatClampNeg) 0).2 ∧ ∀ m, m ≠ hM S 1 0 → w m = S.2 23 m := by
    refine ⟨upd (S.2 23) (S.2 32 (0 : Int32).toNatClampNeg).toNatClampNeg (S.2 22 (f_X11_top S).1.toNatClampNeg), upd (S.2 25) (S.2 32 (0 : Int32).toNatClampNeg).toNatClampNeg 1, rfl, fun m q => upd_ne (by rw [← m0]; exact q)⟩
  unfold f_X11_lay
  by_cases z1 : S.1 36 = 0
  · rw [if_pos z1]
    by_cases z2 : S.2 25 (S.2 32 (0 : Int32).toNatClampNeg).toNatClampNeg = 0
    · rw [if_pos z2]
      by_cases z3 : S.2 14 (S.2 32 (0 : Int32).toNatClampNeg).toNatClampNeg = 2
      · rw [if_pos z3]
        exact a43
      · rw [if_neg z3]
        by_cases z4 : S.2 14 (S.2 32 (0 : Int32).toNatClampNeg).toNatClampNeg = 3
        · rw [if_pos z4]
          exact a43
        · rw [if_neg z4]
          exact a58
    · rw [if_neg z2]
      exact a58
  · rw [if_neg z1]
    exact a65
theorem d_13 {N : Int} {S : HS} (h : HI N S) (hd : 1 ≤ (S.1 35).toInt) {x1 : Int32} (hx : 0 ≤ x1.toInt ∧ x1.toInt ≤ 7) (hl : (S.2 34 x1.toNatClampNeg).toInt ≤ 0) (hw : wP S → ∃ q, q < 8 ∧ q ≠ x1.toNatClampNeg ∧ S.2 34 q = 0) : DO (N + 1) S (f_X11_lay S x1).2 := by
  obtain ⟨w, w', e, ww⟩ := lay_T (S := S) x1
  have n1 := h.1.1 1 (by omega)
  have e1 : hN S 1 = (S.1 35).toInt := rfl
  have k1 := iNat hx.1
  obtain ⟨u, q1, q2, q3⟩ := lay_l hx 100000 (sL S w w') (S.2 32 (0 : Int32).toNatClampNeg) 0 h.2.2.2.2.1 (by show (S.1 35).toInt ≤ 9; omega) (by rw [i0]; omega) (by rw [i0]; show 0 ≤ (S.1 35).toInt; omega) (by rw [i0]; show (S.1 35).toInt - 0 < _; omega)
  have q1 : (lp_X11_lay_67 100000 (sL S w w') x1 (S.2 32 (0 : Int32).toNatClampNeg) 0).2 = sI (sA (sA (sR (sL S w w') 33 u) 34 x1.toNatClampNeg (S.1 35)) 37 x1.toNatClampNeg (S.1 36)) 35 0 := q1
  rw [e, q1]
  have q2 : ∀ i : Nat, (0 : Int32).toInt ≤ i → (i : Int) < (S.1 35).toInt → u (9 * x1.toNatClampNeg + i) = S.2 32 i := q2
  have q3 : ∀ j : Nat, (j : Int) < 9 * x1.toInt + (0 : Int32).toInt ∨ 9 * x1.toInt + (S.1 35).toInt ≤ j → u j = S.2 33 j := q3
  rw [i0] at q2 q3
  have nd : hN S (x1.toNatClampNeg + 2) = (S.2 34 x1.toNatClampNeg).toInt := rfl
  have nd0 := h.1.1 (x1.toNatClampNeg + 2) (by omega)
  have nd' : hN (sI (sA (sA (sR (sL S w w') 33 u) 34 x1.toNatClampNeg (S.1 35)) 37 x1.toNatClampNeg (S.1 36)) 35 0) (x1.toNatClampNeg + 2) = (S.1 35).toInt := by
    show (upd (S.2 34) x1.toNatClampNeg (S.1 35) x1.toNatClampNeg).toInt = _
    rw [upd_eq]
  have td : hT (sI (sA (sA (sR (sL S w w') 33 u) 34 x1.toNatClampNeg (S.1 35)) 37 x1.toNatClampNeg (S.1 36)) 35 0) (x1.toNatClampNeg + 2) ↔ hT S 1 := by
    show upd (S.2 37) x1.toNatClampNeg (S.1 36) x1.toNatClampNeg ≠ 0 ↔ S.1 36 ≠ 0
    rw [upd_eq]
  refine ⟨⟨?_, ?_, ?_⟩, rfl, Or.inl rfl⟩
  · refine (h.1.up (show N ≤ N + 1 by omega)).xfer 1 (x1.toNatClampNeg + 2) 0 (by omega) (by omega) (by omega) (by omega) rfl ⟨rfl, rfl, rfl, rfl, rfl⟩ rfl ?_ ?_ ?_ ?_ ?_ ?_ (fun i c => absurd c (by omega)) ?_ ?_ (fun c => absurd c (by omega)) (fun c => absurd c (by omega)) (fun c => absurd c (by omega)) (fun c => absurd c (by omega))
    · intro g i a c
      refine ww _ (fun z => ?_)
      have d := h.1.d a (show hL S 1 0 from ⟨by omega, by omega⟩) z
      exact c d.1 d.2
    · exact i0
    · rw [nd', nd, e1]; omega
    · rw [nd']; omega
    · intro t
      rw [nd', ← e1]
      exact n1.2.2 (fun y => t (td.mpr y))
    · intro g q a b
      rcases g with _ | _ | p
      · exact ⟨rfl, Iff.rfl, fun i c => rfl⟩
      · exact absurd rfl a
      · have ne : p ≠ x1.toNatClampNeg := fun y => b (by rw [y])
        have np := h.1.1 (p + 2) q
        refine ⟨?_, ?_, fun i c => ?_⟩
        · show (upd (S.2 34) x1.toNatClampNeg (S.1 35) p).toInt = (S.2 34 p).toInt
          rw [upd_ne ne]
        · show upd (S.2 37) x1.toNatClampNeg (S.1 36) p ≠ 0 ↔ S.2 37 p ≠ 0
          rw [upd_ne ne]
        · have c : (i : Int) < hN S (p + 2) := c
          exact q3 (9 * p + i) (by omega)
    · intro i c
      rw [e1] at c
      rw [Nat.zero_add]
      exact q2 i (by omega) c
    · intro _ c t
      exact h.1.2.2.2.1 1 ⟨by omega, c⟩ (td.mp t)
  · have np : ¬ wD (sI (sA (sA (sR (sL S w w') 33 u) 34 x1.toNatClampNeg (S.1 35)) 37 x1.toNatClampNeg (S.1 36)) 35 0) := fun q => by
      have c : 0 < (0 : Int32).toInt := q.1
      rw [i0] at c
      omega
    refine ⟨fun q => ?_, fun q => absurd q.2 np⟩
    have q := q.resolve_right np
    obtain ⟨p, p1, p2, p3⟩ := hw q
    exact ⟨p, p1, by show upd (S.2 34) x1.toNatClampNeg (S.1 35) p = 0; rw [upd_ne p2]; exact p3⟩
  · refine ⟨h.2.2.1, h.2.2.2.1, h.2.2.2.2.1, fun p c => ?_⟩
    show upd (S.2 37) x1.toNatClampNeg (S.1 36) p = 0 ∨ upd (S.2 37) x1.toNatClampNeg (S.1 36) p = 1
    unfold upd
    split
    · exact h.2.2.2.2.1
    · exact h.2.2.2.2.2 p c
