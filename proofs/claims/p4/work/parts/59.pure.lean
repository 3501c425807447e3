/-! ===== taking ===== -/
theorem take_l {x1 : Int32} (hx : 0 ≤ x1.toInt ∧ x1.toInt ≤ 7) : ∀ (n : Nat) (S : HS) (x : Int32), (S.2 34 x1.toNatClampNeg).toInt ≤ 9 → 0 ≤ x.toInt → x.toInt ≤ (S.2 34 x1.toNatClampNeg).toInt → (S.2 34 x1.toNatClampNeg).toInt - x.toInt < n →
    ∃ u v, (lp_X11_take_2 n S x1 x).2 = sR (sA (sI (sI (sR S 32 u) 35 (S.2 34 x1.toNatClampNeg)) 36 (S.2 37 x1.toNatClampNeg)) 34 x1.toNatClampNeg 0) 27 v ∧ (∀ i : Nat, x.toInt ≤ i → (i : Int) < (S.2 34 x1.toNatClampNeg).toInt → u i = S.2 33 (9 * x1.toNatClampNeg + i)) ∧ (∀ j : Nat, (j : Int) < x.toInt → u j = S.2 32 j) := by
  intro n
  induction n with
  | zero => intro S x h9 h1 h2 h3; omega
  | succ n ih =>
    intro S x h9 h1 h2 h3
    rw [lp_X11_take_2]
    unfold st_X11_take_2
    by_cases c : S.2 34 x1.toNatClampNeg ≤ x
    · rw [if_pos c]
      have c := iLe.mp c
      refine ⟨S.2 32, upd (S.2 27) (S.2 32 (0 : Int32).toNatClampNeg).toNatClampNeg 0, ?_, fun i a b => by omega, fun j _ => rfl⟩
      rw [sR_id]
      dsimp only
      split <;> rfl
    · rw [if_neg c]
      have c := mt iLe.mpr c
      have e := iAdd (x := x) (y := 1) (by rw [i1]; omega) (by rw [i1]; omega)
      rw [i1] at e
      have k := iNat h1
      have cc := c9 hx h1 (by omega)
      obtain ⟨u, v, q1, q2, q3⟩ := ih (sA S 32 x.toNatClampNeg (S.2 33 (9 * x1.toNatClampNeg + x.toNatClampNeg))) (x + 1) h9 (by omega) (by show _ ≤ (S.2 34 x1.toNatClampNeg).toInt; omega) (by show (S.2 34 x1.toNatClampNeg).toInt - _ < _; omega)
      rw [sR_sA] at q1
      refine ⟨u, v, ?_, fun i a b => ?_, fun j z => ?_⟩
      · rw [cc]
        exact q1
      · by_cases y : i = x.toNatClampNeg
        · subst y
          rw [q3 x.toNatClampNeg (by omega)]
          exact upd_eq
        · exact q2 i (by omega) b
      · rw [q3 j (by omega)]
        exact upd_ne (by omega)
theorem d_14 {N : Int} {S : HS} (h : HI N S) (hd : (S.1 35).toInt ≤ 0) {x1 : Int32} (hx : 0 ≤ x1.toInt ∧ x1.toInt ≤ 7) (hl : S.2 34 x1.toNatClampNeg ≠ 0) : p_X11_take S x1 ∧ DO (N + 1) S (f_X11_take S x1).2 := by
  have n1 := h.1.1 1 (by omega)
  have e1 : hN S 1 = (S.1 35).toInt := rfl
  have k1 := iNat hx.1
  have ns : hN S (x1.toNatClampNeg + 2) = (S.2 34 x1.toNatClampNeg).toInt := rfl
  have nd0 := h.1.1 (x1.toNatClampNeg + 2) (by omega)
  have hl := mt iEq.mpr hl
  rw [i0] at hl
  have l0 : 1 ≤ (S.2 34 x1.toNatClampNeg).toInt := by omega
  refine ⟨take_p hx ⟨l0, by omega⟩ (h.2.2.2.2.2 _ (by omega)) (fun i a b => ?_), ?_⟩
  · have v := h.1.2.1 (x1.toNatClampNeg + 2) i.toNatClampNeg ⟨by omega, by rw [ns, iNat a]; exact b⟩
    rw [c9 hx a (by omega)]
    exact ⟨v.1, v.2.1⟩
  obtain ⟨u, v, q1, q2, q3⟩ := take_l hx 100000 S 0 (by omega) (by rw [i0]; omega) (by rw [i0]; omega) (by rw [i0]; omega)
  rw [i0] at q2
  have q1 : (f_X11_take S x1).2 = _ := q1
  rw [q1]
  have td : hT (sR (sA (sI (sI (sR S 32 u) 35 (S.2 34 x1.toNatClampNeg)) 36 (S.2 37 x1.toNatClampNeg)) 34 x1.toNatClampNeg 0) 27 v) 1 ↔ hT S (x1.toNatClampNeg + 2) := Iff.rfl
  refine ⟨⟨?_, ?_, ?_⟩, rfl, Or.inl rfl⟩
  · refine (h.1.up (show N ≤ N + 1 by omega)).xfer (x1.toNatClampNeg + 2) 1 0 (by omega) (by omega) (by omega) (by omega) rfl ⟨rfl, rfl, rfl, rfl, rfl⟩ rfl (fun _ _ _ _ => rfl) ?_ ?_ ?_ ?_ ?_ (fun i c => absurd c (by omega)) ?_ ?_ (fun c => absurd c (by omega)) (fun c => absurd c (by omega)) (fun c => absurd c (by omega)) (fun c => absurd c (by omega))
    · show (upd (S.2 34) x1.toNatClampNeg 0 x1.toNatClampNeg).toInt = 0
      rw [upd_eq, i0]
    · show (S.2 34 x1.toNatClampNeg).toInt = _
      omega
    · show (S.2 34 x1.toNatClampNeg).toInt ≤ 9
      omega
    · intro t
      show (S.2 34 x1.toNatClampNeg).toInt ≤ 1
      exact nd0.2.2 t
    · intro g q a b
      rcases g with _ | _ | p
      · exact ⟨rfl, Iff.rfl, fun i c => rfl⟩
      · exact absurd rfl b
      · have ne : p ≠ x1.toNatClampNeg := fun y => a (by rw [y])
        refine ⟨?_, Iff.rfl, fun i c => rfl⟩
        show (upd (S.2 34) x1.toNatClampNeg 0 p).toInt = (S.2 34 p).toInt
        rw [upd_ne ne]
    · intro i c
      rw [Nat.zero_add]
      exact q2 i (by omega) c
    · intro _ c t
      exact h.1.2.2.2.1 (x1.toNatClampNeg + 2) ⟨by omega, c⟩ t
  · refine ⟨fun _ => ⟨x1.toNatClampNeg, by omega, upd_eq⟩, fun q => ?_⟩
    obtain ⟨p, p1, p2⟩ := h.2.1.1 (Or.inl q.1)
    have ne : x1.toNatClampNeg ≠ p := fun y => by
      rw [y, p2, i0] at l0
      omega
    exact ⟨x1.toNatClampNeg, p, by omega, p1, ne, upd_eq, by show upd (S.2 34) x1.toNatClampNeg 0 p = 0; rw [upd_ne (fun y => ne y.symm)]; exact p2⟩
  · exact ⟨h.2.2.1, h.2.2.2.1, h.2.2.2.2.2 x1.toNatClampNeg (by omega), h.2.2.2.2.2⟩
/-! ===== moving ===== -/
theorem move_w (x1 : Int32) : ∀ (n : Nat) (S : HS) (x : Int32), 0 ≤ (S.1 6).toInt → (S.1 6).toInt + (S.1 35).toInt ≤ 9 → 0 ≤ x.toInt → x.toInt ≤ (S.1 35).toInt → (S.1 35).toInt - x.toInt < n →
    ∃ u, (lp_X11_move_77 n S x1 x).2 = sI (sI (sI (sR S 31 u) 6 (S.1 6 + S.1 35)) 35 0) 5 (-1) ∧ (∀ i : Nat, x.toInt ≤ i → (i : Int) < (S.1 35).toInt → u ((S.1 6).toNatClampNeg + i) = S.2 32 i) ∧ (∀ j : Nat, (j : Int) < (S.1 6).toInt + x.toInt → u j = S.2 31 j) := by
  intro n
  induction n with
  | zero => intro S x h0 h9 h1 h2 h3; omega
  | succ n ih =>
    intro S x h0 h9 h1 h2 h3
    rw [lp_X11_move_77]
    unfold st_X11_move_77
    by_cases c : S.1 35 ≤ x
    · rw [if_pos c]
      have c := iLe.mp c
      refine ⟨S.2 31, ?_, fun i a b => by omega, fun j _ => rfl⟩
      rw [sR_id]
    · rw [if_neg c]
      have c := mt iLe.mpr c
      have e := iAdd (x := x) (y := 1) (by rw [i1]; omega) (by rw [i1]; omega)
      rw [i1] at e
      have k := iNat h1
      have k6 := iNat h0
      have a6 := iAdd (x := S.1 6) (y := x) (by omega) (by omega)
      have ka := iNat (x := S.1 6 + x) (by omega)
      have cc : (S.1 6 + x).toNatClampNeg = (S.1 6).toNatClampNeg + x.toNatClampNeg := by omega
      obtain ⟨u, q1, q2, q3⟩ := ih (sA S 31 ((S.1 6).toNatClampNeg + x.toNatClampNeg) (S.2 32 x.toNatClampNeg)) (x + 1) h0 h9 (by omega) (by show _ ≤ (S.1 35).toInt; omega) (by show (S.1 35).toInt - _ < _; omega)
      rw [sR_sA] at q1
      have q3 : ∀ j : Nat, (j : Int) < (S.1 6).toInt + (x + 1).toInt → u j = upd (S.2 31) ((S.1 6).toNatClampNeg + x.toNatClampNeg) (S.2 32 x.toNatClampNeg) j := q3
      refine ⟨u, ?_, fun i a b => ?_, fun j z => ?_⟩
      · rw [cc]
        exact q1
      · by_cases y : i = x.toNatClampNeg
        · subst y
          rw [q3 _ (by omega)]
          exact upd_eq
        · exact q2 i (by omega) b
      · rw [q3 j (by omega)]
        exact upd_ne (by omega)
/-- the rows of subjects and of movers alone are other ones -/
def sM (S : HS) (w w' : Nat → Int32) : HS := sR (sR S 23 w) 15 w'
theorem move_T {S : HS} (x1 : Int32) : ∃ w w', (f_X11_move S x1).2 = (lp_X11_move_77 100000 (sM S w w') x1 0).2 ∧ (∀ m, m ≠ hM S 1 0 → w m = S.2 23 m) ∧
    (S.1 36 = 0 → (S.2 14 (hM S 1 0) = 2 ∨ S.2 14 (hM S 1 0) = 3) → (S.2 25 (hM S 1 0) = 0 ∨ S.2 23 (hM S 1 0) = S.2 22 (f_X11_top S).1.toNatClampNeg) → w (hM S 1 0) = S.2 22 (f_X11_top S).1.toNatClampNeg) := by
  have m0 : hM S 1 0 = (S.2 32 (0 : Int32).toNatClampNeg).toNatClampNeg := by rw [zn0]; rfl
  rw [m0]
  unfold f_X11_move
  by_cases z1 : S.1 36 = 0
  · rw [if_pos z1]
    have n68 : ∀ y, (b_X11_move_68 S x1 (S.2 32 (0 : Int32).toNatClampNeg) y).2 = (lp_X11_move_77 100000 (sM S (S.2 23) (upd (S.2 15) (S.2 32 (0 : Int32).toNatClampNeg).toNatClampNeg x1)) x1 0).2 := fun y => by
      have e : sM S (S.2 23) (upd (S.2 15) (S.2 32 (0 : Int32).toNatClampNeg).toNatClampNeg x1) = sA S 15 (S.2 32 (0 : Int32).toNatClampNeg).toNatClampNeg x1 := by
        unfold sM
        rw [sR_id]
        rfl
      rw [e]
      rfl
    have a34 : ∃ w w', (b_X11_move_34 S x1 (S.2 32 (0 : Int32).toNatClampNeg)).2 = (lp_X11_move_77 100000 (sM S w w') x1 0).2 ∧ (∀ m, m ≠ (S.2 32 (0 : Int32).toNatClampNeg).toNatClampNeg → w m = S.2 23 m) ∧ (S.2 25 (S.2 32 (0 : Int32).toNatClampNeg).toNatClampNeg = 0 ∨ S.2 23 (S.2 32 (0 : Int32).toNatClampNeg).toNatClampNeg = S.2 22 (f_X11_top S).1.toNatClampNeg → w (S.2 32 (0 : Int32).toNatClampNeg).toNatClampNeg = S.2 22 (f_X11_top S).1.toNatClampNeg) := by
      unfold b_X11_move_34 b_X11_move_39
      rw [if_neg (by decide)]
      by_cases z2 : S.2 25 (S.2 32 (0 : Int32).toNatClampNeg).toNatClampNeg = 0
      · rw [if_pos z2]
        exact ⟨upd (S.2 23) (S.2 32 (0 : Int32).toNatClampNeg).toNatClampNeg (S.2 22 (f_X11_top S).1.toNatClampNeg), upd (S.2 15) (S.2 32 (0 : Int32).toNatClampNeg).toNatClampNeg x1, rfl, fun m q => upd_ne q, fun _ => upd_eq⟩
      · rw [if_neg z2]
        exact ⟨_, _, n68 _, fun _ _ => rfl, fun q => q.resolve_left z2⟩
    by_cases z3 : S.2 14 (S.2 32 (0 : Int32).toNatClampNeg).toNatClampNeg = 2
    · rw [if_pos z3]
      obtain ⟨w, w', a, b, c⟩ := a34
      exact ⟨w, w', a, b, fun _ _ => c⟩
    · rw [if_neg z3]
      by_cases z4 : S.2 14 (S.2 32 (0 : Int32).toNatClampNeg).toNatClampNeg = 3
      · rw [if_pos z4]
        obtain ⟨w, w', a, b, c⟩ := a34
        exact ⟨w, w', a, b, fun _ _ => c⟩
      · rw [if_neg z4]
        refine ⟨S.2 23, upd (S.2 15) (S.2 32 (0 : Int32).toNatClampNeg).toNatClampNeg x1, ?_, fun _ _ => rfl, fun _ q => absurd q (fun q => q.elim z3 z4)⟩
        unfold b_X11_move_39
        rw [if_pos rfl]
        exact n68 _
  · rw [if_neg z1]
    refine ⟨S.2 23, S.2 15, ?_, fun _ _ => rfl, fun q => absurd q z1⟩
    have e : sM S (S.2 23) (S.2 15) = S := by
      unfold sM
      rw [sR_id, sR_id]
    rw [e]
    rfl
/-- what a move's reason leaves when it is 0 -/
def mV (S : HS) (m t : Nat) : Prop :=
  (S.1 6).toInt ≤ 8 ∧ (S.2 14 m = 1 → S.1 6 = 0) ∧ (S.2 14 m ≠ 1 → 1 ≤ (S.1 6).toInt) ∧
  (S.2 14 m = 2 ∨ S.2 14 m = 3 → (S.2 25 m = 0 ∨ S.2 23 m = S.2 22 t) ∧ (S.2 21 m).toInt ≤ (S.2 19 t).toInt ∧ (S.2 19 t).toInt + (S.2 19 m).toInt - ((S.2 21 m).toInt - (S.2 20 m).toInt) ≤ 400) ∧
  (S.2 14 m = 3 → S.2 14 t = 2 ∧ (2 ≤ (S.1 6).toInt → (S.2 19 (hM S 0 ((S.1 6).toNatClampNeg - 2))).toInt + ((S.2 19 t).toInt + (S.2 19 m).toInt - ((S.2 21 m).toInt - (S.2 20 m).toInt)) - ((S.2 21 t).toInt - (S.2 20 t).toInt) ≤ 400)) ∧
  (S.2 14 m = 2 → S.2 14 t ≠ 2 ∧ S.2 14 t ≠ 3) ∧ (S.2 14 m = 4 ∨ S.2 14 m = 5 ∨ S.2 14 m = 7 → ∃ p, p < 8 ∧ S.2 34 p = 0)
theorem d_15 {N : Int} {S : HS} (h : HI N S) (hd : 1 ≤ (S.1 35).toInt) (x1 : Int32) (t1 : S.1 36 ≠ 0 → S.1 6 = 0) (t0 : S.1 36 = 0 → mV S (hM S 1 0) (f_X11_top S).1.toNatClampNeg) :
    p_X11_move S x1 ∧ DO (N + 1) S (f_X11_move S x1).2 := by
  have n0 := h.1.1 0 (by omega)
  have n1 := h.1.1 1 (by omega)
  have e0 : hN S 0 = (S.1 6).toInt := rfl
  have e1 : hN S 1 = (S.1 35).toInt := rfl
  have k6 := iNat (x := S.1 6) (by omega)
  have m0 : hM S 1 0 = (S.2 32 (0 : Int32).toNatClampNeg).toNatClampNeg := by rw [zn0]; rfl
  have hs : (S.1 6).toInt + (S.1 35).toInt ≤ 9 := by
    by_cases z : S.1 36 = 0
    · have := (t0 z).1
      have := one_n h hd z
      omega
    · have := iEq.mp (t1 z)
      rw [i0] at this
      omega
  have t1' : S.1 36 ≠ 0 → (S.1 6).toInt = 0 := fun z => by
    have := iEq.mp (t1 z)
    rw [i0] at this
    exact this
  refine ⟨move_d h.ra hd hs x1 (fun z q => ?_), ?_⟩
  · refine (t0 z).2.2.1 (fun y => ?_)
    rw [← m0, y] at q
    exact absurd q (by decide)
  obtain ⟨w, w', e, ww, wt⟩ := move_T (S := S) x1
  obtain ⟨u, q1, q2, q3⟩ := move_w x1 100000 (sM S w w') 0 (by show 0 ≤ (S.1 6).toInt; omega) hs (by rw [i0]; omega) (by rw [i0]; show 0 ≤ (S.1 35).toInt; omega) (by rw [i0]; show (S.1 35).toInt - 0 < _; omega)
  have q1 : (lp_X11_move_77 100000 (sM S w w') x1 0).2 = sI (sI (sI (sR (sM S w w') 31 u) 6 (S.1 6 + S.1 35)) 35 0) 5 (-1) := q1
  have q2 : ∀ i : Nat, (0 : Int32).toInt ≤ i → (i : Int) < (S.1 35).toInt → u ((S.1 6).toNatClampNeg + i) = S.2 32 i := q2
  have q3 : ∀ j : Nat, (j : Int) < (S.1 6).toInt + (0 : Int32).toInt → u j = S.2 31 j := q3
  rw [i0] at q2 q3
  rw [e, q1]
  have a6 := iAdd (x := S.1 6) (y := S.1 35) (by omega) (by omega)
  have ld : hL S 1 0 := ⟨by omega, by omega⟩
  have tp : 1 ≤ (S.1 6).toInt → (f_X11_top S).1.toNatClampNeg = hM S 0 ((S.1 6).toNatClampNeg - 1) := fun hp => by
    have := topN hp
    show (S.2 31 (S.1 6 - 1).toNatClampNeg).toNatClampNeg = (S.2 31 ((S.1 6).toNatClampNeg - 1)).toNatClampNeg
    have c : (S.1 6 - 1).toNatClampNeg = (S.1 6).toNatClampNeg - 1 := by omega
    rw [c]
  have td : 1 ≤ (S.1 6).toInt → S.1 36 = 0 := fun hp => Classical.byContradiction (fun z => by have := t1' z; omega)
  refine ⟨⟨?_, ?_, h.2.2⟩, rfl, Or.inl rfl⟩
  · refine (h.1.up (show N ≤ N + 1 by omega)).xfer 1 0 (S.1 6).toNatClampNeg (by omega) (by omega) (by omega) k6 rfl ⟨rfl, rfl, rfl, rfl, rfl⟩ rfl ?_ ?_ ?_ ?_ (fun t => absurd True.intro t) ?_ ?_ ?_ ?_ (fun _ _ => True.intro) ?_ ?_ ?_
    · intro g i a c
      refine ww _ (fun z => ?_)
      have d := h.1.d a ld z
      exact c d.1 d.2
    · exact i0
    · show (S.1 6 + S.1 35).toInt = _
      omega
    · show (S.1 6 + S.1 35).toInt ≤ 9
      omega
    · intro g q a b
      rcases g with _ | _ | p
      · exact absurd rfl b
      · exact absurd rfl a
      · exact ⟨rfl, Iff.rfl, fun i c => rfl⟩
    · intro i c
      exact q3 i (by omega)
    · intro i c
      exact q2 i (by omega) c
    · intro c _ _
      by_cases z : S.1 36 = 0
      · refine Classical.byContradiction (fun y => ?_)
        have := (t0 z).2.2.1 y
        omega
      · exact h.1.2.2.2.1 1 ld z
    · intro c
      have := one_n h hd (td (by omega))
      omega
    · intro c _
      have hp : 1 ≤ (S.1 6).toInt := by omega
      have z := td hp
      obtain ⟨v1, v2, v3, v4, v5, v6, v7⟩ := t0 z
      rw [tp hp] at v4 v5 v6
      rw [tp hp] at wt
      refine ⟨fun y => ?_, fun y => ?_, fun y => (v5 y).1, v6⟩
      · have := iEq.mp (v2 y)
        rw [i0] at this
        omega
      · have v := v4 y
        exact ⟨wt z y v.1, v.2.1, v.2.2⟩
    · intro c _ y
      have hp : 1 ≤ (S.1 6).toInt := by omega
      have z := td hp
      obtain ⟨v1, v2, v3, v4, v5, v6, v7⟩ := t0 z
      have v := (v5 y).2 (by omega)
      rw [tp hp] at v
      exact v
  · have np : ¬ wD (sI (sI (sI (sR (sM S w w') 31 u) 6 (S.1 6 + S.1 35)) 35 0) 5 (-1)) := fun q => by
      have c : 0 < (0 : Int32).toInt := q.1
      rw [i0] at c
      omega
    refine ⟨fun q => ?_, fun q => absurd q.2 np⟩
    obtain ⟨i, a, b⟩ := q.resolve_right np
    show ∃ p, p < 8 ∧ S.2 34 p = 0
    have a2 : (i : Int) < (S.1 6 + S.1 35).toInt := a.2
    by_cases z : S.1 36 = 0
    · have n := one_n h hd z
      by_cases c : i < (S.1 6).toNatClampNeg
      · refine h.2.1.1 (Or.inl ⟨i, ⟨by omega, by show (i : Int) < (S.1 6).toInt; omega⟩, ?_⟩)
        have m : (u i).toNatClampNeg = hM S 0 i := by rw [q3 i (by omega)]; rfl
        rw [← m]
        exact b
      · have c : i = (S.1 6).toNatClampNeg + 0 := by omega
        have m : (u i).toNatClampNeg = hM S 1 0 := by
          rw [c, q2 0 (by omega) (by omega)]
          rfl
        refine (t0 z).2.2.2.2.2.2 ?_
        rw [← m]
        exact b
    · exact h.2.1.1 (Or.inr ⟨by omega, z⟩)
