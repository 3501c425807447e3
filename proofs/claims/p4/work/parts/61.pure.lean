/-! ===== what is carried ===== -/
/-- what carried leaves -/
def CO (N : Int) (S r : HS) : Prop := HI N r ∧ r.1 7 = S.1 7 ∧ r.1 8 = S.1 8
theorem main_l (x1 x2 : Int32) : ∀ (n : Nat) (S : HS) (x : Int32), (S.2 19 x1.toNatClampNeg).toInt ≤ 400 → 0 ≤ x.toInt → x.toInt ≤ 400 → 400 - x.toInt < n → ∃ u, (lp_X11_carried_70 n S x1 x2 x).2 = (f_X11_goes (sR S 38 u)).2 := by
  intro n
  induction n with
  | zero => intro S x h4 h1 h2 h3; omega
  | succ n ih =>
    intro S x h4 h1 h2 h3
    rw [lp_X11_carried_70]
    unfold st_X11_carried_70
    by_cases c : S.2 19 x1.toNatClampNeg ≤ x
    · rw [if_pos c]
      refine ⟨S.2 38, ?_⟩
      rw [sR_id]
      rfl
    · rw [if_neg c]
      have c := mt iLe.mpr c
      have e := iAdd (x := x) (y := 1) (by rw [i1]; omega) (by rw [i1]; omega)
      rw [i1] at e
      obtain ⟨u, q⟩ := ih (sA S 38 x.toNatClampNeg (S.2 28 ((400 * x1) + x).toNatClampNeg)) (x + 1) h4 (by omega) (by omega) (by omega)
      rw [sR_sA] at q
      exact ⟨u, q⟩
theorem adj_l (x1 x2 : Int32) : ∀ (n : Nat) (S : HS) (x : Int32), 0 ≤ x.toInt → x.toInt ≤ 200 → (S.1 0).toInt ≤ 200 → 200 - x.toInt < n → ∃ u, (lp_X11_carried_157 n S x1 x2 x).2 = sI (sR S 11 u) 1 0 := by
  intro n
  induction n with
  | zero => intro S x h1 h2 h4 h3; omega
  | succ n ih =>
    intro S x h1 h2 h4 h3
    rw [lp_X11_carried_157]
    unfold st_X11_carried_157
    by_cases c : S.1 0 ≤ x
    · rw [if_pos c]
      refine ⟨S.2 11, ?_⟩
      rw [sR_id]
      rfl
    · rw [if_neg c]
      have c := mt iLe.mpr c
      have e := iAdd (x := x) (y := 1) (by rw [i1]; omega) (by rw [i1]; omega)
      rw [i1] at e
      obtain ⟨u, q⟩ := ih (sA S 11 x.toNatClampNeg 0) (x + 1) (by omega) (by omega) h4 (by omega)
      rw [sR_sA] at q
      exact ⟨u, q⟩
theorem table_l {x3 : Int32} (hx : 0 ≤ x3.toInt ∧ x3.toInt ≤ 7) (x1 x2 : Int32) : ∀ (n : Nat) (S : HS) (x : Int32), (S.1 6).toInt ≤ 9 → 0 ≤ x.toInt → x.toInt ≤ (S.1 6).toInt → (S.1 6).toInt - x.toInt < n →
    ∃ u, (lp_X11_carried_198 n S x1 x2 x3 x).2 = sI (sA (sA (sR S 33 u) 34 x3.toNatClampNeg (S.1 6)) 37 x3.toNatClampNeg 1) 6 0 ∧ (∀ i : Nat, x.toInt ≤ i → (i : Int) < (S.1 6).toInt → u (9 * x3.toNatClampNeg + i) = S.2 31 i) ∧ (∀ j : Nat, (j : Int) < 9 * x3.toInt + x.toInt ∨ 9 * x3.toInt + (S.1 6).toInt ≤ j → u j = S.2 33 j) := by
  intro n
  induction n with
  | zero => intro S x h9 h1 h2 h3; omega
  | succ n ih =>
    intro S x h9 h1 h2 h3
    rw [lp_X11_carried_198]
    unfold st_X11_carried_198
    by_cases c : S.1 6 ≤ x
    · rw [if_pos c]
      have c := iLe.mp c
      refine ⟨S.2 33, ?_, fun i a b => by omega, fun j _ => rfl⟩
      rw [sR_id]
      rfl
    · rw [if_neg c]
      have c := mt iLe.mpr c
      have e := iAdd (x := x) (y := 1) (by rw [i1]; omega) (by rw [i1]; omega)
      rw [i1] at e
      have k := iNat h1
      have k1 := iNat hx.1
      have cc := c9 hx h1 (by omega)
      obtain ⟨u, q1, q2, q3⟩ := ih (sA S 33 (9 * x3.toNatClampNeg + x.toNatClampNeg) (S.2 31 x.toNatClampNeg)) (x + 1) h9 (by omega) (by show _ ≤ (S.1 6).toInt; omega) (by show (S.1 6).toInt - _ < _; omega)
      rw [sR_sA] at q1
      have q3 : ∀ j : Nat, (j : Int) < 9 * x3.toInt + (x + 1).toInt ∨ 9 * x3.toInt + (S.1 6).toInt ≤ j → u j = upd (S.2 33) (9 * x3.toNatClampNeg + x.toNatClampNeg) (S.2 31 x.toNatClampNeg) j := q3
      refine ⟨u, ?_, fun i a b => ?_, fun j z => ?_⟩
      · rw [cc]
        exact q1
      · by_cases y : i = x.toNatClampNeg
        · subst y
          rw [q3 (9 * x3.toNatClampNeg + x.toNatClampNeg) (by omega)]
          exact upd_eq
        · exact q2 i (by omega) b
      · rw [q3 j (by omega)]
        exact upd_ne (by omega)
/-- the top, by its place -/
theorem top_m {S : HS} (hp : 1 ≤ (S.1 6).toInt) : (f_X11_top S).1.toNatClampNeg = hM S 0 ((S.1 6).toNatClampNeg - 1) := by
  have e := topN hp
  have k := iNat (x := S.1 6) (by omega)
  have c : (S.1 6 - 1).toNatClampNeg = (S.1 6).toNatClampNeg - 1 := by omega
  show (S.2 31 (S.1 6 - 1).toNatClampNeg).toNatClampNeg = (S.2 31 ((S.1 6).toNatClampNeg - 1)).toNatClampNeg
  rw [c]
/-- who is not a MAIN stands above another one -/
theorem two_p {N : Int} {S : HS} (h : HI N S) (hp : 1 ≤ (S.1 6).toInt) (k : S.2 14 (f_X11_top S).1.toNatClampNeg ≠ 1) : 2 ≤ (S.1 6).toInt := by
  refine Classical.byContradiction (fun z => k ?_)
  rw [top_m hp]
  have n := iNat (x := S.1 6) (by omega)
  have e : (S.1 6).toNatClampNeg - 1 = 0 := by omega
  rw [e]
  exact h.1.2.2.2.1 0 ⟨by omega, by show ((0 : Nat) : Int) < (S.1 6).toInt; omega⟩ True.intro
theorem car_1 {N : Int} {S : HS} (h : HI N S) (hp : 1 ≤ (S.1 6).toInt) (x2 : Int32) (y : Int32) :
    lq_X11_carried_70 100000 (sI (sI S 9 y) 39 (S.2 19 (f_X11_top S).1.toNatClampNeg)) (f_X11_top S).1 x2 0 ∧ CO N S (lp_X11_carried_70 100000 (sI (sI S 9 y) 39 (S.2 19 (f_X11_top S).1.toNatClampNeg)) (f_X11_top S).1 x2 0).2 := by
  have t := top_in h.ra hp
  have k := iNat (x := S.1 6) (by omega)
  have w := (h.1.2.2.2.2.1 0 ((S.1 6).toNatClampNeg - 1) ⟨by omega, by show _ < (S.1 6).toInt; omega⟩).2.1
  rw [← top_m hp] at w
  have h' : HI N (sI (sI S 9 y) 39 (S.2 19 (f_X11_top S).1.toNatClampNeg)) := ⟨h.1, h.2.1, h.2.2.1, ⟨by show -1 ≤ (S.2 19 (f_X11_top S).1.toNatClampNeg).toInt; omega, by show (S.2 19 (f_X11_top S).1.toNatClampNeg).toInt ≤ 400; omega⟩, h.2.2.2.2⟩
  refine ⟨main_q t x2 100000 _ 0 h'.ra hp w.2 (by rw [i0]; omega) (by rw [i0]; omega) (by rw [i0]; omega), ?_⟩
  obtain ⟨u, q⟩ := main_l (f_X11_top S).1 x2 100000 (sI (sI S 9 y) 39 (S.2 19 (f_X11_top S).1.toNatClampNeg)) 0 w.2 (by rw [i0]; omega) (by rw [i0]; omega) (by rw [i0]; omega)
  rw [q]
  exact ⟨goes_i (S := sR (sI (sI S 9 y) 39 (S.2 19 (f_X11_top S).1.toNatClampNeg)) 38 u) h' hp, rfl, rfl⟩
theorem hi_24 {N : Int} {S : HS} (h : HI N S) (i : Nat) (v : Int32) : HI N (sA S 24 i v) := h
theorem car_6 {N : Int} {S : HS} (h : HI N S) (hp : 2 ≤ (S.1 6).toInt) (x1 x2 : Int32) :
    (p_X11_goes S ∧ q_X11_carried_a138 (f_X11_goes S).2 x1 x2) ∧ CO N S (b_X11_carried_a138 (f_X11_goes S).2 x1 x2).2 := by
  have g := goes_i h (by omega)
  have e := topN (S := S) (by omega)
  have hp' : 1 ≤ ((f_X11_goes S).2.1 6).toInt := by
    rw [goes_e]
    show 1 ≤ (S.1 6 - 1).toInt
    omega
  have t := top_in g.ra hp'
  exact ⟨⟨goes_p h.ra (by omega), top_p g.ra hp', vIn t.1 t.2, True.intro⟩, hi_24 g _ _, rfl, rfl⟩
theorem car_8 {N : Int} {S : HS} (h : HI N S) (hp : 1 ≤ (S.1 6).toInt) (x1 x2 : Int32) :
    (p_X11_goes S ∧ q_X11_carried_a155 (f_X11_goes S).2 x1 x2) ∧ CO N S (b_X11_carried_a155 (f_X11_goes S).2 x1 x2).2 := by
  have g := goes_i h hp
  have s := h.2.2.1
  unfold q_X11_carried_a155 b_X11_carried_a155
  refine ⟨⟨goes_p h.ra hp, adj_q x1 x2 100000 _ 0 s.2 (by rw [i0]; omega) (by rw [i0]; show 0 ≤ (S.1 0).toInt; omega) (by rw [i0]; show (S.1 0).toInt - 0 < _; omega)⟩, ?_⟩
  obtain ⟨u, q⟩ := adj_l x1 x2 100000 (f_X11_goes S).2 0 (by rw [i0]; omega) (by rw [i0]; omega) s.2 (by rw [i0]; omega)
  rw [q]
  exact ⟨g, rfl, rfl⟩
/-- the places that what is carried needs -/
def pF (S : HS) : Prop := (∃ p, p < 8 ∧ S.2 34 p = 0) ∧ (wD S → ∃ p q, p < 8 ∧ q < 8 ∧ p ≠ q ∧ S.2 34 p = 0 ∧ S.2 34 q = 0)
theorem hG.pf {S : HS} (h : hG S) (q : wP S) : pF S := ⟨h.1 (Or.inl q), fun r => h.2 ⟨q, r⟩⟩
theorem pF.other {S : HS} (h : pF S) (q : wD S) (y : Nat) : ∃ p, p < 8 ∧ p ≠ y ∧ S.2 34 p = 0 := by
  obtain ⟨p, r, a, b, c, d, e⟩ := h.2 q
  by_cases z : p = y
  · exact ⟨r, b, fun w => c (z.trans w.symm), e⟩
  · exact ⟨p, a, z, d⟩
theorem pF.goes {S : HS} (h : pF S) : pF (f_X11_goes S).2 := by
  rw [goes_e]
  exact ⟨h.1, h.2⟩
/-- the row 0 put upon the desk -/
def tD (T : HS) (u : Nat → Int32) (p : Nat) (v z : Int32) : HS := sI (sA (sA (sR T 33 u) 34 p (T.1 6)) 37 p v) 6 z
theorem tD_z {T : HS} {u : Nat → Int32} {p : Nat} {v z : Int32} (h : hZ T) (hv : v = 0 ∨ v = 1) : hZ (tD T u p v z) := by
  refine ⟨h.1, h.2.1, h.2.2.1, fun r c => ?_⟩
  show upd (T.2 37) p v r = 0 ∨ upd (T.2 37) p v r = 1
  unfold upd
  split
  · exact hv
  · exact h.2.2.2 r c
theorem tD_f {T : HS} {u : Nat → Int32} {p : Nat} {v z : Int32} (h : pF T) (hz : z.toInt = 0) : hG (tD T u p v z) := by
  have nw : ¬ wP (tD T u p v z) := fun ⟨i, a, b⟩ => by
    have c : (i : Int) < z.toInt := a.2
    omega
  refine ⟨fun q => ?_, fun q => absurd q.1 nw⟩
  obtain ⟨r, r1, r2, r3⟩ := h.other (q.resolve_left nw) p
  exact ⟨r, r1, by show upd (T.2 34) p (T.1 6) r = 0; rw [upd_ne r2]; exact r3⟩
theorem tD_c {N : Int} {T : HS} {u : Nat → Int32} {p : Nat} {v z : Int32} (g : HC N T) (hp : p < 8) (hf : T.2 34 p = 0) (hz : z.toInt = 0) (hv : v = 0 → (T.1 6).toInt ≤ 1)
    (q2 : ∀ i : Nat, (i : Int) < (T.1 6).toInt → u (9 * p + i) = T.2 31 i) (q3 : ∀ j : Nat, (j : Int) < 9 * p ∨ 9 * (p : Int) + (T.1 6).toInt ≤ j → u j = T.2 33 j) : HC N (tD T u p v z) := by
  have n0 := g.1 0 (by omega)
  have e0 : hN T 0 = (T.1 6).toInt := rfl
  have f20 : hN T (p + 2) = 0 := by
    show (T.2 34 p).toInt = 0
    rw [hf, i0]
  have nd' : hN (tD T u p v z) (p + 2) = (T.1 6).toInt := by
    show (upd (T.2 34) p (T.1 6) p).toInt = _
    rw [upd_eq]
  have td : hT (tD T u p v z) (p + 2) ↔ v ≠ 0 := by
    show upd (T.2 37) p v p ≠ 0 ↔ _
    rw [upd_eq]
  refine g.xfer 0 (p + 2) 0 (by omega) (by omega) (by omega) (by omega) rfl ⟨rfl, rfl, rfl, rfl, rfl⟩ rfl (fun _ _ _ _ => rfl) hz ?_ ?_ (fun t => ?_) ?_ (fun i c => absurd c (by omega)) ?_ ?_ (fun c => absurd c (by omega)) (fun c => absurd c (by omega)) (fun c => absurd c (by omega)) (fun c => absurd c (by omega))
  · rw [nd']; omega
  · rw [nd']; omega
  · rw [nd']
    exact hv (Classical.byContradiction (fun y => t (td.mpr y)))
  · intro g' q a b
    rcases g' with _ | _ | r
    · exact absurd rfl a
    · exact ⟨rfl, Iff.rfl, fun i c => rfl⟩
    · have ne : r ≠ p := fun y => b (by rw [y])
      have np := g.1 (r + 2) q
      refine ⟨?_, ?_, fun i c => ?_⟩
      · show (upd (T.2 34) p (T.1 6) r).toInt = (T.2 34 r).toInt
        rw [upd_ne ne]
      · show upd (T.2 37) p v r ≠ 0 ↔ T.2 37 r ≠ 0
        rw [upd_ne ne]
      · have c : (i : Int) < hN T (r + 2) := c
        exact q3 (9 * r + i) (by omega)
  · intro i c
    rw [e0] at c
    rw [Nat.zero_add]
    exact q2 i c
  · intro _ c t
    exact g.2.2.2.1 0 ⟨by omega, c⟩ True.intro
theorem a190_i {N : Int} {T : HS} (g : HI N T) (hf' : pF T) (x1 x2 : Int32) : q_X11_carried_a190 T x1 x2 ∧ CO N T (b_X11_carried_a190 T x1 x2).2 := by
  obtain ⟨fs, f1, f2⟩ := free_i hf'.1
  unfold q_X11_carried_a190 b_X11_carried_a190
  rw [fs]
  have n0 := g.1.1 0 (by omega)
  have e0 : hN T 0 = (T.1 6).toInt := rfl
  unfold q_X11_carried_a194 b_X11_carried_a194
  refine ⟨⟨free_p T, table_q f1 x1 x2 100000 T 0 (by omega) (by rw [i0]; omega) (by rw [i0]; omega) (by rw [i0]; omega)⟩, ?_⟩
  generalize (f_X11_free T).1 = p at f1 f2
  have k1 := iNat f1.1
  obtain ⟨u, q1, q2, q3⟩ := table_l f1 x1 x2 100000 T 0 (by omega) (by rw [i0]; omega) (by rw [i0]; omega) (by rw [i0]; omega)
  rw [i0] at q2 q3
  rw [q1]
  exact ⟨⟨tD_c g.1 (by omega) f2 i0 (fun y => absurd y (by decide)) (fun i a => q2 i (by omega) a) (fun j a => q3 j (by omega)), tD_f hf' i0, tD_z g.2.2 (Or.inr rfl)⟩, rfl, rfl⟩
theorem car_7 {N : Int} {S : HS} (h : HI N S) (hp : 1 ≤ (S.1 6).toInt) (hf : pF S) (x1 x2 : Int32) :
    (p_X11_goes S ∧ q_X11_carried_a190 (f_X11_goes S).2 x1 x2) ∧ CO N S (b_X11_carried_a190 (f_X11_goes S).2 x1 x2).2 := by
  have a := a190_i (goes_i h hp) hf.goes x1 x2
  have g7 : (f_X11_goes S).2.1 7 = S.1 7 := by rw [goes_e]; rfl
  have g8 : (f_X11_goes S).2.1 8 = S.1 8 := by rw [goes_e]; rfl
  exact ⟨⟨goes_p h.ra hp, a.1⟩, a.2.1, a.2.2.1.trans g7, a.2.2.2.trans g8⟩
