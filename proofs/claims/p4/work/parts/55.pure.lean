/-! ===== a Hall's invariant, whole ===== -/
theorem upd_ne {f : Nat → Int32} {k x : Nat} {v : Int32} (h : x ≠ k) : upd f k v x = f x := by
  unfold upd
  rw [if_neg h]
theorem upd_eq {f : Nat → Int32} {k : Nat} {v : Int32} : upd f k v k = v := by
  unfold upd
  rw [if_pos rfl]
theorem vb0 : vp_nar .boolean 0 = 0 := rfl
theorem vb1 : vp_nar .boolean 1 = 1 := rfl
theorem sR_sA (S : HS) (k i : Nat) (v : Int32) (u : Nat → Int32) : sR (sA S k i v) k u = sR S k u := by
  unfold sR sA
  refine Prod.ext rfl ?_
  funext j
  dsimp only
  by_cases h : j = k
  · rw [if_pos h, if_pos h]
  · rw [if_neg h, if_neg h, if_neg h]
theorem sR_id (S : HS) (k : Nat) : sR S k (S.2 k) = S := by
  unfold sR
  refine Prod.ext rfl ?_
  funext j
  dsimp only
  by_cases h : j = k
  · rw [if_pos h, h]
  · rw [if_neg h]
theorem sA_sR (S : HS) (k i : Nat) (v : Int32) : sA S k i v = sR S k (upd (S.2 k) i v) := rfl
/-- a PENDING motion that will want a place on the desk -/
def wP (S : HS) : Prop := ∃ i, hL S 0 i ∧ (S.2 14 (hM S 0 i) = 4 ∨ S.2 14 (hM S 0 i) = 5 ∨ S.2 14 (hM S 0 i) = 7)
def wD (S : HS) : Prop := 0 < hN S 1 ∧ hT S 1
def hG (S : HS) : Prop := (wP S ∨ wD S → ∃ p, p < 8 ∧ S.2 34 p = 0) ∧ (wP S ∧ wD S → ∃ p q, p < 8 ∧ q < 8 ∧ p ≠ q ∧ S.2 34 p = 0 ∧ S.2 34 q = 0)
def hZ (S : HS) : Prop := (1 ≤ (S.1 0).toInt ∧ (S.1 0).toInt ≤ 200) ∧ (-1 ≤ (S.1 39).toInt ∧ (S.1 39).toInt ≤ 400) ∧ (S.1 36 = 0 ∨ S.1 36 = 1) ∧ (∀ p, p < 8 → S.2 37 p = 0 ∨ S.2 37 p = 1)
def HI (N : Int) (S : HS) : Prop := HC N S ∧ hG S ∧ hZ S
theorem HI.up {N M : Int} {S : HS} (h : HI N S) (q : N ≤ M) : HI M S := ⟨h.1.up q, h.2⟩
/-- what an act leaves -/
def DO (N : Int) (S r : HS) : Prop := HI N r ∧ r.1 7 = S.1 7 ∧ (r.1 8 = S.1 8 ∨ r.1 8 = S.1 8 + 1)
theorem hG.mono {S S' : HS} (h : hG S) (e : S'.2 34 = S.2 34) (a : wP S' → wP S) (b : wD S' → wD S) : hG S' := by
  unfold hG
  rw [e]
  exact ⟨fun q => h.1 (q.elim (fun q => Or.inl (a q)) (fun q => Or.inr (b q))), fun q => h.2 ⟨a q.1, b q.2⟩⟩
theorem HI.ra {N : Int} {S : HS} (h : HI N S) : RA S := by
  have a := h.1.1 0 (by omega)
  have b := h.1.1 1 (by omega)
  refine ⟨h.2.2.1, ⟨a.1, a.2.1⟩, ⟨b.1, b.2.1⟩, fun i q => ?_, fun i q => ?_⟩
  · have v := h.1.2.1 0 i ⟨by omega, q⟩
    exact ⟨v.1, v.2.1⟩
  · have v := h.1.2.1 1 i ⟨by omega, q⟩
    exact ⟨v.1, v.2.1⟩
theorem HI.rk {N : Int} {S : HS} (h : HI N S) : RK S := fun q => h.1.2.2.2.1 0 ⟨by omega, by show ((0 : Nat) : Int) < (S.1 6).toInt; omega⟩ True.intro
/-! ===== the top goes ===== -/
theorem goes_e (S : HS) : (f_X11_goes S).2 = sI (sA S 13 (S.2 31 (S.1 6 - 1).toNatClampNeg).toNatClampNeg 0) 6 (S.1 6 - 1) := rfl
theorem topN {S : HS} (hp : 1 ≤ (S.1 6).toInt) : ((S.1 6 - 1).toInt = (S.1 6).toInt - 1) ∧ (((S.1 6 - 1).toNatClampNeg : Int) = (S.1 6).toInt - 1) := by
  have e := iSub (x := S.1 6) (y := 1) (by rw [i1]; omega) (by rw [i1]; have := Int32.toInt_lt (S.1 6); omega)
  rw [i1] at e
  exact ⟨e, by rw [iNat (by omega), e]⟩
theorem goes_c {N : Int} {S : HS} (h : HC N S) (hp : 1 ≤ (S.1 6).toInt) : HC N (f_X11_goes S).2 := by
  have e := topN hp
  rw [goes_e]
  have l0 : hL S 0 (S.1 6 - 1).toNatClampNeg := ⟨by omega, by show _ < (S.1 6).toInt; omega⟩
  refine h.pop 0 rfl ⟨rfl, rfl, rfl, rfl, rfl⟩ rfl ?_ ?_ ?_ ?_ ?_ ?_
  · show 0 ≤ (S.1 6 - 1).toInt ∧ (S.1 6 - 1).toInt ≤ (S.1 6).toInt
    omega
  · intro g q z
    rcases g with _ | _ | p
    · exact absurd rfl z
    · rfl
    · rfl
  · intro g i a
    rcases g with _ | _ | p
    · rfl
    · rfl
    · rfl
  · intro g q
    rcases g with _ | _ | p
    · exact Iff.rfl
    · exact Iff.rfl
    · exact Iff.rfl
  · intro i a b
    have b2 : ¬ ((i : Int) < (S.1 6 - 1).toInt) := fun c => b ⟨by omega, c⟩
    have a2 : (i : Int) < (S.1 6).toInt := a.2
    have ei : i = (S.1 6 - 1).toNatClampNeg := by omega
    subst ei
    exact upd_eq
  · intro m q z
    refine upd_ne (fun y => z _ l0 (fun c => ?_) ?_)
    · have c2 : (((S.1 6 - 1).toNatClampNeg : Nat) : Int) < (S.1 6 - 1).toInt := c.2
      omega
    · rw [y]
      rfl
theorem goes_f {S : HS} (h : hG S) (hp : 1 ≤ (S.1 6).toInt) : hG (f_X11_goes S).2 := by
  have e := topN hp
  rw [goes_e]
  refine h.mono rfl (fun ⟨i, a, b⟩ => ⟨i, ⟨a.1, ?_⟩, b⟩) (fun q => q)
  have a2 : (i : Int) < (S.1 6 - 1).toInt := a.2
  show (i : Int) < (S.1 6).toInt
  omega
theorem goes_i {N : Int} {S : HS} (h : HI N S) (hp : 1 ≤ (S.1 6).toInt) : HI N (f_X11_goes S).2 := ⟨goes_c h.1 hp, goes_f h.2.1 hp, h.2.2⟩
/-! ===== the draft is dropped ===== -/
theorem dropDraft_l : ∀ (n : Nat) (S : HS) (x : Int32), 0 ≤ x.toInt → x.toInt ≤ (S.1 35).toInt → (S.1 35).toInt ≤ 9 → (S.1 35).toInt - x.toInt < n →
    ∃ u, (lp_X11_dropDraft_2 n S x).2 = sI (sR S 13 u) 35 0 ∧ (∀ i : Nat, x.toInt ≤ i → (i : Int) < (S.1 35).toInt → u (S.2 32 i).toNatClampNeg = 0) ∧ (∀ m, (∀ i : Nat, x.toInt ≤ i → (i : Int) < (S.1 35).toInt → (S.2 32 i).toNatClampNeg ≠ m) → u m = S.2 13 m) ∧ (∀ m, S.2 13 m = 0 → u m = 0) := by
  intro n
  induction n with
  | zero => intro S x h1 h2 h9 h3; omega
  | succ n ih =>
    intro S x h1 h2 h9 h3
    rw [lp_X11_dropDraft_2]
    unfold st_X11_dropDraft_2
    by_cases c : S.1 35 ≤ x
    · rw [if_pos c]
      have c := iLe.mp c
      exact ⟨S.2 13, by rw [sR_id], fun i a b => by omega, fun m _ => rfl, fun m z => z⟩
    · rw [if_neg c]
      have c := mt iLe.mpr c
      have e := iAdd (x := x) (y := 1) (by rw [i1]; omega) (by rw [i1]; omega)
      rw [i1] at e
      have k := iNat h1
      obtain ⟨u, q1, q2, q3, q4⟩ := ih (sA S 13 (S.2 32 x.toNatClampNeg).toNatClampNeg 0) (x + 1) (by omega) (by show _ ≤ (S.1 35).toInt; omega) h9 (by show (S.1 35).toInt - _ < _; omega)
      refine ⟨u, ?_, fun i a b => ?_, fun m z => ?_, fun m z => ?_⟩
      · rw [sR_sA] at q1
        exact q1
      · by_cases y : i = x.toNatClampNeg
        · subst y
          exact q4 _ upd_eq
        · exact q2 i (by omega) b
      · rw [q3 m (fun i a b => z i (by omega) b)]
        exact upd_ne (fun y => z x.toNatClampNeg (by omega) (by omega) y.symm)
      · refine q4 m ?_
        show upd (S.2 13) (S.2 32 x.toNatClampNeg).toNatClampNeg 0 m = 0
        unfold upd
        split
        · rfl
        · exact z
theorem dropDraft_e {N : Int} {S : HS} (h : HC N S) : ∃ u, (f_X11_dropDraft S).2 = sI (sR S 13 u) 35 0 ∧ (∀ i, hL S 1 i → u (hM S 1 i) = 0) ∧ (∀ m, (∀ i, hL S 1 i → hM S 1 i ≠ m) → u m = S.2 13 m) := by
  have a := h.1 1 (by omega)
  have a1 : 0 ≤ (S.1 35).toInt := a.1
  have a2 : (S.1 35).toInt ≤ 9 := a.2.1
  obtain ⟨u, q1, q2, q3, q4⟩ := dropDraft_l 100000 S 0 (by rw [i0]; omega) (by rw [i0]; omega) a2 (by rw [i0]; omega)
  rw [i0] at q2 q3
  exact ⟨u, q1, fun i b => q2 i (by omega) b.2, fun m z => q3 m (fun i _ c => z i ⟨by omega, c⟩)⟩
theorem dropDraft_i {N : Int} {S : HS} (h : HI N S) : HI N (f_X11_dropDraft S).2 ∧ ((f_X11_dropDraft S).2.1 35 = 0) ∧ (f_X11_dropDraft S).2.1 6 = S.1 6 ∧ (f_X11_dropDraft S).2.1 7 = S.1 7 ∧ (f_X11_dropDraft S).2.1 8 = S.1 8 := by
  obtain ⟨u, q1, q2, q3⟩ := dropDraft_e h.1
  rw [q1]
  refine ⟨⟨h.1.pop 1 rfl ⟨rfl, rfl, rfl, rfl, rfl⟩ rfl ?_ ?_ ?_ ?_ ?_ ?_, h.2.1.mono rfl (fun q => q) ?_, h.2.2⟩, rfl, rfl, rfl, rfl⟩
  · have a := h.1.1 1 (by omega)
    exact ⟨by show (0 : Int) ≤ (0 : Int32).toInt; rw [i0]; omega, by show (0 : Int32).toInt ≤ _; rw [i0]; exact a.1⟩
  · intro g q z
    rcases g with _ | _ | p
    · rfl
    · exact absurd rfl z
    · rfl
  · intro g i a
    rcases g with _ | _ | p
    · rfl
    · rfl
    · rfl
  · intro g q
    rcases g with _ | _ | p
    · exact Iff.rfl
    · exact Iff.rfl
    · exact Iff.rfl
  · intro i a b
    exact q2 i a
  · intro m q z
    refine q3 m (fun i a => z i a (fun c => ?_))
    have c2 : (i : Int) < (0 : Int32).toInt := c.2
    rw [i0] at c2
    omega
  · intro q
    have c2 : 0 < (0 : Int32).toInt := q.1
    rw [i0] at c2
    omega
