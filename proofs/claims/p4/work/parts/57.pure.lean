/-! ===== the acts, one by one: safe, and the invariant is kept ===== -/
theorem DO.of {N : Int} {S r : HS} (h : HI N r) (a : r.1 7 = S.1 7) (b : r.1 8 = S.1 8) : DO N S r := ⟨h, a, Or.inl b⟩
theorem d_17 {N : Int} {S : HS} (h : HI N S) (hp : 1 ≤ (S.1 6).toInt) {x2 : Int32} (hx : vp_in x2 200) (x1 x3 x4 x5 : Int32) :
    (p_X11_top S ∧ q_X11_does_a413 (f_X11_top S).2 x1 x2 x3 x4 x5 (f_X11_top S).1 200) ∧ DO (N + 1) S (b_X11_does_a413 (f_X11_top S).2 x1 x2 x3 x4 x5 (f_X11_top S).1 200).2 := by
  have t := top_in h.ra hp
  have x := vp_in_iff.mp hx
  refine ⟨⟨top_p h.ra hp, bal_in t ⟨x.1, by omega⟩, top_p (S := sA S 29 _ _) h.ra hp, voters_p (S := sA S 29 _ _) h.ra t, True.intro⟩, ?_⟩
  have hv' : ∀ (T : HS) (y : Int32), (f_X11_voters T y).2 = T := by
    have key : ∀ (n : Nat) (S : HS) (x1 x2 x3 : Int32), (lp_X11_voters_4 n S x1 x2 x3).2 = S := by
      intro n
      induction n with
      | zero => intro S x1 x2 x3; rfl
      | succ n ih =>
        intro S x1 x2 x3
        rw [lp_X11_voters_4]
        unfold st_X11_voters_4
        by_cases c : S.1 0 ≤ x3
        · rw [if_pos c]
        · rw [if_neg c]
          by_cases z : 2 ≤ (S.2 29 ((200 * x1) + x3).toNatClampNeg)
          · rw [if_pos z]
            exact ih _ _ _ _
          · rw [if_neg z]
            exact ih _ _ _ _
    exact fun T y => key 100000 T y 0 0
  show DO (N + 1) S (f_X11_voters (sA S 29 _ _) _).2
  rw [hv']
  exact DO.of (h.up (by omega)) rfl rfl
theorem d_10 {N : Int} {S : HS} (h : HI N S) (hN0 : 0 ≤ N) (hN6 : N ≤ 1000000) {x2 : Int32} (hx : 1 ≤ x2.toInt ∧ x2.toInt ≤ 8) (x1 x3 x4 x5 : Int32) :
    (p_X11_dropDraft S ∧ q_X11_does_a287 (f_X11_dropDraft S).2 x1 x2 x3 x4 x5) ∧ DO (N + 1) S (b_X11_does_a287 (f_X11_dropDraft S).2 x1 x2 x3 x4 x5).2 := by
  obtain ⟨d1, d2, d3, d4, d5⟩ := dropDraft_i h
  generalize (f_X11_dropDraft S).2 = D at d1 d2 d3 d4 d5
  have n1 : hN D 1 = 0 := by show (D.1 35).toInt = 0; rw [d2, i0]
  have fr := slot_free d1.1 1 (by omega) (by omega)
  obtain ⟨z, u, z1, z2, z3⟩ := newSlot_e x2 fr
  have zn := iNat z1.1
  refine ⟨⟨dropDraft_p h.ra, newSlot_p x2 fr, vIn (by rw [i0]; omega) (by rw [i0]; omega), True.intro⟩, ?_⟩
  unfold b_X11_does_a287
  rw [z3]
  refine ⟨⟨?_, ?_, ?_⟩, d4, Or.inl d5⟩
  · refine d1.1.push 1 0 z.toNatClampNeg hN0 hN6 (by omega) n1.symm z2 rfl upd_eq (fun x a b => ⟨upd_ne b, upd_ne b, upd_ne b, upd_ne b, upd_ne b, upd_ne b, upd_ne b⟩) ?_ ?_ ?_ (by omega) ?_ ?_ ?_ (by omega) (fun _ => rfl) ?_ (fun q => absurd q (by omega)) (fun q => absurd q (by omega))
    · show upd (D.2 13) z.toNatClampNeg 1 z.toNatClampNeg ≠ 0
      rw [upd_eq]
      decide
    · refine ⟨?_, ?_, ?_⟩
      · show 1 ≤ (upd (D.2 14) z.toNatClampNeg x2 z.toNatClampNeg).toInt ∧ (upd (D.2 14) z.toNatClampNeg x2 z.toNatClampNeg).toInt ≤ 9
        rw [upd_eq]
        omega
      · show 0 ≤ (upd (D.2 19) z.toNatClampNeg 0 z.toNatClampNeg).toInt ∧ (upd (D.2 19) z.toNatClampNeg 0 z.toNatClampNeg).toInt ≤ 400
        rw [upd_eq, i0]
        omega
      · show 0 ≤ (upd (D.2 20) z.toNatClampNeg 0 z.toNatClampNeg).toInt ∧ (upd (D.2 20) z.toNatClampNeg 0 z.toNatClampNeg).toInt ≤ (upd (D.2 21) z.toNatClampNeg 0 z.toNatClampNeg).toInt ∧ (upd (D.2 21) z.toNatClampNeg 0 z.toNatClampNeg).toInt ≤ 400 * (N + 1 + 1)
        rw [upd_eq, upd_eq, i0]
        omega
    · show (1 : Int32).toInt = _
      rw [i1]
      rfl
    · intro g q c
      rcases g with _ | _ | p
      · exact ⟨rfl, Iff.rfl⟩
      · exact absurd rfl c
      · exact ⟨rfl, Iff.rfl⟩
    · intro g i a
      rcases g with _ | _ | p
      · rfl
      · have a2 : (i : Int) < hN D 1 := a.2
        omega
      · rfl
    · show (upd (D.2 32) 0 z 0).toInt = (z.toNatClampNeg : Int)
      rw [upd_eq, zn]
    · intro _ t
      exact absurd rfl t
  · refine d1.2.1.mono rfl ?_ (fun q => absurd rfl q.2)
    rintro ⟨i, a, b⟩
    refine ⟨i, a, ?_⟩
    have l : hL D 0 i := a
    have v := (d1.1.2.1 0 i l).2.2
    have ne : hM D 0 i ≠ z.toNatClampNeg := fun q => v (by rw [q]; exact z2)
    have e : upd (D.2 14) z.toNatClampNeg x2 (hM D 0 i) = D.2 14 (hM D 0 i) := upd_ne ne
    rw [← e]
    exact b
  · exact ⟨d1.2.2.1, d1.2.2.2.1, Or.inl rfl, d1.2.2.2.2.2⟩
theorem d_19 {N : Int} {S : HS} (h : HI N S) (hN0 : 0 ≤ N) (hN6 : N ≤ 1000000) (hp : 1 ≤ (S.1 6).toInt) (h9 : (S.1 6).toInt ≤ 8) (x1 x2 x3 x4 x5 : Int32) :
    (p_X11_newSlot S 9 ∧ q_X11_does_a443 (f_X11_newSlot S 9).2 x1 x2 x3 x4 x5 (f_X11_newSlot S 9).1) ∧ DO (N + 1) S (b_X11_does_a443 (f_X11_newSlot S 9).2 x1 x2 x3 x4 x5 (f_X11_newSlot S 9).1).2 := by
  have fr := slot_free h.1 0 (by omega) (by exact h9)
  obtain ⟨z, u, z1, z2, z3⟩ := newSlot_e 9 fr
  have zn := iNat z1.1
  have pn := iNat (x := S.1 6) (by omega)
  have e9 : (9 : Int32).toInt = 9 := by decide
  refine ⟨⟨newSlot_p 9 fr, ?_⟩, ?_⟩
  · rw [z3]
    exact ⟨vIn z1.1 z1.2, vIn (by show 0 ≤ (S.1 6).toInt; omega) (by show (S.1 6).toInt < _; omega), True.intro⟩
  rw [z3]
  refine ⟨⟨?_, ?_, ?_⟩, rfl, Or.inl rfl⟩
  · refine h.1.push 0 (S.1 6).toNatClampNeg z.toNatClampNeg hN0 hN6 (by omega) (by rw [pn]; rfl) z2 rfl upd_eq (fun x a b => ⟨upd_ne b, upd_ne b, upd_ne b, upd_ne b, upd_ne b, upd_ne b, upd_ne b⟩) ?_ ?_ ?_ (by omega) ?_ ?_ ?_ (by omega) (fun t => absurd True.intro t) (fun q => by omega) (fun _ _ => True.intro) (fun _ => upd_eq)
    · show upd (S.2 13) z.toNatClampNeg 1 z.toNatClampNeg ≠ 0
      rw [upd_eq]
      decide
    · refine ⟨?_, ?_, ?_⟩
      · show 1 ≤ (upd (S.2 14) z.toNatClampNeg 9 z.toNatClampNeg).toInt ∧ (upd (S.2 14) z.toNatClampNeg 9 z.toNatClampNeg).toInt ≤ 9
        rw [upd_eq, e9]
        omega
      · show 0 ≤ (upd (S.2 19) z.toNatClampNeg 0 z.toNatClampNeg).toInt ∧ (upd (S.2 19) z.toNatClampNeg 0 z.toNatClampNeg).toInt ≤ 400
        rw [upd_eq, i0]
        omega
      · show 0 ≤ (upd (S.2 20) z.toNatClampNeg 0 z.toNatClampNeg).toInt ∧ (upd (S.2 20) z.toNatClampNeg 0 z.toNatClampNeg).toInt ≤ (upd (S.2 21) z.toNatClampNeg 0 z.toNatClampNeg).toInt ∧ (upd (S.2 21) z.toNatClampNeg 0 z.toNatClampNeg).toInt ≤ 400 * (N + 1 + 1)
        rw [upd_eq, upd_eq, i0]
        omega
    · show (S.1 6 + 1).toInt = _
      rw [iAdd (by rw [i1]; omega) (by rw [i1]; omega), i1]
      omega
    · intro g q c
      rcases g with _ | _ | p
      · exact absurd rfl c
      · exact ⟨rfl, Iff.rfl⟩
      · exact ⟨rfl, Iff.rfl⟩
    · intro g i a
      rcases g with _ | _ | p
      · have a2 : (i : Int) < (S.1 6).toInt := a.2
        show upd (S.2 31) (S.1 6).toNatClampNeg z i = S.2 31 i
        exact upd_ne (by omega)
      · rfl
      · rfl
    · show (upd (S.2 31) (S.1 6).toNatClampNeg z (S.1 6).toNatClampNeg).toInt = (z.toNatClampNeg : Int)
      rw [upd_eq, zn]
  · refine h.2.1.mono rfl ?_ (fun q => q)
    rintro ⟨i, a, b⟩
    have a2 : (i : Int) < (S.1 6 + 1).toInt := a.2
    rw [iAdd (by rw [i1]; omega) (by rw [i1]; omega), i1] at a2
    by_cases c : i = (S.1 6).toNatClampNeg
    · subst c
      have m : (upd (S.2 31) (S.1 6).toNatClampNeg z (S.1 6).toNatClampNeg).toNatClampNeg = z.toNatClampNeg := by rw [upd_eq]
      have b' : upd (S.2 14) z.toNatClampNeg 9 (upd (S.2 31) (S.1 6).toNatClampNeg z (S.1 6).toNatClampNeg).toNatClampNeg = 4 ∨ upd (S.2 14) z.toNatClampNeg 9 (upd (S.2 31) (S.1 6).toNatClampNeg z (S.1 6).toNatClampNeg).toNatClampNeg = 5 ∨ upd (S.2 14) z.toNatClampNeg 9 (upd (S.2 31) (S.1 6).toNatClampNeg z (S.1 6).toNatClampNeg).toNatClampNeg = 7 := b
      rw [m, upd_eq] at b'
      exact absurd b' (by decide)
    · have l : hL S 0 i := ⟨by omega, by show (i : Int) < (S.1 6).toInt; omega⟩
      refine ⟨i, l, ?_⟩
      have v := (h.1.2.1 0 i l).2.2
      have ne : hM S 0 i ≠ z.toNatClampNeg := fun q => v (by rw [q]; exact z2)
      have e : upd (S.2 14) z.toNatClampNeg 9 (hM S 0 i) = S.2 14 (hM S 0 i) := upd_ne ne
      have m : (upd (S.2 31) (S.1 6).toNatClampNeg z i).toNatClampNeg = hM S 0 i := by rw [upd_ne c]; rfl
      rw [← e, ← m]
      exact b
  · exact h.2.2
/-- adjourning: every one goes, and the draft -/
theorem d_22 {N : Int} (x1 x2 x3 x4 x5 x6 : Int32) : ∀ (n : Nat) (S : HS), HI N S → (S.1 6).toInt < n → lq_X11_does_491 n S x1 x2 x3 x4 x5 x6 ∧ DO (N + 1) S (lp_X11_does_491 n S x1 x2 x3 x4 x5 x6).2 := by
  intro n
  induction n with
  | zero => intro S h q; have := h.1.1 0 (by omega); have c : hN S 0 = (S.1 6).toInt := rfl; omega
  | succ n ih =>
    intro S h q
    rw [lq_X11_does_491, lp_X11_does_491]
    unfold ps_X11_does_491 st_X11_does_491
    by_cases c : S.1 6 ≤ 0
    · rw [if_pos c, if_pos c]
      refine ⟨⟨⟨dropDraft_p h.ra, True.intro⟩, True.intro⟩, ?_⟩
      obtain ⟨d1, d2, d3, d4, d5⟩ := dropDraft_i h
      exact ⟨d1.up (by omega), d4, Or.inl d5⟩
    · rw [if_neg c, if_neg c]
      have c := mt iLe.mpr c
      rw [i0] at c
      have hp : 1 ≤ (S.1 6).toInt := by omega
      have e := topN hp
      have g := ih (f_X11_goes S).2 (goes_i h hp) (by rw [goes_e]; show (S.1 6 - 1).toInt < _; omega)
      exact ⟨⟨⟨goes_p h.ra hp, True.intro⟩, g.1⟩, g.2⟩
