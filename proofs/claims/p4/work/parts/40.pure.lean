/-! ===== numbers ===== -/
theorem iAdd {x y : Int32} (h1 : -2147483648 ≤ x.toInt + y.toInt) (h2 : x.toInt + y.toInt ≤ 2147483647) : (x + y).toInt = x.toInt + y.toInt := by
  rw [Int32.toInt_add]
  unfold Int.bmod
  dsimp only
  split <;> omega
theorem iSub {x y : Int32} (h1 : -2147483648 ≤ x.toInt - y.toInt) (h2 : x.toInt - y.toInt ≤ 2147483647) : (x - y).toInt = x.toInt - y.toInt := by
  rw [Int32.toInt_sub]
  unfold Int.bmod
  dsimp only
  split <;> omega
theorem iMul {x y : Int32} {n : Int} (e : x.toInt * y.toInt = n) (h1 : -2147483648 ≤ n) (h2 : n ≤ 2147483647) : (x * y).toInt = n := by
  rw [Int32.toInt_mul, e]
  unfold Int.bmod
  dsimp only
  split <;> omega
theorem iNat {x : Int32} (h : 0 ≤ x.toInt) : (x.toNatClampNeg : Int) = x.toInt := by
  rw [Int32.toNatClampNeg]
  exact Int.toNat_of_nonneg h
theorem i0 : (0 : Int32).toInt = 0 := by decide
theorem i1 : (1 : Int32).toInt = 1 := by decide
theorem iLt {x y : Int32} : x < y ↔ x.toInt < y.toInt := Int32.lt_iff_toInt_lt
theorem iLe {x y : Int32} : x ≤ y ↔ x.toInt ≤ y.toInt := Int32.le_iff_toInt_le
theorem iEq {x y : Int32} : x = y ↔ x.toInt = y.toInt := Int32.toInt_inj.symm
theorem vIn {x : Int32} {n : Nat} (h1 : 0 ≤ x.toInt) (h2 : x.toInt < n) : vp_in x n := vp_in_iff.mpr ⟨h1, h2⟩
theorem nB0 : narrow .boolean (.int 0) = .int 0 := rfl
theorem nB1 : narrow .boolean (.int 1) = .int 1 := rfl
/-! ===== in(v, low, high) ===== -/
theorem in_f (v lo hi : Int32) : f_X12_in v lo hi = if lo.toInt ≤ v.toInt ∧ v.toInt ≤ hi.toInt then 1 else 0 := by
  unfold f_X12_in b_X12_in_14 b_X12_in_15
  by_cases h1 : v < lo
  · rw [if_pos h1, if_neg (fun q => by have := iLt.mp h1; omega)]
  · rw [if_neg h1]
    by_cases h2 : hi < v
    · rw [if_pos h2, if_neg (fun q => by have := iLt.mp h2; omega)]
    · rw [if_neg h2, if_pos]
      have a := mt iLt.mpr h1
      have b := mt iLt.mpr h2
      omega
theorem in_p (v lo hi : Int32) : p_X12_in v lo hi := by
  unfold p_X12_in q_X12_in_14 q_X12_in_15
  split
  · exact ⟨rfl, trivial⟩
  · split <;> exact ⟨rfl, trivial⟩
theorem in_b (v lo hi : Int32) : narrow .boolean (.int (f_X12_in v lo hi)) = .int (f_X12_in v lo hi) := by
  rw [in_f]
  split <;> rfl
/-! ===== a Hall: reads ===== -/
/-- seats, pending, drafted in their ranges; the slots in row and draft are slots -/
def RA (S : HS) : Prop := (1 ≤ (S.1 0).toInt ∧ (S.1 0).toInt ≤ 200) ∧ (0 ≤ (S.1 6).toInt ∧ (S.1 6).toInt ≤ 9) ∧ (0 ≤ (S.1 35).toInt ∧ (S.1 35).toInt ≤ 9) ∧
  (∀ i : Nat, (i : Int) < (S.1 6).toInt → 0 ≤ (S.2 31 i).toInt ∧ (S.2 31 i).toInt < 90) ∧ (∀ i : Nat, (i : Int) < (S.1 35).toInt → 0 ≤ (S.2 32 i).toInt ∧ (S.2 32 i).toInt < 90)
theorem seat_f {S : HS} (h : RA S) (a : Int32) : f_X11_isSeat S a = (if 0 ≤ a.toInt ∧ a.toInt < (S.1 0).toInt then 1 else 0, S) := by
  unfold f_X11_isSeat
  obtain ⟨⟨h1, h2⟩, -⟩ := h
  have e := iSub (x := S.1 0) (y := 1) (by rw [i1]; omega) (by rw [i1]; omega)
  rw [in_f, e, i0, i1]
  by_cases q : 0 ≤ a.toInt ∧ a.toInt < (S.1 0).toInt
  · rw [if_pos (by omega), if_pos q]
  · rw [if_neg (by omega), if_neg q]
theorem seat_p (S : HS) (a : Int32) : p_X11_isSeat S a := ⟨in_p _ _ _, in_b _ _ _, trivial⟩
theorem here_p {S : HS} (h : RA S) (a : Int32) : p_X11_isHere S a := by
  refine ⟨seat_p S a, ?_⟩
  rw [seat_f h a]
  dsimp only
  unfold q_X11_isHere_a5
  by_cases q : 0 ≤ a.toInt ∧ a.toInt < (S.1 0).toInt
  · rw [if_pos q, if_neg (by decide)]
    refine ⟨vIn q.1 (by have := h.1.2; omega), ?_⟩
    split
    · exact ⟨rfl, trivial⟩
    · exact ⟨rfl, trivial⟩
  · rw [if_neg q, if_pos rfl]
    exact ⟨rfl, trivial⟩
theorem here_f {S : HS} (h : RA S) (a : Int32) : f_X11_isHere S a = (if (0 ≤ a.toInt ∧ a.toInt < (S.1 0).toInt) ∧ S.2 11 a.toNatClampNeg ≠ 0 then 1 else 0, S) := by
  unfold f_X11_isHere
  rw [seat_f h a]
  dsimp only
  unfold b_X11_isHere_a5 b_X11_isHere_21 b_X11_isHere_22
  by_cases q : 0 ≤ a.toInt ∧ a.toInt < (S.1 0).toInt
  · rw [if_pos q, if_neg (by decide)]
    by_cases z : S.2 11 a.toNatClampNeg = 0
    · rw [if_pos z, if_neg (fun x => x.2 z)]
    · rw [if_neg z, if_pos ⟨q, z⟩]
  · rw [if_neg q, if_pos rfl, if_neg (fun x => q x.1)]
theorem top_p {S : HS} (h : RA S) (hp : 1 ≤ (S.1 6).toInt) : p_X11_top S := by
  have e := iSub (x := S.1 6) (y := 1) (by rw [i1]; have := h.2.1; omega) (by rw [i1]; have := h.2.1; omega)
  rw [i1] at e
  exact ⟨vIn (by omega) (by have := h.2.1; omega), trivial⟩
theorem top_in {S : HS} (h : RA S) (hp : 1 ≤ (S.1 6).toInt) : 0 ≤ (f_X11_top S).1.toInt ∧ (f_X11_top S).1.toInt < 90 := by
  have e := iSub (x := S.1 6) (y := 1) (by rw [i1]; have := h.2.1; omega) (by rw [i1]; have := h.2.1; omega)
  rw [i1] at e
  refine h.2.2.2.1 _ ?_
  rw [iNat (by omega)]
  omega
theorem seconder_p {S : HS} (h : RA S) (hp : 1 ≤ (S.1 6).toInt) : p_X11_hasSeconder S := by
  refine ⟨top_p h hp, ?_⟩
  have t := top_in h hp
  refine ⟨vIn t.1 t.2, ?_⟩
  split <;> exact ⟨rfl, trivial⟩
theorem draft0_in {S : HS} (h : RA S) (hd : 1 ≤ (S.1 35).toInt) : 0 ≤ (S.2 32 (0 : Int32).toNatClampNeg).toInt ∧ (S.2 32 (0 : Int32).toNatClampNeg).toInt < 90 :=
  h.2.2.2.2 _ (by rw [iNat (by rw [i0]; omega), i0]; omega)
theorem hasDraft_p {S : HS} (h : RA S) (lo hi : Int32) : p_X11_hasDraft S lo hi := by
  unfold p_X11_hasDraft
  split
  · exact ⟨rfl, trivial⟩
  · rename_i q
    have q := mt iLe.mpr q
    rw [i0] at q
    split
    · have d := draft0_in h (by omega)
      refine ⟨vIn (by rw [i0]; omega) (by rw [i0]; omega), vIn d.1 d.2, in_p _ _ _, ?_⟩
      split <;> exact ⟨rfl, trivial⟩
    · exact ⟨rfl, trivial⟩
theorem isAbout_p {S : HS} (h : RA S) (k : Int32) : p_X11_isAbout S k := by
  unfold p_X11_isAbout
  split
  · trivial
  · rename_i q
    have q := mt iEq.mpr q
    rw [i0] at q
    have hp : 1 ≤ (S.1 6).toInt := by have := h.2.1; omega
    have t := top_in h hp
    refine ⟨top_p h hp, vIn t.1 t.2, ?_⟩
    repeat' split
    all_goals first | exact ⟨rfl, trivial⟩ | trivial
/-- the first free place: found in eight rounds -/
theorem free_q (S : HS) : ∀ (n : Nat) (x : Int32), 0 ≤ x.toInt → x.toInt ≤ 8 → 8 - x.toInt < n → lq_X11_free_2 n S x := by
  intro n
  induction n with
  | zero => intro x h1 h2 h3; omega
  | succ n ih =>
    intro x h1 h2 h3
    rw [lq_X11_free_2]
    unfold ps_X11_free_2 st_X11_free_2
    by_cases c : 8 ≤ x
    · rw [if_pos c, if_pos c]
      exact ⟨trivial, trivial⟩
    · rw [if_neg c, if_neg c]
      have c := mt iLe.mpr c
      have e8 : (8 : Int32).toInt = 8 := by decide
      rw [e8] at c
      refine ⟨⟨vIn h1 (by omega), by split <;> trivial⟩, ?_⟩
      by_cases z : S.2 34 x.toNatClampNeg = 0
      · rw [if_pos z]; trivial
      · rw [if_neg z]
        have e := iAdd (x := x) (y := 1) (by rw [i1]; omega) (by rw [i1]; omega)
        rw [i1] at e
        exact ih (x + 1) (by omega) (by omega) (by omega)
theorem free_p (S : HS) : p_X11_free S := free_q S 100000 0 (by rw [i0]; omega) (by rw [i0]; omega) (by rw [i0]; omega)
