/-! ===== readers with rounds; the places of a desk ===== -/
theorem ix_b {x : Int32} {n : Nat} (h1 : 0 ≤ x.toInt) (h2 : x.toInt < n) : vp_in x n := vIn h1 h2
theorem dk_ln {S : Cst} {x : Nat} (h : wfS S) (k : iK S x 0) : lnC S ((grC S x 3).getD 0) = 8 := (h.w24 (ir_k (g0_3 h k))).1
theorem dk_ix {S : Cst} {x : Nat} (h : wfS S) (k : iK S x 0) {i : Nat} (hi : i < 8) : grC S ((grC S x 3).getD 0) i = some (x + 13 + 3 * i) ∧ iK S (x + 13 + 3 * i) 5 := by
  have w := (h.w24 (ir_k (g0_3 h k))).2 i hi
  rw [(h.w0 k).2.1.2.2.2.1, Option.getD_some] at w ⊢
  rw [show x + 13 + 3 * i = x + 6 + 7 + 3 * i by omega]
  exact w
theorem t_place {S : Cst} {x : Nat} (h : wfS S) (k : iK S x 0) (a : Int32) : rK S (f_Y0_placeAt S x a) 5 := by
  unfold f_Y0_placeAt b_Y0_placeAt_20 b_Y0_placeAt_10 b_Y0_placeAt_20
  split
  · exact Or.inl rfl
  · next c =>
    split
    · next d =>
      have c := mt iLt.mpr c
      have d := iLt.mp d
      rw [i0] at c
      rw [show (8 : Int32).toInt = 8 by decide] at d
      have := iNat (x := a) (by omega)
      have w := dk_ix h k (i := a.toNatClampNeg) (by omega)
      exact Or.inr ⟨_, w.1, w.2⟩
    · exact Or.inl rfl
theorem i_place {S : Cst} {x : Nat} {a : Int32} (h : wfS S) (k : iK S x 0) (n : ¬ f_Y0_placeAt S x a = none) : iR S (f_Y0_placeAt S x a) 5 := rk_ir (t_place h k a) n
theorem y_placeAt {S : Cst} {x : Nat} (h : wfS S) (k : iK S x 0) (a : Int32) : p_Y0_placeAt S x a := by
  unfold p_Y0_placeAt
  simp only [q_Y0_placeAt_20, q_Y0_placeAt_10]
  split
  · trivial
  · next c =>
    split
    · next d =>
      have c := mt iLt.mpr c
      have d := iLt.mp d
      rw [i0] at c
      rw [show (8 : Int32).toInt = 8 by decide] at d
      refine ⟨g0_3 h k, ?_, trivial⟩
      rw [dk_ln h k]
      exact vIn (by omega) (by omega)
    · trivial
/-- how many of the first n places are free -/
def fcU (S : Cst) (x : Nat) : Nat → Nat
  | 0 => 0
  | n + 1 => fcU S x n + (if giC S (x + 13 + 3 * n) 0 = 0 then 1 else 0)
theorem fcU_le (S : Cst) (x : Nat) : ∀ n, fcU S x n ≤ n := by
  intro n
  induction n with
  | zero => exact Nat.le_refl _
  | succ n ih =>
    rw [fcU]
    split <;> omega
theorem ps_free {S : Cst} {x : Nat} (h : wfS S) (k : iK S x 0) {b : Int32} (h1 : 0 ≤ b.toInt) (h2 : b.toInt < 8) (a : Int32) : ps_Y0_freePlaces_4 S x a b := by
  unfold ps_Y0_freePlaces_4
  split
  · trivial
  · refine ⟨g0_3 h k, ?_, ?_, y_empty _ _, ?_⟩
    · rw [dk_ln h k]
      exact vIn h1 h2
    · have := iNat h1
      have w := dk_ix h k (i := b.toNatClampNeg) (by omega)
      exact ir_of w.1 w.2
    · simp only [q_Y0_freePlaces_25, q_Y0_freePlaces_19a]
      split <;> trivial
theorem e8 : (8 : Int32).toInt = 8 := by decide
theorem em_f (S : Cst) (q : Nat) : f_Y6_isEmpty S q = if giC S q 0 = 0 then 1 else 0 := rfl
theorem st_free {S : Cst} {x : Nat} (h : wfS S) (k : iK S x 0) {b : Int32} (h1 : 0 ≤ b.toInt) (h2 : b.toInt < 8) (a : Int32) : st_Y0_freePlaces_4 S x a b = Sum.inr (if giC S (x + 13 + 3 * b.toNatClampNeg) 0 = 0 then a + 1 else a, b + 1) := by
  unfold st_Y0_freePlaces_4
  rw [if_neg (fun z => by have := iLe.mp z; rw [e8] at this; omega)]
  have := iNat h1
  rw [(dk_ix h k (i := b.toNatClampNeg) (by omega)).1, Option.getD_some, em_f]
  unfold b_Y0_freePlaces_19a b_Y0_freePlaces_25
  by_cases z : giC S (x + 13 + 3 * b.toNatClampNeg) 0 = 0
  · rw [if_pos z, if_pos z, if_neg (by decide)]
  · rw [if_neg z, if_neg z, if_pos rfl]
theorem free_lq {S : Cst} {x : Nat} (h : wfS S) (k : iK S x 0) : ∀ (n : Nat) (a b : Int32), 0 ≤ b.toInt → b.toInt ≤ 8 → 8 - b.toInt < n → lq_Y0_freePlaces_4 S x n a b := by
  intro n
  induction n with
  | zero => intro a b h1 h2 h3; omega
  | succ n ih =>
    intro a b h1 h2 h3
    rw [lq_Y0_freePlaces_4]
    by_cases c : b.toInt = 8
    · have c8 : 8 ≤ b := iLe.mpr (by rw [e8]; omega)
      unfold ps_Y0_freePlaces_4 st_Y0_freePlaces_4
      rw [if_pos c8, if_pos c8]
      exact ⟨trivial, trivial⟩
    · refine ⟨ps_free h k h1 (by omega) a, ?_⟩
      rw [st_free h k h1 (by omega) a]
      have e := iAdd (x := b) (y := 1) (by rw [i1]; omega) (by rw [i1]; omega)
      rw [i1] at e
      exact ih _ (b + 1) (by omega) (by omega) (by omega)
theorem y_free {S : Cst} {x : Nat} (h : wfS S) (k : iK S x 0) : p_Y0_freePlaces S x := free_lq h k 100000 0 0 (by rw [i0]; omega) (by rw [i0]; omega) (by rw [i0]; omega)
theorem free_lp {S : Cst} {x : Nat} (h : wfS S) (k : iK S x 0) : ∀ (n : Nat) (a b : Int32), 0 ≤ b.toInt → b.toInt ≤ 8 → 8 - b.toInt < n → 0 ≤ a.toInt → a.toInt ≤ b.toInt → (lp_Y0_freePlaces_4 S x n a b).toInt = a.toInt + (fcU S x 8 : Int) - (fcU S x b.toNatClampNeg : Int) := by
  intro n
  induction n with
  | zero => intro a b h1 h2 h3; omega
  | succ n ih =>
    intro a b h1 h2 h3 h4 h5
    rw [lp_Y0_freePlaces_4]
    have hb := iNat h1
    by_cases c : b.toInt = 8
    · have c8 : 8 ≤ b := iLe.mpr (by rw [e8]; omega)
      unfold st_Y0_freePlaces_4
      rw [if_pos c8]
      show a.toInt = _
      rw [show b.toNatClampNeg = 8 by omega]
      omega
    · rw [st_free h k h1 (by omega) a]
      have e := iAdd (x := b) (y := 1) (by rw [i1]; omega) (by rw [i1]; omega)
      have e' := iAdd (x := a) (y := 1) (by rw [i1]; omega) (by rw [i1]; omega)
      rw [i1] at e e'
      have hb' := iNat (x := b + 1) (by omega)
      have hs : (b + 1).toNatClampNeg = b.toNatClampNeg + 1 := by omega
      show (lp_Y0_freePlaces_4 S x n (if giC S (x + 13 + 3 * b.toNatClampNeg) 0 = 0 then a + 1 else a) (b + 1)).toInt = _
      have hf : fcU S x (b.toNatClampNeg + 1) = fcU S x b.toNatClampNeg + (if giC S (x + 13 + 3 * b.toNatClampNeg) 0 = 0 then 1 else 0) := rfl
      by_cases z : giC S (x + 13 + 3 * b.toNatClampNeg) 0 = 0
      · rw [if_pos z] at hf ⊢
        rw [ih (a + 1) (b + 1) (by omega) (by omega) (by omega) (by omega) (by omega), hs, hf]
        omega
      · rw [if_neg z] at hf ⊢
        rw [ih a (b + 1) (by omega) (by omega) (by omega) (by omega) (by omega), hs, hf]
        omega
theorem free_v {S : Cst} {x : Nat} (h : wfS S) (k : iK S x 0) : (f_Y0_freePlaces S x).toInt = fcU S x 8 := by
  unfold f_Y0_freePlaces
  rw [free_lp h k 100000 0 0 (by rw [i0]; omega) (by rw [i0]; omega) (by rw [i0]; omega) (by rw [i0]; omega) (by rw [i0]; omega), i0]
  show (0 : Int) + (fcU S x 8 : Int) - ((0 : Nat) : Int) = _
  omega
/-- the first free place -/
theorem st_first {S : Cst} {x : Nat} (h : wfS S) (k : iK S x 0) {b : Int32} (h1 : 0 ≤ b.toInt) (h2 : b.toInt < 8) : st_Y0_firstFreePlace_2 S x b = if giC S (x + 13 + 3 * b.toNatClampNeg) 0 = 0 then Sum.inl (some (x + 13 + 3 * b.toNatClampNeg)) else Sum.inr (b + 1) := by
  unfold st_Y0_firstFreePlace_2
  rw [if_neg (fun z => by have := iLe.mp z; rw [e8] at this; omega)]
  have := iNat h1
  unfold b_Y0_firstFreePlace_17a
  rw [(dk_ix h k (i := b.toNatClampNeg) (by omega)).1, Option.getD_some, em_f]
  by_cases z : giC S (x + 13 + 3 * b.toNatClampNeg) 0 = 0
  · rw [if_pos z, if_pos z, if_neg (by decide)]
  · rw [if_neg z, if_neg z, if_pos rfl]
theorem first_lq {S : Cst} {x : Nat} (h : wfS S) (k : iK S x 0) : ∀ (n : Nat) (b : Int32), 0 ≤ b.toInt → b.toInt ≤ 8 → 8 - b.toInt < n → lq_Y0_firstFreePlace_2 S x n b := by
  intro n
  induction n with
  | zero => intro b h1 h2 h3; omega
  | succ n ih =>
    intro b h1 h2 h3
    rw [lq_Y0_firstFreePlace_2]
    by_cases c : b.toInt = 8
    · have c8 : 8 ≤ b := iLe.mpr (by rw [e8]; omega)
      unfold ps_Y0_firstFreePlace_2 st_Y0_firstFreePlace_2
      rw [if_pos c8, if_pos c8]
      exact ⟨trivial, trivial⟩
    · refine ⟨?_, ?_⟩
      · unfold ps_Y0_firstFreePlace_2
        split
        · trivial
        · have v : vp_in b (lnC S ((grC S x 3).getD 0)) := by
            rw [dk_ln h k]
            exact vIn h1 (by omega)
          refine ⟨g0_3 h k, v, ?_, y_empty _ _, ?_⟩
          · have := iNat h1
            have w := dk_ix h k (i := b.toNatClampNeg) (by omega)
            exact ir_of w.1 w.2
          · simp only [q_Y0_firstFreePlace_17a]
            split
            · trivial
            · exact ⟨g0_3 h k, v, trivial⟩
      · rw [st_first h k h1 (by omega)]
        have e := iAdd (x := b) (y := 1) (by rw [i1]; omega) (by rw [i1]; omega)
        rw [i1] at e
        split
        · next z => split at z <;> trivial
        · next q z =>
          split at z
          · cases z
          · cases z
            exact ih (b + 1) (by omega) (by omega) (by omega)
theorem y_first {S : Cst} {x : Nat} (h : wfS S) (k : iK S x 0) : p_Y0_firstFreePlace S x := first_lq h k 100000 0 (by rw [i0]; omega) (by rw [i0]; omega) (by rw [i0]; omega)
theorem first_lp {S : Cst} {x : Nat} (h : wfS S) (k : iK S x 0) : ∀ (n : Nat) (b : Int32), 0 ≤ b.toInt → b.toInt ≤ 8 → 8 - b.toInt < n → (lp_Y0_firstFreePlace_2 S x n b = none ∧ ∀ p, b.toNatClampNeg ≤ p → p < 8 → ¬ giC S (x + 13 + 3 * p) 0 = 0) ∨ (∃ p, p < 8 ∧ lp_Y0_firstFreePlace_2 S x n b = some (x + 13 + 3 * p) ∧ giC S (x + 13 + 3 * p) 0 = 0) := by
  intro n
  induction n with
  | zero => intro b h1 h2 h3; omega
  | succ n ih =>
    intro b h1 h2 h3
    rw [lp_Y0_firstFreePlace_2]
    have hb := iNat h1
    by_cases c : b.toInt = 8
    · have c8 : 8 ≤ b := iLe.mpr (by rw [e8]; omega)
      unfold st_Y0_firstFreePlace_2
      rw [if_pos c8]
      exact Or.inl ⟨rfl, fun p h1 h2 => by omega⟩
    · rw [st_first h k h1 (by omega)]
      have e := iAdd (x := b) (y := 1) (by rw [i1]; omega) (by rw [i1]; omega)
      rw [i1] at e
      by_cases z : giC S (x + 13 + 3 * b.toNatClampNeg) 0 = 0
      · rw [if_pos z]
        exact Or.inr ⟨_, by omega, rfl, z⟩
      · rw [if_neg z]
        have hb' := iNat (x := b + 1) (by omega)
        rcases ih (b + 1) (by omega) (by omega) (by omega) with ⟨g1, g2⟩ | g
        · refine Or.inl ⟨g1, fun p h1 h2 => ?_⟩
          by_cases d : p = b.toNatClampNeg
          · rw [d]
            exact z
          · exact g2 p (by omega) h2
        · exact Or.inr g
theorem first_v {S : Cst} {x : Nat} (h : wfS S) (k : iK S x 0) : (f_Y0_firstFreePlace S x = none ∧ ∀ p, p < 8 → ¬ giC S (x + 13 + 3 * p) 0 = 0) ∨ (∃ p, p < 8 ∧ f_Y0_firstFreePlace S x = some (x + 13 + 3 * p) ∧ giC S (x + 13 + 3 * p) 0 = 0) := by
  rcases first_lp h k 100000 0 (by rw [i0]; omega) (by rw [i0]; omega) (by rw [i0]; omega) with ⟨a, b⟩ | a
  · exact Or.inl ⟨a, fun p hp => b p (Nat.zero_le _) hp⟩
  · exact Or.inr a
theorem t_first {S : Cst} {x : Nat} (h : wfS S) (k : iK S x 0) : rK S (f_Y0_firstFreePlace S x) 5 := by
  rcases first_v h k with ⟨a, b⟩ | ⟨p, hp, e, z⟩
  · exact Or.inl a
  · exact Or.inr ⟨_, e, (dk_ix h k hp).2⟩
theorem i_first {S : Cst} {x : Nat} (h : wfS S) (k : iK S x 0) (n : ¬ f_Y0_firstFreePlace S x = none) : iR S (f_Y0_firstFreePlace S x) 5 := rk_ir (t_first h k) n
/-- the votes counted -/
theorem tally_lq {S : Cst} {x : Nat} {r : Option Nat} (h : wfS S) (k : iK S x 1) (kr : iR S r 3) (how : Int32) : ∀ (n : Nat) (a b : Int32), 0 ≤ b.toInt → b.toInt ≤ 200 → 200 - b.toInt < n → lq_Y2_tally_5 S x n r how a b := by
  have hs := (h.w1 k).2.2
  unfold rg at hs
  intro n
  induction n with
  | zero => intro a b h1 h2 h3; omega
  | succ n ih =>
    intro a b h1 h2 h3
    rw [lq_Y2_tally_5]
    unfold ps_Y2_tally_5 st_Y2_tally_5
    simp only [q_Y2_tally_36]
    by_cases c : giC S x 0 ≤ b
    · rw [if_pos c, if_pos c]
      exact ⟨trivial, trivial⟩
    · rw [if_neg c, if_neg c]
      have c := mt iLe.mpr c
      have e := iAdd (x := b) (y := 1) (by rw [i1]; omega) (by rw [i1]; omega)
      rw [i1] at e
      refine ⟨⟨y_isThere h k _, ?_⟩, ?_⟩
      · split
        · trivial
        · refine ⟨kr, y_voteOf h (ir_k kr) _, ?_⟩
          split <;> trivial
      · unfold b_Y2_tally_36
        split
        · next z => repeat' split at z
                    all_goals trivial
        · next q z =>
          have : ∃ a', q = (r, how, a', b + 1) := by
            repeat' split at z
            all_goals exact ⟨_, (Sum.inr.inj z).symm⟩
          obtain ⟨a', rfl⟩ := this
          exact ih a' (b + 1) (by omega) (by omega) (by omega)
theorem y_tally {S : Cst} {x : Nat} {r : Option Nat} (h : wfS S) (k : iK S x 1) (kr : iR S r 3) (how : Int32) : p_Y2_tally S x r how := tally_lq h k kr how 100000 0 0 (by rw [i0]; omega) (by rw [i0]; omega) (by rw [i0]; omega)
theorem rank_lq {S : Cst} {x : Nat} (h : wfS S) (k : iK S x 4) : ∀ (n : Nat) (a b : Int32), 0 ≤ b.toInt → b.toInt ≤ 9 → 9 - b.toInt < n → lq_Y5_highestRank_4 S x n a b := by
  have hs := (h.w4 k).2.2
  unfold rg at hs
  intro n
  induction n with
  | zero => intro a b h1 h2 h3; omega
  | succ n ih =>
    intro a b h1 h2 h3
    rw [lq_Y5_highestRank_4]
    unfold ps_Y5_highestRank_4 st_Y5_highestRank_4
    simp only [q_Y5_highestRank_31]
    by_cases c : giC S x 1 ≤ b
    · rw [if_pos c, if_pos c]
      exact ⟨trivial, trivial⟩
    · rw [if_neg c, if_neg c]
      have c := mt iLe.mpr c
      have e := iAdd (x := b) (y := 1) (by rw [i1]; omega) (by rw [i1]; omega)
      rw [i1] at e
      refine ⟨⟨y_at h k _, ?_⟩, ?_⟩
      · split
        · trivial
        · next z => exact ⟨i_at h k z, trivial⟩
      · unfold b_Y5_highestRank_31
        by_cases z : f_Y5_at S x b = none
        · rw [if_pos z]
          exact ih _ (b + 1) (by omega) (by omega) (by omega)
        · rw [if_neg z]
          exact ih _ (b + 1) (by omega) (by omega) (by omega)
theorem y_rank {S : Cst} {x : Nat} (h : wfS S) (k : iK S x 4) : p_Y5_highestRank S x := rank_lq h k 100000 0 0 (by rw [i0]; omega) (by rw [i0]; omega) (by rw [i0]; omega)
theorem needs_lq {S : Cst} {x : Nat} (h : wfS S) (k : iK S x 4) : ∀ (n : Nat) (b : Int32), 0 ≤ b.toInt → b.toInt ≤ 9 → 9 - b.toInt < n → lq_Y5_needsPlace_2 S x n b := by
  have hs := (h.w4 k).2.2
  unfold rg at hs
  intro n
  induction n with
  | zero => intro b h1 h2 h3; omega
  | succ n ih =>
    intro b h1 h2 h3
    rw [lq_Y5_needsPlace_2]
    unfold ps_Y5_needsPlace_2 st_Y5_needsPlace_2
    simp only [q_Y5_needsPlace_29]
    by_cases c : giC S x 1 ≤ b
    · rw [if_pos c, if_pos c]
      exact ⟨trivial, trivial⟩
    · rw [if_neg c, if_neg c]
      have c := mt iLe.mpr c
      have e := iAdd (x := b) (y := 1) (by rw [i1]; omega) (by rw [i1]; omega)
      rw [i1] at e
      refine ⟨⟨y_at h k _, ?_⟩, ?_⟩
      · split
        · trivial
        · next z =>
          refine ⟨i_at h k z, y_mNeeds _ _, ?_⟩
          split <;> trivial
      · unfold b_Y5_needsPlace_29
        by_cases z : f_Y5_at S x b = none
        · rw [if_pos z]
          exact ih (b + 1) (by omega) (by omega) (by omega)
        · rw [if_neg z]
          by_cases y : f_Y4_needsPlace S ((f_Y5_at S x b).getD 0) = 0
          · rw [if_pos y]
            exact ih (b + 1) (by omega) (by omega) (by omega)
          · rw [if_neg y]
            trivial
theorem y_needs {S : Cst} {x : Nat} (h : wfS S) (k : iK S x 4) : p_Y5_needsPlace S x := needs_lq h k 100000 0 (by rw [i0]; omega) (by rw [i0]; omega) (by rw [i0]; omega)
theorem y_wordOf {S : Cst} {x : Nat} (h : wfS S) (k : iK S x 0) (a b : Int32) : p_Y0_wordOf S x a b := by
  unfold p_Y0_wordOf
  simp only [q_Y0_wordOf_55, q_Y0_wordOf_38]
  repeat' (first | with_reducible (first | exact trivial | assumption | exact nB0 | exact nB1 | refine And.intro ?_ ?_ | refine iteI (fun _ => ?_) (fun _ => ?_) | refine ir_k ?_ | refine g0_0 h ?_ | exact g5_1 h (by assumption) | exact g0_1 h (by assumption) | refine g5_1 h (ir_k (g0_2 h ?_)) | refine g0_1 h (ir_k (g7_0 h ?_)) | refine g0_1 h (ir_k (g7_1 h ?_)) | refine g5_1 h ?_ | refine g0_2 h ?_ | refine g0_3 h ?_ | exact g7_4 h (by assumption) | refine g0_4 h ?_ | refine g0_5 h ?_ | refine g0_6 h ?_ | refine g1_1 h ?_ | refine g1_7 h ?_ | refine g2_2 h ?_ | refine g3_12 h ?_ | refine g3_13 h ?_ | refine g4_0 h ?_ | refine g6_0 h ?_ | refine g7_0 h ?_ | refine g7_1 h ?_ | exact ix_lt (by assumption) (by assumption) | exact ix_ge (by assumption) (by assumption) | exact ix_l1 (by assumption) (by assumption) | refine i_at h ?_ (by assumption) | refine i_top h ?_ (by assumption) | refine i_motion h ?_ (by assumption) | refine i_place h ?_ (by assumption) | refine i_first h ?_ (by assumption) | exact rk_ir (by assumption) (by assumption) | refine t_at h ?_ _ | refine t_top h ?_ | refine t_motion h ?_ | refine t_place h ?_ _ | refine t_first h ?_ | refine y_has h ?_ _ | refine y_isThere h ?_ _ | exact y_hasFloor _ _ _ | exact y_hasQuorum _ _ | refine y_voteOf h ?_ _ | refine y_isMajority h ?_ _ _ _ | exact y_isFull _ _ | refine y_ledAt h ?_ _ _ | exact y_mNeeds _ _ | exact y_amends _ _ | refine y_canBeAbout ?_ | refine y_mFact h ?_ _ | refine y_at h ?_ _ | refine y_top h ?_ | exact y_empty _ _ | refine y_motion h ?_ | refine y_wordAt h ?_ _ | refine y_kind h ?_ | refine y_plWord h ?_ _ | refine y_plFact h ?_ _ | exact y_sizeWith _ _ _ _ _ | refine y_placeAt h ?_ _ | refine y_free h ?_ | refine y_first h ?_ | refine y_tally h ?_ ?_ _ | refine y_rank h ?_ | refine y_needs h ?_) | split)
theorem y_outcome {S : Cst} {x : Nat} {r : Option Nat} (h : wfS S) (k : iK S x 1) (kr : iR S r 3) (a b : Int32) : p_Y7_outcomeOf S x r a b := by
  unfold p_Y7_outcomeOf
  simp only [q_Y7_outcomeOf_48, q_Y7_outcomeOf_19]
  repeat' (first | with_reducible (first | exact trivial | assumption | exact nB0 | exact nB1 | refine And.intro ?_ ?_ | refine iteI (fun _ => ?_) (fun _ => ?_) | refine ir_k ?_ | refine g0_0 h ?_ | exact g5_1 h (by assumption) | exact g0_1 h (by assumption) | refine g5_1 h (ir_k (g0_2 h ?_)) | refine g0_1 h (ir_k (g7_0 h ?_)) | refine g0_1 h (ir_k (g7_1 h ?_)) | refine g5_1 h ?_ | refine g0_2 h ?_ | refine g0_3 h ?_ | exact g7_4 h (by assumption) | refine g0_4 h ?_ | refine g0_5 h ?_ | refine g0_6 h ?_ | refine g1_1 h ?_ | refine g1_7 h ?_ | refine g2_2 h ?_ | refine g3_12 h ?_ | refine g3_13 h ?_ | refine g4_0 h ?_ | refine g6_0 h ?_ | refine g7_0 h ?_ | refine g7_1 h ?_ | exact ix_lt (by assumption) (by assumption) | exact ix_ge (by assumption) (by assumption) | exact ix_l1 (by assumption) (by assumption) | refine i_at h ?_ (by assumption) | refine i_top h ?_ (by assumption) | refine i_motion h ?_ (by assumption) | refine i_place h ?_ (by assumption) | refine i_first h ?_ (by assumption) | exact rk_ir (by assumption) (by assumption) | refine t_at h ?_ _ | refine t_top h ?_ | refine t_motion h ?_ | refine t_place h ?_ _ | refine t_first h ?_ | refine y_has h ?_ _ | refine y_isThere h ?_ _ | exact y_hasFloor _ _ _ | exact y_hasQuorum _ _ | refine y_voteOf h ?_ _ | refine y_isMajority h ?_ _ _ _ | exact y_isFull _ _ | refine y_ledAt h ?_ _ _ | exact y_mNeeds _ _ | exact y_amends _ _ | refine y_canBeAbout ?_ | refine y_mFact h ?_ _ | refine y_at h ?_ _ | refine y_top h ?_ | exact y_empty _ _ | refine y_motion h ?_ | refine y_wordAt h ?_ _ | refine y_kind h ?_ | refine y_plWord h ?_ _ | refine y_plFact h ?_ _ | exact y_sizeWith _ _ _ _ _ | refine y_placeAt h ?_ _ | refine y_free h ?_ | refine y_first h ?_ | refine y_wordOf h ?_ _ _ | refine y_tally h ?_ ?_ _ | refine y_rank h ?_ | refine y_needs h ?_) | split)
