/-! ===== the row's size is the same on both sides ===== -/
def RQ (S : Cst) (M : MS) : Prop := rw6 S 82 = M.1.1 6
theorem k6i {c : Prop} [Decidable c] {a b : Int32 × MS} {n : Int32} (h1 : a.2.1.1 6 = n) (h2 : b.2.1.1 6 = n) : (if c then a else b).2.1.1 6 = n := by
  by_cases h : c
  · rw [if_pos h]
    exact h1
  · rw [if_neg h]
    exact h2
def k6r (n : Int32) : (Int32 × MS) ⊕ (MS × Int32) → Prop
  | Sum.inl r => r.2.1.1 6 = n
  | Sum.inr r => r.1.1.1 6 = n
theorem k6_again_s (M : MS) (x : Int32) : k6r (M.1.1 6) (st_X12_again_16 M x) := by
  unfold st_X12_again_16 b_X12_again_a92
  repeat' split
  all_goals rfl
theorem k6_again_l : ∀ (n : Nat) (M : MS) (x : Int32), (lp_X12_again_16 n M x).2.1.1 6 = M.1.1 6 := by
  intro n
  induction n with
  | zero => intro M x; rfl
  | succ n ih =>
    intro M x
    rw [lp_X12_again_16]
    have s := k6_again_s M x
    generalize st_X12_again_16 M x = r at s
    cases r with
    | inl r => exact s
    | inr r => exact (ih r.1 r.2).trans s
theorem k6_check_s1 (M : MS) (a b c d : Int32) : (∀ r, st_X12_check_51 M a b c d = Sum.inl r → k6r (M.1.1 6) r) ∧ (∀ r, st_X12_check_51 M a b c d = Sum.inr r → r.1.1.1 6 = M.1.1 6) := by
  unfold st_X12_check_51 b_X12_check_a122 b_X12_check_142
  refine ⟨fun r e => ?_, fun r e => ?_⟩
  · repeat' split at e
    all_goals (cases e <;> rfl)
  · repeat' split at e
    all_goals (cases e <;> rfl)
theorem k6_check_l1 : ∀ (n : Nat) (M : MS) (a b c d : Int32), k6r (M.1.1 6) (lp_X12_check_51 n M a b c d) := by
  intro n
  induction n with
  | zero => intro M a b c d; rfl
  | succ n ih =>
    intro M a b c d
    rw [lp_X12_check_51]
    have s := k6_check_s1 M a b c d
    cases h : st_X12_check_51 M a b c d with
    | inl r => exact s.1 r h
    | inr r =>
      have q := ih r.1 r.2.1 r.2.2.1 r.2.2.2.1 r.2.2.2.2
      rw [s.2 r h] at q
      exact q
theorem k6_check_s (M : MS) (x : Int32) : k6r (M.1.1 6) (st_X12_check_16 M x) := by
  unfold st_X12_check_16
  by_cases z : M.1.1 6 ≤ x
  · rw [if_pos z]
    exact rfl
  · rw [if_neg z]
    generalize f_X12_numbers (M.1.2 5 (6 * x).toNatClampNeg) = k
    by_cases y : k = -1
    · rw [if_pos y]
      exact rfl
    · rw [if_neg y]
      exact k6_check_l1 _ M _ _ _ _
theorem k6_check_l : ∀ (n : Nat) (M : MS) (x : Int32), (lp_X12_check_16 n M x).2.1.1 6 = M.1.1 6 := by
  intro n
  induction n with
  | zero => intro M x; rfl
  | succ n ih =>
    intro M x
    rw [lp_X12_check_16]
    have s := k6_check_s M x
    generalize st_X12_check_16 M x = r at s
    cases r with
    | inl r => exact s
    | inr r => exact (ih r.1 r.2).trans s
theorem k6_image_l : ∀ (n : Nat) (M : MS) (a x : Int32), (lp_X12_image_40 n M a x).2.1.1 6 = M.1.1 6 := by
  intro n
  induction n with
  | zero => intro M a x; rfl
  | succ n ih =>
    intro M a x
    rw [lp_X12_image_40]
    unfold st_X12_image_40
    by_cases z : 6 * (M.2.1.1 7) ≤ x
    · rw [if_pos z]
    · rw [if_neg z]
      exact (ih _ _ _).trans rfl
theorem k6_back_l : ∀ (n : Nat) (M : MS) (a x : Int32), (lp_X12_back_40 n M a x).2.1.1 6 = M.1.1 6 := by
  intro n
  induction n with
  | zero => intro M a x; rfl
  | succ n ih =>
    intro M a x
    rw [lp_X12_back_40]
    unfold st_X12_back_40 b_X12_back_a106
    by_cases z : M.1.2 3 a.toNatClampNeg ≤ x
    · rw [if_pos z]
      rfl
    · rw [if_neg z]
      exact (ih _ _ _).trans rfl
theorem rk {S S2 : Cst} {M M2 : MS} {v : Int32} {p : Nat → Nat → Prop} {f : Int32 × Cst} (h : kR S 82 p f) (e : f = (v, S2)) (r : RQ S M) (q : M2.1.1 6 = M.1.1 6) : RQ S2 M2 := by
  obtain ⟨v', S', e', _, _, g⟩ := h
  obtain ⟨_, rfl⟩ := Prod.mk.inj (e'.symm.trans e)
  exact g.2.2.trans (r.trans q.symm)
theorem k6_seats (M : MS) (x1 : Int32) : (f_X12_seats M x1).2.1.1 6 = M.1.1 6 := by
  unfold f_X12_seats
  try unfold b_X12_seats_a22
  repeat' (first | refine k6i ?_ ?_ | rfl)
theorem k6_there (M : MS) (x1 : Int32) : (f_X12_there M x1).2.1.1 6 = M.1.1 6 := rfl
theorem k6_gone (M : MS) (x1 : Int32) : (f_X12_gone M x1).2.1.1 6 = M.1.1 6 := rfl
theorem k6_quorum (M : MS) (x1 : Int32) : (f_X12_quorum M x1).2.1.1 6 = M.1.1 6 := rfl
theorem k6_chair (M : MS) (x1 : Int32) : (f_X12_chair M x1).2.1.1 6 = M.1.1 6 := rfl
theorem k6_majority (M : MS) (x1 x2 : Int32) : (f_X12_majority M x1 x2).2.1.1 6 = M.1.1 6 := rfl
theorem k6_limit (M : MS) (x1 : Int32) : (f_X12_limit M x1).2.1.1 6 = M.1.1 6 := rfl
theorem k6_floor (M : MS) (x1 : Int32) : (f_X12_floor M x1).2.1.1 6 = M.1.1 6 := rfl
theorem k6_cede (M : MS) : (f_X12_cede M).2.1.1 6 = M.1.1 6 := rfl
theorem k6_debate (M : MS) (x1 : Int32) : (f_X12_debate M x1).2.1.1 6 = M.1.1 6 := rfl
theorem k6_draft (M : MS) (x1 : Int32) : (f_X12_draft M x1).2.1.1 6 = M.1.1 6 := rfl
theorem k6_span (M : MS) (x1 x2 : Int32) : (f_X12_span M x1 x2).2.1.1 6 = M.1.1 6 := rfl
theorem k6_word (M : MS) (x1 x2 x3 x4 : Int32) : (f_X12_word M x1 x2 x3 x4).2.1.1 6 = M.1.1 6 := rfl
theorem k6_lay (M : MS) (x1 : Int32) : (f_X12_lay M x1).2.1.1 6 = M.1.1 6 := rfl
theorem k6_take (M : MS) (x1 : Int32) : (f_X12_take M x1).2.1.1 6 = M.1.1 6 := rfl
theorem k6_move (M : MS) (x1 : Int32) : (f_X12_move M x1).2.1.1 6 = M.1.1 6 := rfl
theorem k6_second (M : MS) (x1 : Int32) : (f_X12_second M x1).2.1.1 6 = M.1.1 6 := rfl
theorem k6_vote (M : MS) (x1 x2 : Int32) : (f_X12_vote M x1 x2).2.1.1 6 = M.1.1 6 := rfl
theorem k6_withdraw (M : MS) (x1 : Int32) : (f_X12_withdraw M x1).2.1.1 6 = M.1.1 6 := rfl
theorem k6_rule (M : MS) : (f_X12_rule M).2.1.1 6 = M.1.1 6 := rfl
theorem k6_appeal (M : MS) (x1 : Int32) : (f_X12_appeal M x1).2.1.1 6 = M.1.1 6 := rfl
theorem k6_told (M : MS) : (f_X12_told M).2.1.1 6 = M.1.1 6 := rfl
theorem k6_adjourn (M : MS) : (f_X12_adjourn M).2.1.1 6 = M.1.1 6 := rfl
theorem k6_order (M : MS) (x1 : Int32) : (f_X12_order M x1).2.1.1 6 = M.1.1 6 := by
  unfold f_X12_order
  try unfold b_X12_order_a8
  try unfold b_X12_order_35
  try unfold b_X12_order_36
  try unfold b_X12_order_54
  repeat' (first | refine k6i ?_ ?_ | rfl)
theorem k6_why (M : MS) : (f_X12_why M).2.1.1 6 = M.1.1 6 := rfl
theorem k6_pending (M : MS) (x1 x2 : Int32) : (f_X12_pending M x1 x2).2.1.1 6 = M.1.1 6 := by
  unfold f_X12_pending
  try unfold b_X12_pending_a190
  try unfold b_X12_pending_181
  repeat' (first | refine k6i ?_ ?_ | rfl)
theorem k6_text (M : MS) (x1 x2 : Int32) : (f_X12_text M x1 x2).2.1.1 6 = M.1.1 6 := by
  unfold f_X12_text
  try unfold b_X12_text_a9
  repeat' (first | refine k6i ?_ ?_ | rfl)
theorem k6_ballot (M : MS) (x1 : Int32) : (f_X12_ballot M x1).2.1.1 6 = M.1.1 6 := by
  unfold f_X12_ballot
  try unfold b_X12_ballot_a46
  try unfold b_X12_ballot_61
  try unfold b_X12_ballot_27
  repeat' (first | refine k6i ?_ ?_ | rfl)
theorem k6_desk (M : MS) (x1 x2 : Int32) : (f_X12_desk M x1 x2).2.1.1 6 = M.1.1 6 := by
  unfold f_X12_desk
  try unfold b_X12_desk_217
  try unfold b_X12_desk_218
  try unfold b_X12_desk_194
  try unfold b_X12_desk_174
  try unfold b_X12_desk_143
  try unfold b_X12_desk_123
  try unfold b_X12_desk_19
  repeat' (first | refine k6i ?_ ?_ | rfl)
theorem k6_lying (M : MS) (x1 x2 : Int32) : (f_X12_lying M x1 x2).2.1.1 6 = M.1.1 6 := by
  unfold f_X12_lying
  try unfold b_X12_lying_75
  try unfold b_X12_lying_22
  repeat' (first | refine k6i ?_ ?_ | rfl)
theorem k6_result (M : MS) (x1 x2 : Int32) : (f_X12_result M x1 x2).2.1.1 6 = M.1.1 6 := by
  unfold f_X12_result
  try unfold b_X12_result_42
  try unfold b_X12_result_43
  repeat' (first | refine k6i ?_ ?_ | rfl)
theorem k6_count (M : MS) (x1 : Int32) : (f_X12_count M x1).2.1.1 6 = M.1.1 6 := by
  unfold f_X12_count
  try unfold b_X12_count_170
  repeat' (first | refine k6i ?_ ?_ | rfl)
theorem k6_seat (M : MS) (x1 : Int32) : (f_X12_seat M x1).2.1.1 6 = M.1.1 6 := by
  unfold f_X12_seat
  try unfold b_X12_seat_38
  repeat' (first | refine k6i ?_ ?_ | rfl)
theorem k6_journal (M : MS) (x1 x2 : Int32) : (f_X12_journal M x1 x2).2.1.1 6 = M.1.1 6 := by
  unfold f_X12_journal
  try unfold b_X12_journal_43
  try unfold b_X12_journal_44
  repeat' (first | refine k6i ?_ ?_ | rfl)
theorem k6_before (M : MS) (x1 x2 x3 : Int32) : (f_X12_before M x1 x2 x3).2.1.1 6 = M.1.1 6 := by
  unfold f_X12_before
  try unfold b_X12_before_a31
  try unfold b_X12_before_a55
  repeat' (first | refine k6i ?_ ?_ | rfl)
theorem k6_again (M : MS) : (f_X12_again M).2.1.1 6 = M.1.1 6 := (k6_again_l 100000 _ 0).trans rfl
theorem k6_check (M : MS) : (f_X12_check M).2.1.1 6 = M.1.1 6 := (k6_check_l 100000 _ 0).trans rfl
theorem k6_image (M : MS) (x1 : Int32) : (f_X12_image M x1).2.1.1 6 = M.1.1 6 := by
  unfold f_X12_image
  by_cases z : f_X12_in x1 0 1 = 0
  · rw [if_pos z]
  · rw [if_neg z]
    exact (k6_image_l 100000 _ x1 0).trans rfl
theorem k6_back (M : MS) (x1 : Int32) : (f_X12_back M x1).2.1.1 6 = M.1.1 6 := by
  unfold f_X12_back b_X12_back_a38
  by_cases z : f_X12_in x1 0 1 = 0
  · rw [if_pos z]
  rw [if_neg z]
  by_cases y : M.1.2 3 x1.toNatClampNeg = (-1)
  · rw [if_pos y]
  · rw [if_neg y]
    exact (k6_back_l 100000 _ x1 0).trans rfl
theorem tell_lt {S : Cst} {M : MS} (r : RQ S M) (m : MI M) (z : ¬ M.1.1 6 = 600) : rw6 S 82 < 600 := by
  rw [show rw6 S 82 = M.1.1 6 from r]
  have a := m.2.2.1
  have e6 : (600 : Int32).toInt = 600 := by decide
  have z := mt iEq.mpr z
  exact iLt.mpr (by omega)
theorem rl_seats {S S2 : Cst} {M : MS} {v : Int32} (r : RQ S M) (k : KI S 82) (m : MI M) (x1 : Int32) (e : f_Y10_seats S 82 x1 = (v, S2)) : RQ S2 (f_X12_seats M x1).2 := rk (k_seats k x1) e r (k6_seats M x1)
theorem rl_there {S S2 : Cst} {M : MS} {v : Int32} (r : RQ S M) (k : KI S 82) (m : MI M) (x1 : Int32) (e : f_Y10_there S 82 x1 = (v, S2)) : RQ S2 (f_X12_there M x1).2 := rk (k_there k x1) e r (k6_there M x1)
theorem rl_gone {S S2 : Cst} {M : MS} {v : Int32} (r : RQ S M) (k : KI S 82) (m : MI M) (x1 : Int32) (e : f_Y10_gone S 82 x1 = (v, S2)) : RQ S2 (f_X12_gone M x1).2 := rk (k_gone k x1) e r (k6_gone M x1)
theorem rl_quorum {S S2 : Cst} {M : MS} {v : Int32} (r : RQ S M) (k : KI S 82) (m : MI M) (x1 : Int32) (e : f_Y10_quorum S 82 x1 = (v, S2)) : RQ S2 (f_X12_quorum M x1).2 := rk (k_quorum k x1) e r (k6_quorum M x1)
theorem rl_chair {S S2 : Cst} {M : MS} {v : Int32} (r : RQ S M) (k : KI S 82) (m : MI M) (x1 : Int32) (e : f_Y10_chair S 82 x1 = (v, S2)) : RQ S2 (f_X12_chair M x1).2 := rk (k_chair k x1) e r (k6_chair M x1)
theorem rl_majority {S S2 : Cst} {M : MS} {v : Int32} (r : RQ S M) (k : KI S 82) (m : MI M) (x1 x2 : Int32) (e : f_Y10_majority S 82 x1 x2 = (v, S2)) : RQ S2 (f_X12_majority M x1 x2).2 := rk (k_majority k x1 x2) e r (k6_majority M x1 x2)
theorem rl_limit {S S2 : Cst} {M : MS} {v : Int32} (r : RQ S M) (k : KI S 82) (m : MI M) (x1 : Int32) (e : f_Y10_limit S 82 x1 = (v, S2)) : RQ S2 (f_X12_limit M x1).2 := rk (k_limit k x1) e r (k6_limit M x1)
theorem rl_floor {S S2 : Cst} {M : MS} {v : Int32} (r : RQ S M) (k : KI S 82) (m : MI M) (x1 : Int32) (e : f_Y10_floor S 82 x1 = (v, S2)) : RQ S2 (f_X12_floor M x1).2 := rk (k_floor k x1) e r (k6_floor M x1)
theorem rl_cede {S S2 : Cst} {M : MS} {v : Int32} (r : RQ S M) (k : KI S 82) (m : MI M) (e : f_Y10_cede S 82 = (v, S2)) : RQ S2 (f_X12_cede M).2 := rk (k_cede k) e r (k6_cede M)
theorem rl_debate {S S2 : Cst} {M : MS} {v : Int32} (r : RQ S M) (k : KI S 82) (m : MI M) (x1 : Int32) (e : f_Y10_debate S 82 x1 = (v, S2)) : RQ S2 (f_X12_debate M x1).2 := rk (k_debate k x1) e r (k6_debate M x1)
theorem rl_draft {S S2 : Cst} {M : MS} {v : Int32} (r : RQ S M) (k : KI S 82) (m : MI M) (x1 : Int32) (e : f_Y10_draft S 82 x1 = (v, S2)) : RQ S2 (f_X12_draft M x1).2 := rk (k_draft k x1) e r (k6_draft M x1)
theorem rl_span {S S2 : Cst} {M : MS} {v : Int32} (r : RQ S M) (k : KI S 82) (m : MI M) (x1 x2 : Int32) (e : f_Y10_span S 82 x1 x2 = (v, S2)) : RQ S2 (f_X12_span M x1 x2).2 := rk (k_span k x1 x2) e r (k6_span M x1 x2)
theorem rl_word {S S2 : Cst} {M : MS} {v : Int32} (r : RQ S M) (k : KI S 82) (m : MI M) (x1 x2 x3 x4 : Int32) (e : f_Y10_word S 82 x1 x2 x3 x4 = (v, S2)) : RQ S2 (f_X12_word M x1 x2 x3 x4).2 := rk (k_word k x1 x2 x3 x4) e r (k6_word M x1 x2 x3 x4)
theorem rl_lay {S S2 : Cst} {M : MS} {v : Int32} (r : RQ S M) (k : KI S 82) (m : MI M) (x1 : Int32) (e : f_Y10_lay S 82 x1 = (v, S2)) : RQ S2 (f_X12_lay M x1).2 := rk (k_lay k x1) e r (k6_lay M x1)
theorem rl_take {S S2 : Cst} {M : MS} {v : Int32} (r : RQ S M) (k : KI S 82) (m : MI M) (x1 : Int32) (e : f_Y10_take S 82 x1 = (v, S2)) : RQ S2 (f_X12_take M x1).2 := rk (k_take k x1) e r (k6_take M x1)
theorem rl_move {S S2 : Cst} {M : MS} {v : Int32} (r : RQ S M) (k : KI S 82) (m : MI M) (x1 : Int32) (e : f_Y10_move S 82 x1 = (v, S2)) : RQ S2 (f_X12_move M x1).2 := rk (k_move k x1) e r (k6_move M x1)
theorem rl_second {S S2 : Cst} {M : MS} {v : Int32} (r : RQ S M) (k : KI S 82) (m : MI M) (x1 : Int32) (e : f_Y10_second S 82 x1 = (v, S2)) : RQ S2 (f_X12_second M x1).2 := rk (k_second k x1) e r (k6_second M x1)
theorem rl_vote {S S2 : Cst} {M : MS} {v : Int32} (r : RQ S M) (k : KI S 82) (m : MI M) (x1 x2 : Int32) (e : f_Y10_vote S 82 x1 x2 = (v, S2)) : RQ S2 (f_X12_vote M x1 x2).2 := rk (k_vote k x1 x2) e r (k6_vote M x1 x2)
theorem rl_withdraw {S S2 : Cst} {M : MS} {v : Int32} (r : RQ S M) (k : KI S 82) (m : MI M) (x1 : Int32) (e : f_Y10_withdraw S 82 x1 = (v, S2)) : RQ S2 (f_X12_withdraw M x1).2 := rk (k_withdraw k x1) e r (k6_withdraw M x1)
theorem rl_rule {S S2 : Cst} {M : MS} {v : Int32} (r : RQ S M) (k : KI S 82) (m : MI M) (e : f_Y10_rule S 82 = (v, S2)) : RQ S2 (f_X12_rule M).2 := rk (k_rule k) e r (k6_rule M)
theorem rl_appeal {S S2 : Cst} {M : MS} {v : Int32} (r : RQ S M) (k : KI S 82) (m : MI M) (x1 : Int32) (e : f_Y10_appeal S 82 x1 = (v, S2)) : RQ S2 (f_X12_appeal M x1).2 := rk (k_appeal k x1) e r (k6_appeal M x1)
theorem rl_told {S S2 : Cst} {M : MS} {v : Int32} (r : RQ S M) (k : KI S 82) (m : MI M) (e : f_Y10_told S 82 = (v, S2)) : RQ S2 (f_X12_told M).2 := rk (k_told k) e r (k6_told M)
theorem rl_adjourn {S S2 : Cst} {M : MS} {v : Int32} (r : RQ S M) (k : KI S 82) (m : MI M) (e : f_Y10_adjourn S 82 = (v, S2)) : RQ S2 (f_X12_adjourn M).2 := rk (k_adjourn k) e r (k6_adjourn M)
theorem rl_order {S S2 : Cst} {M : MS} {v : Int32} (r : RQ S M) (k : KI S 82) (m : MI M) (x1 : Int32) (e : f_Y10_order S 82 x1 = (v, S2)) : RQ S2 (f_X12_order M x1).2 := rk (k_order k x1) e r (k6_order M x1)
theorem rl_why {S : Cst} {M : MS} (r : RQ S M) (_ : KI S 82) (_ : MI M) : RQ S (f_X12_why M).2 := r.trans (k6_why M).symm
theorem rl_pending {S : Cst} {M : MS} (r : RQ S M) (_ : KI S 82) (_ : MI M) (x1 x2 : Int32) : RQ S (f_X12_pending M x1 x2).2 := r.trans (k6_pending M x1 x2).symm
theorem rl_text {S : Cst} {M : MS} (r : RQ S M) (_ : KI S 82) (_ : MI M) (x1 x2 : Int32) : RQ S (f_X12_text M x1 x2).2 := r.trans (k6_text M x1 x2).symm
theorem rl_ballot {S : Cst} {M : MS} (r : RQ S M) (_ : KI S 82) (_ : MI M) (x1 : Int32) : RQ S (f_X12_ballot M x1).2 := r.trans (k6_ballot M x1).symm
theorem rl_desk {S : Cst} {M : MS} (r : RQ S M) (_ : KI S 82) (_ : MI M) (x1 x2 : Int32) : RQ S (f_X12_desk M x1 x2).2 := r.trans (k6_desk M x1 x2).symm
theorem rl_lying {S : Cst} {M : MS} (r : RQ S M) (_ : KI S 82) (_ : MI M) (x1 x2 : Int32) : RQ S (f_X12_lying M x1 x2).2 := r.trans (k6_lying M x1 x2).symm
theorem rl_result {S : Cst} {M : MS} (r : RQ S M) (_ : KI S 82) (_ : MI M) (x1 x2 : Int32) : RQ S (f_X12_result M x1 x2).2 := r.trans (k6_result M x1 x2).symm
theorem rl_count {S : Cst} {M : MS} (r : RQ S M) (_ : KI S 82) (_ : MI M) (x1 : Int32) : RQ S (f_X12_count M x1).2 := r.trans (k6_count M x1).symm
theorem rl_seat {S : Cst} {M : MS} (r : RQ S M) (_ : KI S 82) (_ : MI M) (x1 : Int32) : RQ S (f_X12_seat M x1).2 := r.trans (k6_seat M x1).symm
theorem rl_journal {S : Cst} {M : MS} (r : RQ S M) (_ : KI S 82) (_ : MI M) (x1 x2 : Int32) : RQ S (f_X12_journal M x1 x2).2 := r.trans (k6_journal M x1 x2).symm
theorem rl_before {S S2 : Cst} {M : MS} {v : Int32} (r : RQ S M) (k : KI S 82) (m : MI M) (x1 x2 x3 : Int32) (e : f_Y10_before S 82 x1 x2 x3 = (v, S2)) : RQ S2 (f_X12_before M x1 x2 x3).2 := rk (k_before k x1 x2 x3) e r (k6_before M x1 x2 x3)
theorem rl_again {S S2 : Cst} {M : MS} {v : Int32} (r : RQ S M) (k : KI S 82) (m : MI M) (e : f_Y10_again S 82 = (v, S2)) : RQ S2 (f_X12_again M).2 := rk (k_again k) e r (k6_again M)
theorem rl_tell {S S2 : Cst} {M : MS} {v : Int32} (r : RQ S M) (k : KI S 82) (m : MI M) (x1 x2 x3 x4 x5 x6 : Int32) (e : f_Y10_tell S 82 x1 x2 x3 x4 x5 x6 = (v, S2)) : RQ S2 (f_X12_tell M x1 x2 x3 x4 x5 x6).2 := by
  have q := r6_tell k x1 x2 x3 x4 x5 x6
  rw [e] at q
  unfold f_X12_tell
  by_cases z : M.1.1 6 = 600
  · rw [if_pos z]
    exact (q.2 (by rw [show rw6 S 82 = M.1.1 6 from r, z]; decide)).2.trans r
  · rw [if_neg z]
    exact (q.1 (tell_lt r m z)).2.trans (congrArg (· + 1) (show rw6 S 82 = M.1.1 6 from r))
theorem rl_check {S S2 : Cst} {M : MS} {v : Int32} (r : RQ S M) (k : KI S 82) (m : MI M) (e : f_Y10_check S 82 = (v, S2)) : RQ S2 (f_X12_check M).2 := rk (k_check k) e r (k6_check M)
theorem rl_strike {S S2 : Cst} {M : MS} {v : Int32} (r : RQ S M) (k : KI S 82) (m : MI M) (e : f_Y10_strike S 82 = (v, S2)) : RQ S2 (f_X12_strike M).2 := by
  have q := (r6_strike k).2
  rw [e] at q
  exact q
theorem rl_image {S S2 : Cst} {M : MS} {v : Int32} (r : RQ S M) (k : KI S 82) (m : MI M) (x1 : Int32) (e : f_Y10_image S 82 x1 = (v, S2)) : RQ S2 (f_X12_image M x1).2 := rk (k_image k x1) e r (k6_image M x1)
theorem rl_back {S S2 : Cst} {M : MS} {v : Int32} (r : RQ S M) (k : KI S 82) (m : MI M) (x1 : Int32) (e : f_Y10_back S 82 x1 = (v, S2)) : RQ S2 (f_X12_back M x1).2 := rk (k_back k x1) e r (k6_back M x1)
theorem eq_tell {S S2 : Cst} {M : MS} {v : Int32} (r : RQ S M) (k : KI S 82) (m : MI M) (x1 x2 x3 x4 x5 x6 : Int32) (e : f_Y10_tell S 82 x1 x2 x3 x4 x5 x6 = (v, S2)) : v = (f_X12_tell M x1 x2 x3 x4 x5 x6).1 := by
  have q := r6_tell k x1 x2 x3 x4 x5 x6
  rw [e] at q
  unfold f_X12_tell
  by_cases z : M.1.1 6 = 600
  · rw [if_pos z]
    exact (q.2 (by rw [show rw6 S 82 = M.1.1 6 from r, z]; decide)).1
  · rw [if_neg z]
    exact (q.1 (tell_lt r m z)).1.trans (congrArg (· + 1) (show rw6 S 82 = M.1.1 6 from r))
