/-! ===== check; readers move nothing ===== -/
section
variable {x y a b l : Nat} {r2 r3 : Option Nat} {S S1 S2 S3 S4 Sk : Cst} {T T1 T2 T3 Tk : Nat → List Nat} {col c1 c2 c3 ck : Nat → Nat} {H H2 G R O : HS} {M M2 : MS} {v : Int32} {P z : Nat → Int32}
/-- the floor's own and the Hall in use stand -/
def kr (M : MS) : (Int32 × MS) ⊕ (MS × Int32) → Prop
  | Sum.inl r => r.2.1 = M.1 ∧ r.2.2.1 = M.2.1
  | Sum.inr r => r.1.1 = M.1 ∧ r.1.2.1 = M.2.1
theorem kr_s1 (M : MS) (a b c d : Int32) : (∀ r, st_X12_check_51 M a b c d = Sum.inl r → kr M r) ∧ (∀ r, st_X12_check_51 M a b c d = Sum.inr r → r.1.1 = M.1 ∧ r.1.2.1 = M.2.1) := by
  unfold st_X12_check_51 b_X12_check_a122 b_X12_check_142
  refine ⟨fun r e => ?_, fun r e => ?_⟩
  · repeat' split at e
    all_goals (cases e <;> exact ⟨rfl, rfl⟩)
  · repeat' split at e
    all_goals (cases e <;> exact ⟨rfl, rfl⟩)
theorem kr_l1 : ∀ (n : Nat) (M : MS) (a b c d : Int32), kr M (lp_X12_check_51 n M a b c d) := by
  intro n
  induction n with
  | zero => intro M a b c d; exact ⟨rfl, rfl⟩
  | succ n ih =>
    intro M a b c d
    rw [lp_X12_check_51]
    have s := kr_s1 M a b c d
    cases h : st_X12_check_51 M a b c d with
    | inl r => exact s.1 r h
    | inr r =>
      have q := ih r.1 r.2.1 r.2.2.1 r.2.2.2.1 r.2.2.2.2
      obtain ⟨e1, e2⟩ := s.2 r h
      unfold kr at q ⊢
      rw [e1, e2] at q
      exact q
theorem kr_s (M : MS) (x : Int32) : kr M (st_X12_check_16 M x) := by
  unfold st_X12_check_16
  by_cases z : M.1.1 6 ≤ x
  · rw [if_pos z]
    exact ⟨rfl, rfl⟩
  · rw [if_neg z]
    generalize f_X12_numbers (M.1.2 5 (6 * x).toNatClampNeg) = k
    by_cases y : k = -1
    · rw [if_pos y]
      exact ⟨rfl, rfl⟩
    · rw [if_neg y]
      exact kr_l1 _ M _ _ _ _
theorem kr_l : ∀ (n : Nat) (M : MS) (x : Int32), (lp_X12_check_16 n M x).2.1 = M.1 ∧ (lp_X12_check_16 n M x).2.2.1 = M.2.1 := by
  intro n
  induction n with
  | zero => intro M x; exact ⟨rfl, rfl⟩
  | succ n ih =>
    intro M x
    rw [lp_X12_check_16]
    have s := kr_s M x
    generalize st_X12_check_16 M x = r at s
    cases r with
    | inl r => exact s
    | inr r =>
      obtain ⟨e1, e2⟩ := ih r.1 r.2
      exact ⟨e1.trans s.1, e2.trans s.2⟩
theorem cbd_l (i j : Int32) : ∀ (n : Nat) (k : Int32), 0 ≤ k.toInt → k.toInt ≤ 5 → 5 - k.toInt < n → lp_Y10_canBeDone_33 S 82 n i j k ≠ 0 → ∀ m : Int32, k.toInt ≤ m.toInt → m.toInt < 5 → f_Y3_at S ((grC S 82 4).getD 0) i m = 0 := by
  have e5 : (5 : Int32).toInt = 5 := by decide
  intro n
  induction n with
  | zero => intro k h1 h2 h3; omega
  | succ n ih =>
    intro k h1 h2 h3 h m hm1 hm2
    rw [lp_Y10_canBeDone_33] at h
    unfold st_Y10_canBeDone_33 at h
    by_cases c : 5 ≤ k
    · have := iLe.mp c
      rw [e5] at this
      omega
    · rw [if_neg c] at h
      have c := mt iLe.mpr c
      rw [e5] at c
      have e1 := iAdd (x := k) (y := 1) (by rw [i1]; omega) (by rw [i1]; omega)
      rw [i1] at e1
      by_cases d : f_Y3_at S ((grC S 82 4).getD 0) i k = 0
      · rw [if_pos d] at h
        by_cases y : m = k
        · rw [y]
          exact d
        · have y' := mt iEq.mpr y
          exact ih (k + 1) (by omega) (by omega) (by omega) h m (by omega) hm2
      · rw [if_neg d] at h
        exact absurd rfl h
theorem tab_22 {act : Int32} (h1 : 1 ≤ act.toInt) (h2 : act.toInt ≤ 22) : tabN act.toNatClampNeg = f_X12_numbers act ∧ 0 ≤ (f_X12_numbers act).toInt ∧ (f_X12_numbers act).toInt ≤ 4 := by
  rcases act_22 h1 h2 with rfl | rfl | rfl | rfl | rfl | rfl | rfl | rfl | rfl | rfl | rfl | rfl | rfl | rfl | rfl | rfl | rfl | rfl | rfl | rfl | rfl | rfl <;> exact ⟨by decide, by decide, by decide⟩
theorem cbd_v {i : Int32} (h : f_Y10_canBeDone S 82 i ≠ 0) : (1 ≤ (f_Y3_at S ((grC S 82 4).getD 0) i 0).toInt ∧ (f_Y3_at S ((grC S 82 4).getD 0) i 0).toInt ≤ 22) ∧ nz (f_Y3_at S ((grC S 82 4).getD 0) i 0) (f_Y3_at S ((grC S 82 4).getD 0) i 1) (f_Y3_at S ((grC S 82 4).getD 0) i 2) (f_Y3_at S ((grC S 82 4).getD 0) i 3) (f_Y3_at S ((grC S 82 4).getD 0) i 4) := by
  have e23 : (23 : Int32).toInt = 23 := by decide
  unfold f_Y10_canBeDone b_Y10_canBeDone_23 at h
  by_cases c1 : f_Y3_at S ((grC S 82 4).getD 0) i 0 < 1
  · rw [if_pos c1] at h
    exact absurd rfl h
  · rw [if_neg c1] at h
    by_cases c2 : f_Y3_at S ((grC S 82 4).getD 0) i 0 < 23
    · rw [if_pos c2] at h
      have c1 := mt iLt.mpr c1
      have c2 := iLt.mp c2
      rw [i1] at c1
      rw [e23] at c2
      obtain ⟨t1, t2, t3⟩ := tab_22 (act := f_Y3_at S ((grC S 82 4).getD 0) i 0) (by omega) (by omega)
      rw [t1] at h
      have e1 := iAdd (x := f_X12_numbers (f_Y3_at S ((grC S 82 4).getD 0) i 0)) (y := 1) (by rw [i1]; omega) (by rw [i1]; omega)
      rw [i1] at e1
      have L := cbd_l i _ 100000 _ (by omega) (by omega) (by omega) h
      have y2 : (2 : Int32).toInt = 2 := by decide
      have y3 : (3 : Int32).toInt = 3 := by decide
      have y4 : (4 : Int32).toInt = 4 := by decide
      refine ⟨⟨by omega, by omega⟩, fun q => ?_, fun q => ?_, fun q => ?_, fun q => ?_⟩
      · have q := iLe.mp q
        rw [i0] at q
        exact L 1 (by rw [i1]; omega) (by rw [i1]; omega)
      · have q := iLe.mp q
        rw [i1] at q
        exact L 2 (by rw [y2]; omega) (by rw [y2]; omega)
      · have q := iLe.mp q
        rw [y2] at q
        exact L 3 (by rw [y3]; omega) (by rw [y3]; omega)
      · have q := iLe.mp q
        rw [y3] at q
        exact L 4 (by rw [y4]; omega) (by rw [y4]; omega)
    · rw [if_neg c2] at h
      exact absurd rfl h
theorem chk_l : ∀ (f : Nat) (S : Cst) (T : Nat → List Nat) (col : Nat → Nat) (k : Int32) (G : HS), KJ 82 a b r2 r3 l S T col → CT S M a b r2 r3 l T → TB S T b G → ∃ v S3 T3 c3, lp_Y10_check_19 82 f S k = (v, S3) ∧ KJ 82 a b r2 r3 l S3 T3 c3 ∧ CT S3 M a b r2 r3 l T3 := by
  intro f
  induction f with
  | zero => intro S T col k G h c t; exact ⟨_, S, T, col, rfl, h, c⟩
  | succ f ih =>
    intro S T col k G h c t
    rw [lp_Y10_check_19]
    unfold st_Y10_check_19 b_Y10_check_52
    by_cases d1 : giC S ((grC S 82 4).getD 0) 3 ≤ k
    · rw [if_pos d1]
      exact ⟨_, S, T, col, rfl, h, c⟩
    rw [if_neg d1]
    by_cases d2 : f_Y3_at S ((grC S 82 4).getD 0) k 5 < 0
    · rw [if_pos d2]
      exact ⟨_, S, T, col, rfl, h, c⟩
    rw [if_neg d2]
    by_cases d3 : f_Y10_canBeDone S 82 k = 0
    · rw [if_pos d3]
      exact ⟨_, S, T, col, rfl, h, c⟩
    rw [if_neg d3]
    obtain ⟨e1, e2⟩ := cbd_v d3
    obtain ⟨S3, T3, c3, f3, k3, ct3, tb3⟩ := tr_act h c t e1.1 e1.2 e2
    rw [h.g1, Option.getD_some, f3]
    unfold b_Y10_check_106a
    by_cases d4 : (f_X11_act G (f_Y3_at S ((grC S 82 4).getD 0) k 0) (f_Y3_at S ((grC S 82 4).getD 0) k 1) (f_Y3_at S ((grC S 82 4).getD 0) k 2) (f_Y3_at S ((grC S 82 4).getD 0) k 3) (f_Y3_at S ((grC S 82 4).getD 0) k 4)).1 = f_Y3_at S ((grC S 82 4).getD 0) k 5
    · rw [if_pos d4]
      exact ih S3 T3 c3 (k + 1) _ k3 ct3 tb3
    · rw [if_neg d4]
      exact ⟨_, S3, T3, c3, rfl, k3, ct3⟩
theorem rq_check (q : RQ S M) (mi : MI M) (e : f_Y10_check S 82 = (v, S2)) : RQ S2 (f_X12_check M).2 := by
  obtain ⟨a, b, r2, r3, l, T, col, h, c⟩ := q
  have wa := h.ci.wf.w0 (KJ.ka h)
  have m1 : (f_X12_check M).2.1 = M.1 ∧ (f_X12_check M).2.2.1 = M.2.1 := by
    unfold f_X12_check b_X12_check_a14
    generalize (f_X11_begin M.2.2 (M.2.1.1 0)).2 = B
    obtain ⟨e1, e2⟩ := kr_l 100000 (mS M B) 0
    exact ⟨e1, e2⟩
  refine RQ.cg (M := M) ?_ m1.1 m1.2
  obtain ⟨S3, T3, f, k3, ct, tb⟩ := tr_beg h c mi
  obtain ⟨v', S4, T4, c4, f4, k4, ct4⟩ := chk_l 100000 S3 T3 col 0 _ k3 ct tb
  unfold f_Y10_check b_Y10_check_17a at e
  rw [h.g1, h.g0, Option.getD_some, Option.getD_some, wa.2.1.1, Option.getD_some, f] at e
  simp only at e
  rw [f4] at e
  obtain ⟨-, rfl⟩ := Prod.mk.inj e
  exact ⟨a, b, r2, r3, l, T4, c4, k4, ct4⟩
/-- readers -/
theorem ms_i {c : Prop} [Decidable c] {p q : Int32 × MS} (h1 : p.2 = M) (h2 : q.2 = M) : (if c then p else q).2 = M := by
  by_cases h : c
  · rw [if_pos h]
    exact h1
  · rw [if_neg h]
    exact h2
theorem vt_s (G : HS) (y : Int32) : ∀ (n : Nat) (u w : Int32), (lp_X11_voters_4 n G y u w).2 = G := by
  intro n
  induction n with
  | zero => intro u w; rfl
  | succ n ih =>
    intro u w
    rw [lp_X11_voters_4]
    unfold st_X11_voters_4 b_X11_voters_34
    by_cases c : G.1 0 ≤ w
    · rw [if_pos c]
    · rw [if_neg c]
      by_cases d : 2 ≤ G.2 29 ((200 * y) + w).toNatClampNeg
      · rw [if_pos d]
        exact ih _ _
      · rw [if_neg d]
        exact ih _ _
theorem tx_i {c : Prop} [Decidable c] {p q : Int32 × HS} (h1 : p.2 = G) (h2 : q.2 = G) : (if c then p else q).2 = G := by
  by_cases h : c
  · rw [if_pos h]
    exact h1
  · rw [if_neg h]
    exact h2
theorem tx_s (G : HS) (i j : Int32) : (f_X11_text G i j).2 = G := by
  unfold f_X11_text b_X11_text_29 b_X11_text_59 b_X11_text_87 b_X11_text_124 b_X11_text_125
  repeat' (first | refine tx_i ?_ ?_ | rfl)
theorem ms_text (M : MS) (i j : Int32) : (f_X12_text M i j).2 = M := by
  unfold f_X12_text b_X12_text_a9
  rw [tx_s]
  rfl
theorem ms_pending (M : MS) (i j : Int32) : (f_X12_pending M i j).2 = M := by
  have v : ∀ y, mH M (f_X11_voters M.2.1 y).2 = M := fun y => by
    unfold f_X11_voters
    rw [vt_s]
    rfl
  unfold f_X12_pending b_X12_pending_181 b_X12_pending_a190
  repeat' (first | refine ms_i ?_ ?_ | exact v _ | rfl)
theorem ms_ballot (M : MS) (i : Int32) : (f_X12_ballot M i).2 = M := by
  unfold f_X12_ballot b_X12_ballot_27 b_X12_ballot_a46 b_X12_ballot_61
  repeat' (first | refine ms_i ?_ ?_ | rfl)
theorem ms_desk (M : MS) (i j : Int32) : (f_X12_desk M i j).2 = M := by
  unfold f_X12_desk b_X12_desk_19 b_X12_desk_123 b_X12_desk_143 b_X12_desk_174 b_X12_desk_194 b_X12_desk_217 b_X12_desk_218
  repeat' (first | refine ms_i ?_ ?_ | rfl)
theorem ms_lying (M : MS) (i j : Int32) : (f_X12_lying M i j).2 = M := by
  unfold f_X12_lying b_X12_lying_22 b_X12_lying_75
  repeat' (first | refine ms_i ?_ ?_ | rfl)
theorem ms_result (M : MS) (i j : Int32) : (f_X12_result M i j).2 = M := by
  unfold f_X12_result b_X12_result_42 b_X12_result_43
  repeat' (first | refine ms_i ?_ ?_ | rfl)
theorem ms_count (M : MS) (i : Int32) : (f_X12_count M i).2 = M := by
  unfold f_X12_count b_X12_count_170
  repeat' (first | refine ms_i ?_ ?_ | rfl)
theorem ms_seat (M : MS) (i : Int32) : (f_X12_seat M i).2 = M := by
  unfold f_X12_seat b_X12_seat_38
  repeat' (first | refine ms_i ?_ ?_ | rfl)
theorem ms_journal (M : MS) (i j : Int32) : (f_X12_journal M i j).2 = M := by
  unfold f_X12_journal b_X12_journal_43 b_X12_journal_44
  repeat' (first | refine ms_i ?_ ?_ | rfl)
end
