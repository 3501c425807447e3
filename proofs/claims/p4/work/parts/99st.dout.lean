/-! ===== the deeds: a result told: what comes of the votes ===== -/
section
variable {wF : Prop × (Nat → Int32) × Int32 × (Nat → Int32)} {E : Nat → Prop} {x : Nat} {S S1 S2 S3 : Cst} {T T1 T2 T3 : Nat → List Nat} {F F1 : List Nat} {col c1 c2 c3 : Nat → Nat} {H H2 H3 G : HS} {N N2 M M2 : Int} {D : Nat → Prop} {v : Int32}
theorem out_v (a : AS x S T col S1 T1 c1) (r : RR wF N S1 T1 x H) (h : HA H) (z : ¬ H.1 6 = 0) {q : Nat} (mu : mR S1 q H (f_X11_top H).1.toNatClampNeg) {Y Z b : Int32} (hu : H.2 16 (f_X11_top H).1.toNatClampNeg = -1 → Y = 0 ∧ Z = 0) : b_X11_told_119 H (f_X11_top H).1 (H.2 14 (f_X11_top H).1.toNatClampNeg) Y Z b = b_X11_told_184 H (f_X11_top H).1 (H.2 14 (f_X11_top H).1.toNatClampNeg) Y Z (f_Y7_outcomeOf S1 (x + 37) (some q) Y Z) := by
  have w1 := a.w1
  obtain ⟨l, e⟩ := top_L h z
  have uk := (h.1.1.2.2.2.2.1 0 _ l).1
  rw [e] at uk
  have k2 := mu.1.1
  have k4 := mu.1.2.2.1
  have r0 := r.1.1.1
  have r12 := r.1.2.2.1
  unfold b_X11_told_119 f_Y7_outcomeOf b_X11_told_a129 b_X11_told_a152 b_X11_told_142 b_X11_told_143 b_X11_told_a174 b_X11_told_182 b_Y7_outcomeOf_19 b_Y7_outcomeOf_48
  rw [seconder_s, sec_v, Option.getD_some, k2, k4]
  generalize f_X11_top H = tt at *
  generalize H.2 14 tt.1.toNatClampNeg = k at *
  by_cases k9 : k = 9
  · rw [if_pos k9, if_pos k9]
    by_cases s : H.2 16 tt.1.toNatClampNeg = -1
    · obtain ⟨rfl, rfl⟩ := hu s
      rw [if_pos s, if_pos rfl, if_pos (by decide)]
    · rw [if_neg s, if_neg h10]
      by_cases y : Z ≤ Y
      · rw [if_pos y, if_pos y]
      · rw [if_neg y, if_neg y]
  · rw [if_neg k9, if_neg k9]
    by_cases s : H.2 16 tt.1.toNatClampNeg = -1
    · rw [if_pos s, if_pos rfl, if_pos s]
    · rw [if_neg s, if_neg h10, if_neg s]
      have n9 := mt iEq.mpr k9
      have e9' : (9 : Int32).toInt = 9 := by decide
      have eo9 : (Int32.ofNat 9).toInt = 9 := by decide
      rw [e9'] at n9
      have kk := iNat (x := k) (by omega)
      have mj : f_Y2_isMajority S1 (x + 37) k Y Z = (f_X11_carries H (H.2 12 k.toNatClampNeg) Y Z).1 := by
        unfold f_Y2_isMajority b_Y2_isMajority_24 b_Y2_isMajority_42 b_Y2_isMajority_68 b_Y2_isMajority_69 b_Y2_isMajority_85 f_X11_carries b_X11_carries_61 b_X11_carries_42 b_X11_carries_61
        rw [if_neg (fun y => by have := iLt.mp y; rw [i1] at this; omega), w1.2.1.2, Option.getD_some, w1.1.2.2.2, if_pos (iLt.mpr (by rw [eo9]; omega)), show giC S1 (x + 37 + 2) k.toNatClampNeg = H.2 12 k.toNatClampNeg from r12 _ (by omega), r0]
        repeat' split
        all_goals rfl
      rw [mj, carries_s]
      by_cases y : (f_X11_carries H (H.2 12 k.toNatClampNeg) Y Z).1 = 0
      · rw [if_pos y, if_pos y]
      · rw [if_neg y, if_neg y]
theorem c5 {y : Int32} (hy : 0 ≤ y.toInt ∧ y.toInt < 600) {j : Int32} (hj : 0 ≤ j.toInt ∧ j.toInt ≤ 4) : (5 * y).toNatClampNeg = 5 * y.toNatClampNeg ∧ ((5 * y) + j).toNatClampNeg = 5 * y.toNatClampNeg + j.toNatClampNeg := by
  have e5 : (5 : Int32).toInt = 5 := by decide
  have m := iMul (x := 5) (y := y) (n := 5 * y.toInt) (by rw [e5]) (by omega) (by omega)
  have a := iAdd (x := 5 * y) (y := j) (by rw [m]; omega) (by rw [m]; omega)
  rw [m] at a
  have k := iNat (x := (5 * y) + j) (by omega)
  have k0 := iNat (x := 5 * y) (by omega)
  have k1 := iNat hy.1
  have k2 := iNat hj.1
  exact ⟨by omega, by omega⟩
/-- behind the result, in the reference -/
theorem t184 (h8 : 0 ≤ (H.1 8).toInt ∧ (H.1 8).toInt < 600) (t k Y Z o : Int32) : b_X11_told_184 H t k Y Z o = (o, if o = 1 then (f_X11_carried (sI (kpH H k o Y Z) 5 (-1)) t k).2 else if o = 4 then (f_X11_goes (f_X11_goes (sI (kpH H k o Y Z) 5 (-1))).2).2 else (f_X11_goes (sI (kpH H k o Y Z) 5 (-1))).2) := by
  have e1 := (c5 h8 (j := 1) (by decide)).2
  have e2 := (c5 h8 (j := 2) (by decide)).2
  have e3 := (c5 h8 (j := 3) (by decide)).2
  have e4 := (c5 h8 (j := 4) (by decide)).2
  have e0 := (c5 h8 (j := 4) (by decide)).1
  have n1 : (1 : Int32).toNatClampNeg = 1 := by decide
  have n2 : (2 : Int32).toNatClampNeg = 2 := by decide
  have n3 : (3 : Int32).toNatClampNeg = 3 := by decide
  have n4 : (4 : Int32).toNatClampNeg = 4 := by decide
  rw [n1] at e1
  rw [n2] at e2
  rw [n3] at e3
  rw [n4] at e4
  unfold b_X11_told_184 b_X11_told_a272 b_X11_told_a279 b_X11_told_289 b_X11_told_a289
  rw [e0, e1, e2, e3, e4]
  by_cases z1 : o = 1
  · rw [if_pos z1, if_pos z1]
    rfl
  · rw [if_neg z1, if_neg z1]
    by_cases z4 : o = 4
    · rw [if_pos z4, if_pos z4]
      rfl
    · rw [if_neg z4, if_neg z4]
      rfl
theorem told_u (H : HS) (sec : (f_X11_hasSeconder H).1 = 0) (t k : Int32) (h0 : ¬ H.1 0 ≤ 0) : ∀ n, lp_X11_told_33 (n + 1) H t k 0 0 0 = b_X11_told_119 H t k 0 0 0 := by
  intro n
  rw [lp_X11_told_33]
  unfold st_X11_told_33 b_X11_told_a46
  rw [if_neg h0, seconder_s, if_pos sec]
theorem out_k {q : Nat} {Y Z k : Int32} (k2 : giC S1 q 2 = k) : (f_Y7_outcomeOf S1 (x + 37) (some q) Y Z = 1 → k ≠ 9) ∧ (f_Y7_outcomeOf S1 (x + 37) (some q) Y Z = 4 → k = 9) := by
  unfold f_Y7_outcomeOf b_Y7_outcomeOf_19 b_Y7_outcomeOf_48
  rw [Option.getD_some, k2]
  by_cases k9 : k = 9
  · rw [if_pos k9]
    refine ⟨fun e => ?_, fun _ => k9⟩
    exfalso
    by_cases y : Z ≤ Y
    · rw [if_pos y] at e
      exact absurd e (by decide)
    · rw [if_neg y] at e
      exact absurd e (by decide)
  · rw [if_neg k9]
    refine ⟨fun _ => k9, fun e => ?_⟩
    exfalso
    by_cases y : giC S1 q 4 = -1
    · rw [if_pos y] at e
      exact absurd e (by decide)
    · rw [if_neg y] at e
      by_cases w : f_Y2_isMajority S1 (x + 37) k Y Z = 0
      · rw [if_pos w] at e
        exact absurd e (by decide)
      · rw [if_neg w] at e
        exact absurd e (by decide)
/-- the votes, in both; the class's way to the keeping -/
theorem ann_v (a : AS x S T col S1 T1 c1) (r : RR wF N S1 T1 x H) (h : HA H) (h8 : (H.1 8).toInt < 600) (z : ¬ H.1 6 = 0) (qu : ¬ (H.1 1).toInt < (H.1 3).toInt) {q : Nat} (mu : mR S1 q H (f_X11_top H).1.toNatClampNeg) (kq : iK S1 q 3) : ∃ hd Y Z o, f_Y7_announce S1 x (some q) = b_Y7_announce_89a ((f_Y7_keep S1 x (H.2 14 (f_X11_top H).1.toNatClampNeg) o Y Z).2) x (some q) hd Y Z o ∧ f_X11_told H = (o, if o = 1 then (f_X11_carried (sI (kpH H (H.2 14 (f_X11_top H).1.toNatClampNeg) o Y Z) 5 (-1)) (f_X11_top H).1 (H.2 14 (f_X11_top H).1.toNatClampNeg)).2 else if o = 4 then (f_X11_goes (f_X11_goes (sI (kpH H (H.2 14 (f_X11_top H).1.toNatClampNeg) o Y Z) 5 (-1))).2).2 else (f_X11_goes (sI (kpH H (H.2 14 (f_X11_top H).1.toNatClampNeg) o Y Z) 5 (-1))).2) ∧ (o = 1 → H.2 14 (f_X11_top H).1.toNatClampNeg ≠ 9) ∧ (o = 4 → H.2 14 (f_X11_top H).1.toNatClampNeg = 9) := by
  have h0 := h.1.ra.1
  have ti := top_in h.1.ra (pend_pos h.1.ra z)
  have h8' : 0 ≤ (H.1 8).toInt ∧ (H.1 8).toInt < 600 := ⟨h.2.2.1, h8⟩
  have k2 := mu.1.1
  have k4 := mu.1.2.2.1
  have r0 := r.1.1.1
  have hs0 : ¬ H.1 0 ≤ 0 := fun y => by
    have := iLe.mp y
    rw [i0] at this
    omega
  have e1 : f_X11_told H = lp_X11_told_33 100000 H (f_X11_top H).1 (H.2 14 (f_X11_top H).1.toNatClampNeg) 0 0 0 := by
    unfold f_X11_told b_X11_told_a17
    rw [if_pos (iLe.mpr (by omega)), top_s]
  have q1 : f_Y2_hasQuorum S1 (x + 37) = 1 := by
    unfold f_Y2_hasQuorum b_Y2_hasQuorum_16
    rw [r.1.1.2.1, r.1.1.2.2.2.1, if_neg (fun y => qu (iLt.mp y))]
  have e2 : ∀ hd Y Z, b_Y7_announce_61 S1 x (some q) hd Y Z = b_Y7_announce_89a ((f_Y7_keep S1 x (H.2 14 (f_X11_top H).1.toNatClampNeg) (f_Y7_outcomeOf S1 (x + 37) (some q) Y Z) Y Z).2) x (some q) hd Y Z (f_Y7_outcomeOf S1 (x + 37) (some q) Y Z) := fun hd Y Z => by
    unfold b_Y7_announce_61
    rw [Option.getD_some, k2, a.g0, Option.getD_some]
  have e3 : f_Y7_announce S1 x (some q) = if H.2 16 (f_X11_top H).1.toNatClampNeg = -1 then b_Y7_announce_61 S1 x (some q) 0 0 0 else b_Y7_announce_61 S1 x (some q) 1 (f_Y2_tally S1 (x + 37) (some q) 1) (f_Y2_tally S1 (x + 37) (some q) 0) := by
    unfold f_Y7_announce b_Y7_announce_25 b_Y7_announce_43
    rw [a.g0, Option.getD_some, q1, if_neg h10, Option.getD_some, k4]
    by_cases s : H.2 16 (f_X11_top H).1.toNatClampNeg = -1
    · rw [if_pos s, if_pos s, if_pos rfl, if_pos rfl]
    · rw [if_neg s, if_neg s, if_neg h10, if_neg h10]
  have fin : ∀ hd Y Z b, f_Y7_announce S1 x (some q) = b_Y7_announce_61 S1 x (some q) hd Y Z → f_X11_told H = b_X11_told_119 H (f_X11_top H).1 (H.2 14 (f_X11_top H).1.toNatClampNeg) Y Z b → (H.2 16 (f_X11_top H).1.toNatClampNeg = -1 → Y = 0 ∧ Z = 0) → ∃ hd Y Z o, f_Y7_announce S1 x (some q) = b_Y7_announce_89a ((f_Y7_keep S1 x (H.2 14 (f_X11_top H).1.toNatClampNeg) o Y Z).2) x (some q) hd Y Z o ∧ f_X11_told H = (o, if o = 1 then (f_X11_carried (sI (kpH H (H.2 14 (f_X11_top H).1.toNatClampNeg) o Y Z) 5 (-1)) (f_X11_top H).1 (H.2 14 (f_X11_top H).1.toNatClampNeg)).2 else if o = 4 then (f_X11_goes (f_X11_goes (sI (kpH H (H.2 14 (f_X11_top H).1.toNatClampNeg) o Y Z) 5 (-1))).2).2 else (f_X11_goes (sI (kpH H (H.2 14 (f_X11_top H).1.toNatClampNeg) o Y Z) 5 (-1))).2) ∧ (o = 1 → H.2 14 (f_X11_top H).1.toNatClampNeg ≠ 9) ∧ (o = 4 → H.2 14 (f_X11_top H).1.toNatClampNeg = 9) := fun hd Y Z b ea et hu => by
    have ok := out_k (S1 := S1) (x := x) (Y := Y) (Z := Z) k2
    rw [out_v a r h z mu hu, t184 h8'] at et
    exact ⟨hd, Y, Z, f_Y7_outcomeOf S1 (x + 37) (some q) Y Z, by rw [ea, e2], et, ok.1, ok.2⟩
  have sv := sec_v H
  by_cases s : H.2 16 (f_X11_top H).1.toNatClampNeg = -1
  · rw [if_pos s] at e3 sv
    exact fin 0 0 0 0 e3 (e1.trans (told_u H sv _ _ hs0 99999)) (fun _ => ⟨rfl, rfl⟩)
  · rw [if_neg s] at e3 sv
    obtain ⟨Y, Z, b', e, eY, eZ⟩ := cnt_l r.1 mu ti h0 (by rw [sv]; exact h10) (seconder_s H) (H.2 14 (f_X11_top H).1.toNatClampNeg) 100000 0 0 0 (by rw [i0]; omega) (by rw [i0]; omega) (by rw [i0]; omega) (by rw [i0, zn0]; rfl) (by rw [i0, zn0]; rfl)
    have t1 := tal_v a.ci.wf a.k1 kq hw1 (by rw [r0]; exact h0)
    have t0 := tal_v a.ci.wf a.k1 kq hw0 (by rw [r0]; exact h0)
    rw [r0] at t1 t0
    have y1 : f_Y2_tally S1 (x + 37) (some q) 1 = Y := iEq.mpr (t1.trans eY.symm)
    have y0 : f_Y2_tally S1 (x + 37) (some q) 0 = Z := iEq.mpr (t0.trans eZ.symm)
    rw [y1, y0] at e3
    exact fin 1 Y Z b' e3 (e1.trans e) (fun y => absurd y s)
end
