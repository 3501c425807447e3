section
/-! ===== which acts are done; perform, enact ===== -/
section
variable {x : Nat} {S S1 S2 S3 : Cst} {T T1 T2 : Nat → List Nat} {F F1 : List Nat} {col c1 c2 : Nat → Nat}
def cA (S : Cst) (T : Nat → List Nat) (x : Nat) (act i : Int32) : Prop := (act = 13 → ∃ p : Nat, p < 8 ∧ i.toInt = p ∧ giC S (x + 13 + 3 * p) 0 = 0 ∧ giC S (x + 3) 0 ≠ 0 ∧ (nd S (T (x + 1)) → fcU S x 8 ≠ 1)) ∧ (act = 14 → ∃ p : Nat, p < 8 ∧ i.toInt = p ∧ giC S (x + 3) 0 = 0 ∧ giC S (x + 13 + 3 * p) 0 ≠ 0) ∧ (act = 15 → giC S (x + 3) 0 ≠ 0 ∧ ((∃ q, f_Y6_motion S (x + 3) = some q ∧ (T (x + 1)).length < 9 ∧ (nK (giC S q 2) → 1 ≤ fcU S x 8)) ∨ (f_Y6_motion S (x + 3) = none ∧ T (x + 1) = []))) ∧ (act = 19 → (T (x + 1)).length < 9)
theorem ag_49 {S : Cst} {x : Nat} {a b c d e r : Int32} (h : b_Y8_against_49 S x a b c d e r = 0) : r = 0 := by
  unfold b_Y8_against_49 b_Y8_against_69 b_Y8_against_71 at h
  split at h
  · next z => exact z
  · exact h
theorem em_0 {S : Cst} {q : Nat} (h : f_Y6_isEmpty S q = 0) : giC S q 0 ≠ 0 := by
  rw [em_f] at h
  intro z
  rw [if_pos z] at h
  exact absurd h (by decide)
theorem em_1 {S : Cst} {q : Nat} (h : ¬ f_Y6_isEmpty S q = 0) : giC S q 0 = 0 := by
  rw [em_f] at h
  by_cases z : giC S q 0 = 0
  · exact z
  · rw [if_neg z] at h
    exact absurd rfl h
theorem pa_i {S : Cst} {x : Nat} {i : Int32} (h : ¬ f_Y0_placeAt S x i = none) : ∃ p : Nat, p < 8 ∧ i.toInt = p := by
  unfold f_Y0_placeAt b_Y0_placeAt_10 b_Y0_placeAt_20 at h
  split at h
  · exact absurd rfl h
  · next c =>
    split at h
    · next d =>
      have c := mt iLt.mpr c
      have d := iLt.mp d
      rw [i0] at c
      rw [e8] at d
      have hn := iNat (x := i) (by omega)
      exact ⟨i.toNatClampNeg, by omega, by omega⟩
    · exact absurd rfl h
theorem ag_lay {S : Cst} {x : Nat} {i : Int32} (h : f_Y8_againstLay S x i = 0) : ¬ f_Y0_placeAt S x i = none ∧ f_Y6_isEmpty S ((grC S x 2).getD 0) = 0 ∧ ¬ f_Y6_isEmpty S ((f_Y0_placeAt S x i).getD 0) = 0 ∧ (f_Y0_freePlaces S x = 1 → f_Y5_needsPlace S ((grC S x 1).getD 0) = 0) := by
  unfold f_Y8_againstLay at h
  split at h
  · exact absurd h (by decide)
  · next c1 =>
    split at h
    · next c2 =>
      split at h
      · unfold b_Y8_againstLay_30 at h
        exact absurd h (by decide)
      · next c3 =>
        refine ⟨c1, c2, c3, ?_⟩
        have K : ∀ {p r : Option Nat}, b_Y8_againstLay_101 S x i p r = 0 → (f_Y0_freePlaces S x = 1 → f_Y5_needsPlace S ((grC S x 1).getD 0) = 0) := fun {p r} g e => by
          unfold b_Y8_againstLay_101 b_Y8_againstLay_124 b_Y8_againstLay_125 at g
          rw [if_pos e] at g
          split at g
          · next z => exact z
          · exact absurd g (by decide)
        split at h
        · exact K h
        · split at h
          · exact K h
          · split at h
            · split at h
              · unfold b_Y8_againstLay_82 at h
                exact absurd h (by decide)
              · unfold b_Y8_againstLay_79a b_Y8_againstLay_82 at h
                split at h
                · exact absurd h (by decide)
                · split at h
                  · exact K h
                  · exact absurd h (by decide)
            · exact K h
    · unfold b_Y8_againstLay_30 at h
      exact absurd h (by decide)
theorem ag_take {S : Cst} {x : Nat} {i : Int32} (h : f_Y8_againstTake S x i = 0) : ¬ f_Y0_placeAt S x i = none ∧ ¬ f_Y6_isEmpty S ((grC S x 2).getD 0) = 0 ∧ f_Y6_isEmpty S ((f_Y0_placeAt S x i).getD 0) = 0 := by
  unfold f_Y8_againstTake b_Y8_againstTake_30 b_Y8_againstTake_36 at h
  split at h
  · exact absurd h (by decide)
  · next c1 =>
    split at h
    · exact absurd h (by decide)
    · next c2 =>
      split at h
      · next c3 => exact ⟨c1, c2, c3⟩
      · exact absurd h (by decide)
theorem ag_move {S : Cst} {x : Nat} {i : Int32} (h : f_Y8_againstMove S x i = 0) : f_Y6_isEmpty S ((grC S x 2).getD 0) = 0 ∧ f_Y8_isOutOfRank S ((grC S x 1).getD 0) (f_Y6_motion S ((grC S x 2).getD 0)) (f_Y5_top S ((grC S x 1).getD 0)) = 0 ∧ (f_Y6_motion S ((grC S x 2).getD 0) = none ∨ f_Y8_lacksRoom S x (f_Y6_motion S ((grC S x 2).getD 0)) (f_Y5_top S ((grC S x 1).getD 0)) = 0) := by
  unfold f_Y8_againstMove at h
  split at h
  · next c1 =>
    refine ⟨c1, ?_⟩
    generalize f_Y6_motion S ((grC S x 2).getD 0) = m at h ⊢
    generalize f_Y5_top S ((grC S x 1).getD 0) = t at h ⊢
    have K14 : b_Y8_againstMove_114 S x i m t = 0 → f_Y8_lacksRoom S x m t = 0 := fun g => by
      unfold b_Y8_againstMove_114 b_Y8_againstMove_129 at g
      split at g
      · next z => exact z
      · exact absurd g (by decide)
    have K79 : b_Y8_againstMove_79 S x i m t = 0 → m = none ∨ f_Y8_lacksRoom S x m t = 0 := fun g => by
      unfold b_Y8_againstMove_79 at g
      split at g
      · exact absurd g (by decide)
      · split at g
        · next z => exact Or.inl z
        · split at g
          · exact Or.inr (K14 g)
          · split at g
            · exact Or.inr (K14 g)
            · exact absurd g (by decide)
    unfold b_Y8_againstMove_38a b_Y8_againstMove_77 at h
    split at h
    · next c2 =>
      refine ⟨c2, ?_⟩
      split at h
      · exact absurd h (by decide)
      · split at h
        · exact K79 h
        · split at h
          · exact absurd h (by decide)
          · split at h
            · exact absurd h (by decide)
            · exact K79 h
    · exact absurd h (by decide)
  · exact absurd h (by decide)
theorem ag_rank {S : Cst} {x : Nat} {t : Option Nat} (h : f_Y8_isOutOfRank S x none t = 0) : t = none := by
  unfold f_Y8_isOutOfRank b_Y8_isOutOfRank_12 b_Y8_isOutOfRank_21 at h
  rw [if_pos rfl] at h
  split at h
  · next z => exact z
  · exact absurd h (by decide)
theorem ag_room {S : Cst} {x q : Nat} {t : Option Nat} (h : f_Y8_lacksRoom S x (some q) t = 0) : giC S ((grC S x 1).getD 0) 1 < 9 ∧ (¬ f_Y4_needsPlace S q = 0 → ¬ f_Y0_freePlaces S x = 0) := by
  unfold f_Y8_lacksRoom b_Y8_lacksRoom_33 b_Y8_lacksRoom_61 b_Y8_lacksRoom_62 at h
  rw [Option.getD_some] at h
  split at h
  · next c =>
    refine ⟨c, fun n => ?_⟩
    rw [if_neg n] at h
    split at h
    · exact absurd h (by decide)
    · next z => exact z
  · exact absurd h (by decide)
theorem ag_rule {S : Cst} {x : Nat} {a : Int32} {b : Int32} (h : f_Y8_againstOnMotion S x 19 a b = 0) : giC S ((grC S x 1).getD 0) 1 < 9 := by
  unfold f_Y8_againstOnMotion at h
  rw [if_neg (by decide), if_neg (by decide), if_pos rfl] at h
  unfold b_Y8_againstOnMotion_58 at h
  split at h
  · exact absurd h (by decide)
  · unfold b_Y8_againstOnMotion_66 at h
    split at h
    · exact absurd h (by decide)
    · rw [if_neg (by decide), if_neg (by decide), if_neg (by decide), if_pos rfl] at h
      unfold f_Y8_againstRule b_Y8_againstRule_30 at h
      split at h
      · exact absurd h (by decide)
      · split at h
        · next z => exact z
        · exact absurd h (by decide)
theorem e9 : (9 : Int32).toInt = 9 := by decide
theorem against_c (a : AS x S T col S1 T1 c1) {act i b c d : Int32} (h : f_Y8_against S1 x act i b c d = 0) : cA S1 T1 x act i := by
  have ci := a.1.ci
  have k := a.1.k1
  have w0 := ci.wf.w0 k
  have wp := ci.tp (x + 1) (noE_n _) w0.1.2.1
  unfold f_Y8_against at h
  refine ⟨fun e => ?_, fun e => ?_, fun e => ?_, fun e => ?_⟩
  · rw [e, if_pos (by decide), if_neg (by decide)] at h
    have h := ag_49 h
    unfold f_Y8_againstOnPaper at h
    rw [if_neg (by decide), if_neg (by decide), if_neg (by decide), if_pos rfl] at h
    obtain ⟨g1, g2, g3, g4⟩ := ag_lay h
    obtain ⟨p, hp, hi⟩ := pa_i g1
    rw [pa_v ci.wf k hp hi, Option.getD_some] at g3
    rw [w0.2.1.2.2.1, Option.getD_some] at g2
    rw [w0.2.1.2.1, Option.getD_some] at g4
    refine ⟨p, hp, hi, em_1 g3, em_0 g2, fun n z => ?_⟩
    refine needs_v ci (noE_n _) w0.1.2.1 (g4 (iEq.mpr ?_)) n
    rw [free_v ci.wf k, i1, z]
    rfl
  · rw [e, if_pos (by decide), if_neg (by decide)] at h
    have h := ag_49 h
    unfold f_Y8_againstOnPaper at h
    rw [if_neg (by decide), if_neg (by decide), if_neg (by decide), if_neg (by decide), if_pos rfl] at h
    obtain ⟨g1, g2, g3⟩ := ag_take h
    obtain ⟨p, hp, hi⟩ := pa_i g1
    rw [pa_v ci.wf k hp hi, Option.getD_some] at g3
    rw [w0.2.1.2.2.1, Option.getD_some] at g2
    exact ⟨p, hp, hi, em_1 g2, em_0 g3⟩
  · rw [e, if_pos (by decide), if_pos (by decide)] at h
    have h := ag_49 h
    unfold f_Y8_againstOnMotion at h
    rw [if_pos rfl] at h
    obtain ⟨g1, g2, g3⟩ := ag_move h
    rw [w0.2.1.2.2.1, Option.getD_some] at g1
    rw [w0.2.1.2.2.1, w0.2.1.2.1, Option.getD_some, Option.getD_some] at g2 g3
    refine ⟨em_0 g1, ?_⟩
    cases m : f_Y6_motion S1 (x + 3) with
    | none =>
      rw [m] at g2
      exact Or.inr ⟨rfl, (tp_i ci (noE_n _) w0.1.2.1).1 (ag_rank g2)⟩
    | some q =>
      rw [m] at g3
      rcases g3 with g3 | g3
      · cases g3
      · obtain ⟨r1, r2⟩ := ag_room g3
        rw [w0.2.1.2.1, Option.getD_some] at r1
        have r1 := iLt.mp r1
        rw [e9] at r1
        refine Or.inl ⟨q, rfl, by omega, fun n => ?_⟩
        have nf := r2 (fun z => mN z n)
        have fv := free_v ci.wf k
        refine Nat.pos_of_ne_zero (fun z => nf (iEq.mpr ?_))
        rw [fv, z, i0]
        rfl
  · rw [e, if_pos (by decide), if_pos (by decide)] at h
    have h := ag_49 h
    have r := ag_rule h
    rw [w0.2.1.2.1, Option.getD_some] at r
    have r := iLt.mp r
    rw [e9] at r
    omega
theorem am.w {p p' : Nat → Nat → Prop} {f f' : Int32 × Cst} (m : am x S T col S1 p f) (hf : f' = f) (hp : ∀ lc ls, p lc ls → p' lc ls) : am x S T col S1 p' f' := by
  obtain ⟨v, S2, T2, c2, e, p, as, en⟩ := m
  exact ⟨v, S2, T2, c2, hf.trans e, fun lc ls A B => hp lc ls (p lc ls A B), as, en⟩
theorem am.z {p : Nat → Nat → Prop} {f : Int32 × Cst} (m : am x S T col S1 p f) {k : Prop} (hk : k) : am x S T col S1 (fun lc ls => ((S1.1 ≤ f.2.1 ∧ f.2.1 ≤ lc) ∧ (S1.2.1 ≤ f.2.2.1 ∧ f.2.2.1 ≤ ls)) ∧ p f.2.1 f.2.2.1 ∧ k) f := by
  obtain ⟨v, S2, T2, c2, e, p, as, en⟩ := m
  rw [e]
  exact ⟨v, S2, T2, c2, rfl, fun lc ls A B => ⟨⟨⟨en.1.1, A⟩, en.1.2, B⟩, p _ _ (Nat.le_refl _) (Nat.le_refl _), hk⟩, as, en⟩
theorem y_perform (a : AS x S T col S1 T1 c1) {act i1 i2 i3 i4 : Int32} (hc : cA S1 T1 x act i1) : am x S T col S1 (fun lc ls => p_Y1_perform S1 x lc ls act i1 i2 i3 i4) (f_Y1_perform S1 x act i1 i2 i3 i4) := by
  have h := a.1
  have w0 := h.ci.wf.w0 h.k1
  have u := QU.rf h
  have ht := tp_c h
  have hti := tp_i h.ci (noE_n _) w0.1.2.1
  have hm := mo_c h (show pl x (x + 3) from Or.inl rfl)
  have pt := y_top h.ci.wf w0.1.2.1
  have vt : vR S1 (f_Y5_top S1 (x + 1)) := fun z e => by
    rcases ht with y | ⟨q, y, k, _⟩
    · rw [y] at e
      cases e
    · rw [y] at e
      cases e
      exact k.1
  unfold p_Y1_perform f_Y1_perform
  rw [w0.2.1.1, w0.2.1.2.1]
  simp only [Option.getD_some, ir_so]
  refine am.w ?_ rfl (fun lc ls h => ⟨w0.1.2.1, pt, h⟩)
  by_cases a1 : act = 1
  · simp only [if_pos a1]
    exact (a.q (y_arrive h i1)).w rfl (fun _ _ p => ⟨w0.1.1, p, trivial⟩)
  simp only [if_neg a1]
  by_cases a2 : act = 2
  · simp only [if_pos a2]
    exact (a.q (y_leave h i1)).w rfl (fun _ _ p => ⟨w0.1.1, p, trivial⟩)
  simp only [if_neg a2]
  by_cases a3 : act = 3
  · simp only [if_pos a3]
    exact a.q (p := iK S1 (x + 37) 1 ∧ True) ⟨⟨w0.1.1, trivial⟩, _, _, rfl, u.hI 4 _ (by omega)⟩
  simp only [if_neg a3]
  by_cases a4 : act = 4
  · simp only [if_pos a4]
    exact (a.q (y_takeChair h i1)).w rfl (fun _ _ p => ⟨w0.1.1, p, trivial⟩)
  simp only [if_neg a4]
  by_cases a5 : act = 5
  · simp only [if_pos a5]
    exact (a.q (y_majority h i1 i2)).w rfl (fun _ _ p => ⟨w0.1.1, p, trivial⟩)
  simp only [if_neg a5]
  by_cases a6 : act = 6
  · simp only [if_pos a6]
    exact a.q (p := iK S1 (x + 37) 1 ∧ True) ⟨⟨w0.1.1, trivial⟩, _, _, rfl, u.hI 5 _ (by omega)⟩
  simp only [if_neg a6]
  by_cases a7 : act = 7
  · simp only [if_pos a7]
    exact (a.q (y_giveFloor h ht i1)).w rfl (fun _ _ p => ⟨w0.1.1, p, trivial⟩)
  simp only [if_neg a7]
  by_cases a8 : act = 8
  · simp only [if_pos a8]
    exact (a.q (y_cedeFloor h)).w rfl (fun _ _ p => ⟨w0.1.1, p, trivial⟩)
  simp only [if_neg a8]
  by_cases a9 : act = 9
  · simp only [if_pos a9]
    exact (a.q (y_speak h ht)).w rfl (fun _ _ p => ⟨p, trivial⟩)
  simp only [if_neg a9]
  by_cases a10 : act = 10
  · simp only [if_pos a10]
    exact ((y_draft a i1).z vt).w rfl (fun _ _ p => ⟨p.1, p.2.1, p.2.2, trivial⟩)
  simp only [if_neg a10]
  by_cases a11 : act = 11
  · simp only [if_pos a11]
    exact (a.q (y_setSpan h hm i1 i2)).w rfl (fun _ _ p => ⟨p, trivial⟩)
  simp only [if_neg a11]
  by_cases a12 : act = 12
  · simp only [if_pos a12]
    exact (a.q (y_addWords h hm i1 i2 i3 i4)).w rfl (fun _ _ p => ⟨p, trivial⟩)
  simp only [if_neg a12]
  by_cases a13 : act = 13
  · simp only [if_pos a13]
    obtain ⟨p, hp, hi, h1, h2, h3⟩ := hc.1 a13
    exact (y_lay a hp hi h1 h2 h3).w rfl (fun _ _ p => ⟨p, trivial⟩)
  simp only [if_neg a13]
  by_cases a14 : act = 14
  · simp only [if_pos a14]
    obtain ⟨p, hp, hi, h1, h2⟩ := hc.2.1 a14
    exact (y_take a hp hi h1 h2).w rfl (fun _ _ p => ⟨p, trivial⟩)
  simp only [if_neg a14]
  by_cases a15 : act = 15
  · simp only [if_pos a15]
    obtain ⟨h1, h2⟩ := hc.2.2.1 a15
    exact (y_bring a i1 h1 h2).w rfl (fun _ _ p => ⟨p, trivial⟩)
  simp only [if_neg a15]
  by_cases a16 : act = 16
  · simp only [if_pos a16]
    exact (a.q (y_support h ht i1)).w rfl (fun _ _ p => ⟨p, trivial⟩)
  simp only [if_neg a16]
  by_cases a17 : act = 17
  · simp only [if_pos a17]
    rcases ht with e | ⟨q, e, k, c⟩
    · rw [e]
      simp only [if_true]
      exact ⟨_, S1, T1, c1, rfl, fun _ _ _ _ => trivial, a, eN.rf _⟩
    · rw [e]
      simp only [reduceCtorEq, if_false, Option.getD_some, ir_so]
      exact (a.q (y_castVote h k c i1 i2)).w rfl (fun _ _ p => ⟨k, p, trivial⟩)
  simp only [if_neg a17]
  by_cases a18 : act = 18
  · simp only [if_pos a18]
    obtain ⟨p1, S2, T2, f1, f2, f3, _⟩ := y_dropA a
    rw [f1]
    have w2 := f2.1.ci.wf.w0 f2.1.k1
    refine ⟨_, S2, T2, c1, rfl, fun _ _ _ _ => ⟨w0.1.2.1, p1, ?_, trivial⟩, f2, f3.1⟩
    rw [w2.2.1.2.1]
    exact ir_so.mpr w2.1.2.1
  simp only [if_neg a18]
  by_cases a19 : act = 19
  · simp only [if_pos a19]
    exact ((y_ruling a (hc.2.2.2 a19)).z vt).w rfl (fun _ _ p => ⟨p.1, p.2.1, p.2.2, trivial⟩)
  simp only [if_neg a19]
  by_cases a20 : act = 20
  · simp only [if_pos a20]
    exact (a.q (y_support h ht i1)).w rfl (fun _ _ p => ⟨p, trivial⟩)
  simp only [if_neg a20]
  by_cases a21 : act = 21
  · simp only [if_pos a21]
    cases e : f_Y5_top S1 (x + 1) with
    | none =>
      simp only [if_true]
      exact ⟨_, S1, T1, c1, rfl, fun _ _ _ _ => trivial, a, eN.rf _⟩
    | some q =>
      simp only [reduceCtorEq, if_false]
      obtain ⟨l, hl⟩ := hti.2 q e
      have mq : q ∈ T1 (x + 1) := by rw [hl]; simp
      rw [e] at vt
      exact ((y_announce a mq).z vt).w rfl (fun _ _ p => ⟨p.1, p.2.1, p.2.2, trivial⟩)
  simp only [if_neg a21]
  by_cases a22 : act = 22
  · simp only [if_pos a22]
    exact (y_endSitting a).w rfl (fun _ _ p => ⟨p, trivial⟩)
  simp only [if_neg a22]
  exact ⟨_, S1, T1, c1, rfl, fun _ _ _ _ => trivial, a, eN.rf _⟩
/-- the entry in the minutes -/
theorem kw_m (h : CI noE S1 T1 F1 c1) (k : iK S1 x 0) (c v : Int32) : iR S1 (grC S1 x 4) 2 ∧ p_Y3_write S1 ((grC S1 x 4).getD 0) c v ∧ ∃ S2, f_Y3_write S1 ((grC S1 x 4).getD 0) c v = (0, S2) ∧ LSt noE T1 F1 (x + 7) S1 c1 S2 c1 := by
  have w := h.wf.w0 k
  obtain ⟨p, S2, f, g, _⟩ := w_write h w.1.2.2.2.2.1 c v
  rw [w.2.1.2.2.2.2.1]
  exact ⟨ir_so.mpr w.1.2.2.2.2.1, p, S2, f, g⟩
theorem en_39 (h : CI noE S1 T1 F1 c1) (k : iK S1 x 0) (a b c d e v : Int32) : ∃ S2 c2 r, b_Y0_enact_39a S1 x a b c d e v = (r, S2) ∧ (∀ lc ls, S2.1 ≤ lc → S2.2.1 ≤ ls → q_Y0_enact_39a S1 x lc ls a b c d e v) ∧ LSt noE T1 F1 (x + 7) S1 c1 S2 c2 := by
  have w := h.wf.w0 k
  obtain ⟨S2, c2, f, p, g, _⟩ := w_open h w.1.2.2.2.2.1
  have k2 := k.n g.2.1
  obtain ⟨i0', p0, S3, f0, g0⟩ := kw_m g.1 k2 0 a
  have k3 := k2.n g0.2.1
  obtain ⟨i1', p1, S4, f1, g1⟩ := kw_m g0.1 k3 1 b
  have k4 := k3.n g1.2.1
  obtain ⟨i2', p2, S5, f2, g2⟩ := kw_m g1.1 k4 2 c
  have k5 := k4.n g2.2.1
  obtain ⟨i3', p3, S6, f3, g3⟩ := kw_m g2.1 k5 3 d
  have k6 := k5.n g3.2.1
  obtain ⟨i4', p4, S7, f4, g4⟩ := kw_m g3.1 k6 4 e
  have k7 := k6.n g4.2.1
  obtain ⟨i5', p5, S8, f5, g5⟩ := kw_m g4.1 k7 5 v
  have k8 := k7.n g5.2.1
  have w8 := g5.1.wf.w0 k8
  obtain ⟨i6', p6, S9, f6, g6⟩ := kw_m g5.1 k8 6 (giC S8 ((grC S8 x 1).getD 0) 1)
  unfold b_Y0_enact_39a q_Y0_enact_39a b_Y0_enact_48a q_Y0_enact_48a b_Y0_enact_57a q_Y0_enact_57a b_Y0_enact_66a q_Y0_enact_66a b_Y0_enact_75a q_Y0_enact_75a b_Y0_enact_85a q_Y0_enact_85a b_Y0_enact_95a q_Y0_enact_95a b_Y0_enact_105a q_Y0_enact_105a b_Y0_enact_121a q_Y0_enact_121a
  rw [w.2.1.2.2.2.2.1, Option.getD_some, f]
  simp only [f0, f1, f2, f3, f4, f5, f6]
  have G := (((((g0.tr g1).tr g2).tr g3).tr g4).tr g5).tr g6
  refine ⟨S9, c2, _, rfl, fun lc ls A B => ⟨ir_so.mpr w.1.2.2.2.2.1, ⟨⟨g.2.1.1.1, Nat.le_trans G.2.1.1.1 A⟩, g.2.1.1.2, Nat.le_trans G.2.1.1.2 B⟩, p _ _ (Nat.le_refl _) (Nat.le_refl _), i0', p0, i1', p1, i2', p2, i3', p3, i4', p4, i5', p5, ?_, i6', p6, trivial⟩, g.tr G⟩
  rw [w8.2.1.2.1]
  exact ir_so.mpr w8.1.2.1
theorem y_enact (a : AS x S T col S1 T1 c1) (act i1 i2 i3 i4 : Int32) : am x S T col S1 (fun lc ls => p_Y0_enact S1 x lc ls act i1 i2 i3 i4) (f_Y0_enact S1 x act i1 i2 i3 i4) := by
  have h := a.1
  have u := (QU.rf h).aI 9 (f_Y8_against S1 x act i1 i2 i3 i4)
  have a2 : AS x S T col (siC S1 x 9 (f_Y8_against S1 x act i1 i2 i3 i4)) T1 c1 := ⟨u.1, a.2.kp h.ci h.k1 u.2.1 (fun _ _ _ => rfl)⟩
  have pg := y_against h.ci.wf h.k1 act i1 i2 i3 i4
  have e9' : giC (siC S1 x 9 (f_Y8_against S1 x act i1 i2 i3 i4)) x 9 = f_Y8_against S1 x act i1 i2 i3 i4 := by rw [gi_si, if_pos ⟨rfl, rfl⟩]
  unfold p_Y0_enact f_Y0_enact
  rw [e9']
  by_cases z : f_Y8_against S1 x act i1 i2 i3 i4 = 0
  · have C := against_c a z
    have hs : ∀ d, pl x d → giC (siC S1 x 9 (f_Y8_against S1 x act i1 i2 i3 i4)) d 0 = giC S1 d 0 := fun d od => u.2.1.2.1 d (od.lt h.ci h.k1).1 (od.lt h.ci h.k1).2
    have hf : fcU (siC S1 x 9 (f_Y8_against S1 x act i1 i2 i3 i4)) x 8 = fcU S1 x 8 := fcU_cg 8 (fun p hp => hs _ (Or.inr ⟨p, hp, rfl⟩))
    have hk : ∀ c q, q ∈ T1 c → giC (siC S1 x 9 (f_Y8_against S1 x act i1 i2 i3 i4)) q 2 = giC S1 q 2 := fun c q m => u.2.1.2.2 q (h.ci.tk c q m).1.1 (h.ci.tk c q m).1.2
    have o3 : pl x (x + 3) := Or.inl rfl
    have C2 : cA (siC S1 x 9 (f_Y8_against S1 x act i1 i2 i3 i4)) T1 x act i1 := by
      refine ⟨fun e => ?_, fun e => ?_, fun e => ?_, C.2.2.2⟩
      · obtain ⟨p, hp, hi, h1, h2, h3⟩ := C.1 e
        refine ⟨p, hp, hi, (hs _ (Or.inr ⟨p, hp, rfl⟩)).trans h1, fun y => h2 ((hs _ o3).symm.trans y), fun n => ?_⟩
        rw [hf]
        exact h3 (nd_sub (fun q m => ⟨m, hk _ q m⟩) n)
      · obtain ⟨p, hp, hi, h1, h2⟩ := C.2.1 e
        exact ⟨p, hp, hi, (hs _ o3).trans h1, fun y => h2 ((hs _ (Or.inr ⟨p, hp, rfl⟩)).symm.trans y)⟩
      · obtain ⟨h1, h2⟩ := C.2.2.1 e
        refine ⟨fun y => h1 ((hs _ o3).symm.trans y), ?_⟩
        have em : f_Y6_motion (siC S1 x 9 (f_Y8_against S1 x act i1 i2 i3 i4)) (x + 3) = f_Y6_motion S1 (x + 3) := by
          cases m : f_Y6_motion S1 (x + 3) with
          | none =>
            by_cases y : giC S1 (x + 3) 0 = 2
            · obtain ⟨m1, m2⟩ := mot_s h.ci h.k1 o3 (noE_n _) y
              refine (mot_s a2.1.ci a2.1.k1 o3 (noE_n _) ((hs _ o3).trans y)).1 ?_
              cases t : T1 (x + 3 + 1) with
              | nil => rfl
              | cons r l =>
                rw [m2 r l t] at m
                cases m
            · exact mot_n a2.1.ci a2.1.k1 o3 (fun w => y ((hs _ o3).symm.trans w))
          | some q =>
            obtain ⟨y, l, hl⟩ := mo_i h.ci h.k1 o3 m
            exact (mot_s a2.1.ci a2.1.k1 o3 (noE_n _) ((hs _ o3).trans y)).2 q l hl
        rw [em, hf]
        rcases h2 with ⟨q, e1, e2, e3⟩ | e1
        · obtain ⟨_, l, hl⟩ := mo_i h.ci h.k1 o3 e1
          refine Or.inl ⟨q, e1, e2, fun n => e3 ?_⟩
          rw [hk (x + 3 + 1) q (by rw [hl]; exact List.mem_cons_self ..)] at n
          exact n
        · exact Or.inr e1
    obtain ⟨v, S2, T2, c2, e, p, as, en⟩ := y_perform a2 (i2 := i2) (i3 := i3) (i4 := i4) C2
    obtain ⟨S3, c3, r, r1, r2, r3⟩ := en_39 as.1.ci as.1.k1 act i1 i2 i3 i4 v
    simp only [if_pos z]
    unfold b_Y0_enact_36a q_Y0_enact_36a
    rw [e]
    refine ⟨r, S3, T2, c3, r1, fun lc ls A B => ⟨pg, ⟨⟨en.1.1, Nat.le_trans r3.2.1.1.1 A⟩, en.1.2, Nat.le_trans r3.2.1.1.2 B⟩, p _ _ (Nat.le_refl _) (Nat.le_refl _), r2 lc ls A B⟩, as.led (Or.inl rfl) r3, u.2.2.n.tr (en.tr r3.2.1)⟩
  · simp only [if_neg z]
    exact ⟨_, _, T1, c1, rfl, fun _ _ _ _ => ⟨pg, trivial⟩, a2, u.2.2.n⟩
end
end
section
/-! ===== an assembly begun anew; motions, ledgers copied ===== -/
section
variable {x : Nat} {S S1 S2 S3 : Cst} {T T1 T2 : Nat → List Nat} {F F1 : List Nat} {col c1 c2 : Nat → Nat}
theorem PI.clr (h : clr S1 T1 x) : PI S1 T1 x := by
  have hn : ¬ nd S1 (T1 (x + 1)) := by rw [h.1]; exact nd_nil
  refine ⟨fun d o => ?_, fun n => absurd n hn, fun n => ?_, fun n => absurd n hn⟩
  · rcases o with rfl | ⟨p, hp, rfl⟩
    · refine ⟨fun _ => h.2.1, fun _ => ?_, ?_, fun _ => ?_⟩
      · rw [show x + 3 + 1 = x + 4 by omega, h.2.1]
        exact Nat.zero_le _
      · rw [h.2.2.1]
        exact s0
      · rw [h.2.2.1]
        decide
    · have w := h.2.2.2 p hp
      have e : T1 (x + 13 + 3 * p + 1) = [] := by rw [show x + 13 + 3 * p + 1 = x + 14 + 3 * p by omega]; exact w.2
      refine ⟨fun _ => e, fun _ => ?_, ?_, fun z => by omega⟩
      · rw [e]
        exact Nat.zero_le _
      · rw [w.1]
        exact s0
  · rw [h.2.2.1] at n
    exact absurd n (by decide)
theorem QU.lN {E : Nat → Prop} (u : QU E x S T F col T1 F1 c1 S1 S2) {j : Nat} (hj : j = 7 ∨ j = 9) (v : Int32) (hv : rg v 0 600) : QU E x S T F col T1 F1 c1 S1 (siC S2 (x + j) 3 v) := by
  have w0 := u.w0
  have e : kdC S2 (x + j) = 2 := by
    rcases hj with rfl | rfl
    · exact w0.1.2.2.2.2.1.2
    · exact w0.1.2.2.2.2.2.1.2
  exact u.si (u.1.cx j (by omega)) (by rw [e]; decide) ⟨fun z => by omega, fun _ => ⟨rfl, hv⟩, fun z => by omega, fun z => by omega, fun z => by omega, fun z => by omega⟩ (fun z => by omega) (fun z => by omega)
theorem y_abegin (h : Sst noE x S T [] col S1 T1 [] c1) {n : Int32} (hn : rg n 0 200) : bm x S T col c1 S1 (p_Y0_begin S1 x n) (f_Y0_begin S1 x n) := by
  obtain ⟨p1, S2, T2, f1, f2, f3, f4⟩ := y_clear noE_n h
  have w2 := f2.ci.wf.w0 f2.k1
  obtain ⟨p2, v, S3, g1, u3⟩ := y_hbegin f2 hn
  have w3 := u3.w0
  have r0 : rg 0 0 600 := ⟨by rw [i0]; omega, by rw [i0]; omega⟩
  have r4 : rg 0 0 400 := ⟨by rw [i0]; omega, by rw [i0]; omega⟩
  have u4 := u3.lN (j := 7) (Or.inl rfl) 0 r0
  have w4 := u4.w0
  have u5 := u4.lN (j := 9) (Or.inr rfl) 0 r0
  have w5 := u5.w0
  have u6 := u5.tI w5.1.2.2.2.2.2.2 (f2.cx 11 (by omega)) 0 r4
  have u7 := ((u6.aI 7 0).aI 8 0).aI 9 0
  unfold bm p_Y0_begin f_Y0_begin q_Y0_begin_4a b_Y0_begin_4a q_Y0_begin_12a b_Y0_begin_12a q_Y0_begin_36a b_Y0_begin_36a
  rw [f1]
  simp only
  rw [w2.2.1.1, Option.getD_some, g1]
  simp only
  rw [w3.2.1.2.2.2.2.1, Option.getD_some, w4.2.1.2.2.2.2.2.1, Option.getD_some, w5.2.1.2.2.2.2.2.2, Option.getD_some]
  refine ⟨⟨p1, ir_so.mpr w2.1.1, p2, ir_so.mpr w3.1.2.2.2.2.1, ir_so.mpr w4.1.2.2.2.2.2.1, ir_so.mpr w5.1.2.2.2.2.2.2, trivial⟩, _, _, T2, rfl, ⟨u7.1, (PI.clr f4).kp f2.ci f2.k1 u7.2.1 (fun _ _ _ => rfl)⟩, f3.1.tr u7.2.2.n⟩
theorem mT_b2 (hl : ∀ c, own x c → c ≠ x → (T1 c).length ≤ 9) : mT T1 x ≤ (T1 x).length + 90 := by
  have hs : ∀ n, n ≤ 8 → sT T1 x n ≤ 9 * n := by
    intro n
    induction n with
    | zero => intro _; exact Nat.le_refl _
    | succ n ih =>
      intro hn
      have i := ih (by omega)
      have w := hl (x + 14 + 3 * n) (Or.inr (Or.inr (Or.inr ⟨n, by omega, rfl⟩))) (by omega)
      rw [sT]
      omega
  have h1 := hl (x + 1) (Or.inr (Or.inl rfl)) (by omega)
  have h4 := hl (x + 4) (Or.inr (Or.inr (Or.inl rfl))) (by omega)
  have h8 := hs 8 (by omega)
  unfold mT
  omega
theorem mT_b3 (h : Sst noE x S T F col S1 T1 F1 c1) {P : Nat} (o : own x P) (n : P ≠ x) (hP : (T1 P).length ≤ 8) : mT T1 x + 1 ≤ (T1 x).length + 90 := by
  have w := mT_b2 (T1 := tU T1 P (0 :: T1 P)) (x := x) (fun c oc nc => by
    by_cases e : c = P
    · rw [e, tU_at, List.length_cons]
      omega
    · rw [tU_ne _ _ e]
      exact (h.ci.tp c (noE_n _) (own.k h oc nc)).2.1)
  have u := mT_U (T := T1) (l := 0 :: T1 P) o
  rw [List.length_cons] at u
  rw [tU_ne _ _ (fun z => n z.symm)] at w
  omega
/-- what a copy leaves: the sorts, all motions where they were, with their kinds -/
def gW (x : Nat) (T : Nat → List Nat) (S : Cst) (T' : Nat → List Nat) (S' : Cst) : Prop := eN S S' ∧ (∀ q, q < S.1 → kdC S q = 5 → giC S' q 0 = giC S q 0) ∧ (∀ c z, c ≠ x → z ∈ T c → z ∈ T' c ∧ giC S' z 2 = giC S z 2)
theorem gW.rf (x : Nat) (T : Nat → List Nat) (S : Cst) : gW x T S T S := ⟨eN.rf S, fun _ _ _ => rfl, fun _ _ _ m => ⟨m, rfl⟩⟩
theorem gW.tr (h : gW x T S T1 S1) (g : gW x T1 S1 T2 S2) : gW x T S T2 S2 := ⟨h.1.tr g.1, fun q a k => (g.2.1 q (Nat.lt_of_lt_of_le a h.1.1.1) (by rw [(h.1.2 q a).1]; exact k)).trans (h.2.1 q a k), fun c z n m => ⟨(g.2.2 c z n (h.2.2 c z n m).1).1, (g.2.2 c z n (h.2.2 c z n m).1).2.trans (h.2.2 c z n m).2⟩⟩
theorem gP.W (h : CI noE S1 T1 F1 c1) (g : gP S1 S2) : gW x T1 S1 T1 S2 := ⟨g.1, g.2.1, fun c z _ m => ⟨m, g.2.2 z (h.tk c z m).1.1 (h.tk c z m).1.2⟩⟩
/-- kinds of a copied pile's motions -/
def kC (S : Cst) (L : List Nat) (S' : Cst) (L' : List Nat) : Prop := ∀ q, q ∈ L' → ∃ z, z ∈ L ∧ giC S' q 2 = giC S z 2
theorem copy_lp {P' P : Nat} (kP' : iK S1 P' 4) (cP' : c1 P' ≠ x) (o : own x P) (nP : P ≠ x) (h0 : CI noE S1 T1 [] c1) : ∀ (n : Nat) (Sk : Cst) (Tk : Nat → List Nat) (ck : Nat → Nat) (i : Int32), Sst noE x S1 T1 [] c1 Sk Tk [] ck → gW x T1 S1 Tk Sk → 0 ≤ i.toInt → (Tk P).length = i.toInt → i.toInt ≤ (T1 P').length → (T1 P').length - i.toInt < n → kC S1 (T1 P') Sk (Tk P) → (∀ c, c ≠ P → c ≠ x → Tk c = T1 c) → ∃ S2 T2 c2, lp_Y0_copy_2 x P' P n Sk i = (0, S2) ∧ (∀ lc ls, S2.1 ≤ lc → S2.2.1 ≤ ls → lq_Y0_copy_2 x P' P lc ls n Sk i) ∧ Sst noE x S1 T1 [] c1 S2 T2 [] c2 ∧ gW x T1 S1 T2 S2 ∧ (T2 P).length = (T1 P').length ∧ kC S1 (T1 P') S2 (T2 P) ∧ (∀ c, c ≠ P → c ≠ x → T2 c = T1 c) ∧ eN Sk S2 := by
  intro n
  induction n with
  | zero => intro Sk Tk ck i hk W h1 h2 h3 h4; omega
  | succ n ih =>
    intro Sk Tk ck i hk W h1 h2 h3 h4 hK hF
    have nPP : P' ≠ P := fun z => by
      have e := hk.oc o
      rw [← z, hk.cl P' kP'.1] at e
      exact cP' e
    have nPx : P' ≠ x := fun z => by
      have e := kP'.2
      rw [z, hk.k.2] at e
      omega
    have kPk := kP'.n hk.en
    have eT : Tk P' = T1 P' := hF P' nPP nPx
    have w := hk.ci.tp P' (noE_n _) kPk
    rw [eT] at w
    rw [lp_Y0_copy_2]
    simp only [lq_Y0_copy_2]
    unfold ps_Y0_copy_2 st_Y0_copy_2
    by_cases c : i.toInt = (T1 P').length
    · have c' : giC Sk P' 1 ≤ i := iLe.mpr (by omega)
      simp only [if_pos c']
      exact ⟨Sk, Tk, ck, rfl, fun _ _ _ _ => ⟨trivial, trivial⟩, hk, W, by omega, hK, hF, eN.rf _⟩
    · have c' : ¬ giC Sk P' 1 ≤ i := fun z => by have := iLe.mp z; omega
      have ea := at_s hk.ci (noE_n _) kPk (i := i) h1 (by rw [eT]; omega)
      have pa := y_at hk.ci.wf kPk i
      have hn := iNat h1
      have mz : (Tk P').getD i.toNatClampNeg 0 ∈ Tk P' := by
        rw [List.getD_eq_getElem?_getD, List.getElem?_eq_getElem (show i.toNatClampNeg < _ by rw [eT]; omega)]
        exact List.getElem_mem _
      rw [ea]
      generalize (Tk P').getD i.toNatClampNeg 0 = z at mz ⊢
      have kz := hk.ci.tk P' z mz
      rw [eT] at mz
      have kz1 := h0.tk P' z mz
      simp only [if_neg c', reduceCtorEq, if_false, Option.getD_some, ir_so]
      have b1 := mT_b3 hk o nP (by omega)
      obtain ⟨S2', T2', q, c2', g1, g2, g3, g4, g5, g6⟩ := y_newMotion hk (fun e => by rw [e] at b1; simp only [List.length_nil] at b1 ⊢; omega) (giC Sk z 2)
      rw [g1]
      have kq := (g3.ci.tf.2 q (List.mem_cons_self ..))
      have kz2 := kz.1.n g4.1
      have eT2 : T2' P = Tk P := g6 P nP
      obtain ⟨p2, S3', r1, r2, r3⟩ := y_mBecome g3 kq.1 (g3.fc q (List.mem_cons_self ..)) kz2
      have kz3 := kz2.n r2.2.1.1
      obtain ⟨p3, S4', t1, t2, t3, _⟩ := y_put r2.1 (P := P) (noE_n _) o nP (by rw [eT2]; omega)
      have nqz : ∀ c z', c ≠ x → z' ∈ Tk c → z' ≠ q := fun c z' nc m e => kq.2 c (by rw [g6 c nc, ← e]; exact m)
      have kk : ∀ c z', c ≠ x → z' ∈ Tk c → giC S4' z' 2 = giC Sk z' 2 := fun c z' nc m => by
        have k1 := (hk.ci.tk c z' m).1
        have k2 := k1.n g4.1
        have k3 := k2.n r2.2.1.1
        rw [t3.2.1 z' k3.1 (by rw [k3.2]; decide), gX_k r2.2.1 k2 (dM_n r2.1.ci.wf r2.2.2.1 (nqz c z' nc m) (Or.inl k3.2)), gX_k g4 k1 (dM_n g3.ci.wf kq.1 (nqz c z' nc m) (Or.inl k2.2))]
      have ks : ∀ d, iK Sk d 5 → giC S4' d 0 = giC Sk d 0 := fun d k1 => by
        have k2 := k1.n g4.1
        have k3 := k2.n r2.2.1.1
        have nq : d ≠ q := fun e => by
          have := kq.1.2
          rw [← e, k2.2] at this
          omega
        rw [t3.2.1 d k3.1 (by rw [k3.2]; decide), gX_s r2.2.1 k2 (dM_n r2.1.ci.wf r2.2.2.1 nq (Or.inr k3.2)), gX_s g4 k1 (dM_n g3.ci.wf kq.1 nq (Or.inr k2.2))]
      have W2 : gW x Tk Sk (tU T2' P (T2' P ++ [q])) S4' := ⟨(g4.1.tr r2.2.1.1).tr t3.1, fun d a k => ks d ⟨a, k⟩, fun c z' nc m => ⟨by
        by_cases e : c = P
        · rw [e, tU_at, eT2]
          rw [e] at m
          exact List.mem_append_left _ m
        · rw [tU_ne _ _ e, g6 c nc]
          exact m, kk c z' nc m⟩⟩
      have e1 := iAdd (x := i) (y := 1) (by rw [i1]; omega) (by rw [i1]; omega)
      rw [i1] at e1
      have hK2 : kC S1 (T1 P') S4' (tU T2' P (T2' P ++ [q]) P) := fun q' m => by
        rw [tU_at, eT2] at m
        rcases List.mem_append.mp m with m | m
        · obtain ⟨z', m', e'⟩ := hK q' m
          exact ⟨z', m', (kk P q' nP m).trans e'⟩
        · rw [List.mem_singleton.mp m]
          refine ⟨z, mz, ?_⟩
          have k3 := r2.2.2.1
          rw [t3.2.1 q k3.1 (by rw [k3.2]; decide), r3, gX_k g4 kz.1 (dM_n g3.ci.wf kq.1 (nqz P' z nPx (by rw [eT]; exact mz)) (Or.inl kz2.2)), (W.2.2 P' z nPx mz).2]
      obtain ⟨S5, T5, c5, l1, l2, l3, l4, l5, l6, l7, l8⟩ := ih S4' (tU T2' P (T2' P ++ [q])) c2' (i + 1) t2 (W.tr W2) (by omega) (by rw [tU_at, eT2, List.length_append, List.length_singleton]; omega) (by omega) (by omega) hK2 (fun c a b => by rw [tU_ne _ _ a, g6 c b]; exact hF c a b)
      unfold b_Y0_copy_31a q_Y0_copy_31a b_Y0_copy_40a q_Y0_copy_40a b_Y0_copy_46 q_Y0_copy_46
      simp only [Option.getD_some]
      rw [r1]
      simp only
      rw [t1]
      refine ⟨S5, T5, c5, l1, fun lc ls A B => ⟨⟨pa, kz.1, ⟨⟨g4.1.1.1, ?_⟩, g4.1.1.2, ?_⟩, g2 _ _ (Nat.le_refl _) (Nat.le_refl _), fun z' e => by cases e; exact kz.1.1, ir_so.mpr kq.1, p2, p3, trivial⟩, l2 lc ls A B⟩, l3, l4, l5, l6, l7, W2.1.tr l8⟩
      · exact Nat.le_trans ((r2.2.1.1.tr t3.1).tr l8).1.1 A
      · exact Nat.le_trans ((r2.2.1.1.tr t3.1).tr l8).1.2 B
theorem y_copy {P' P : Nat} (h0 : CI noE S1 T1 [] c1) (k : iK S1 x 0) (kP' : iK S1 P' 4) (cP' : c1 P' ≠ x) (o : own x P) (nP : P ≠ x) (hT : T1 P = []) : ∃ S2 T2 c2, f_Y0_copy S1 x P' P = (0, S2) ∧ (∀ lc ls, S2.1 ≤ lc → S2.2.1 ≤ ls → p_Y0_copy S1 x P' P lc ls) ∧ Sst noE x S1 T1 [] c1 S2 T2 [] c2 ∧ gW x T1 S1 T2 S2 ∧ (T2 P).length = (T1 P').length ∧ kC S1 (T1 P') S2 (T2 P) ∧ (∀ c, c ≠ P → c ≠ x → T2 c = T1 c) ∧ eN S1 S2 := by
  have w := h0.tp P' (noE_n _) kP'
  exact copy_lp kP' cP' o nP h0 100000 S1 T1 c1 0 (Sst.rf h0 k (fun q m => by cases m)) (gW.rf x T1 S1) (by rw [i0]; omega) (by rw [hT, i0]; rfl) (by rw [i0]; omega) (by rw [i0]; omega) (fun q m => by rw [hT] at m; cases m) (fun _ _ _ => rfl)
end
end
section
/-! ===== an assembly becomes another one ===== -/
section
variable {x y : Nat} {S S1 S2 S3 : Cst} {T T1 T2 : Nat → List Nat} {F F1 : List Nat} {col c1 c2 ck : Nat → Nat} {Sk : Cst} {Tk : Nat → List Nat}
theorem ab_124 (hk : Sst noE x S1 T1 [] c1 Sk Tk [] ck) (ky : iK S1 y 0) (i : Int32) : ∃ S4 c4, b_Y0_become_124a ((f_Y3_become Sk (x + 7) (y + 7)).2) x y i = (0, S4) ∧ (∀ lc ls, S4.1 ≤ lc → S4.2.1 ≤ ls → ((Sk.1 ≤ (f_Y3_become Sk (x + 7) (y + 7)).2.1 ∧ (f_Y3_become Sk (x + 7) (y + 7)).2.1 ≤ lc) ∧ (Sk.2.1 ≤ (f_Y3_become Sk (x + 7) (y + 7)).2.2.1 ∧ (f_Y3_become Sk (x + 7) (y + 7)).2.2.1 ≤ ls)) ∧ (p_Y3_become Sk (x + 7) (y + 7) (f_Y3_become Sk (x + 7) (y + 7)).2.1 (f_Y3_become Sk (x + 7) (y + 7)).2.2.1) ∧ (q_Y0_become_124a ((f_Y3_become Sk (x + 7) (y + 7)).2) x y lc ls i)) ∧ Sst noE x S1 T1 [] c1 S4 Tk [] c4 ∧ gP Sk S4 := by
  have w0 := hk.ci.wf.w0 hk.k1
  have y0 := hk.ci.wf.w0 (ky.n hk.en)
  obtain ⟨S2, c2, f1, p1, g1, _⟩ := w_ledBecome hk.ci w0.1.2.2.2.2.1 y0.1.2.2.2.2.1
  have h2 := hk.led (Or.inl rfl) g1
  have w2 := h2.ci.wf.w0 h2.k1
  have y2 := h2.ci.wf.w0 (ky.n h2.en)
  obtain ⟨S3, c3, f2, p2, g2, _⟩ := w_ledBecome h2.ci w2.1.2.2.2.2.2.1 y2.1.2.2.2.2.2.1
  have h3 := h2.led (Or.inr rfl) g2
  have w3 := h3.ci.wf.w0 h3.k1
  have y3 := h3.ci.wf.w0 (ky.n h3.en)
  obtain ⟨p3, S4, f3, h4, g3, e3, _⟩ := y_tBecome h3 w3.1.2.2.2.2.2.2 (h3.cx 11 (by omega)) (h3.cx 12 (by omega)) y3.1.2.2.2.2.2.2
  have k12 := (h3.ci.wf.w6 w3.1.2.2.2.2.2.2).1.1
  have gp3 : gP S3 S4 := g3.p (fun z _ y e => by
      rcases y with y | y <;> rw [y] at e
      · have := w3.1.2.2.2.2.2.2.2; omega
      · have := k12.2; omega) (fun z _ y e => by
      rcases y with y | y <;> rw [y] at e
      · have := w3.1.2.2.2.2.2.2.2; omega
      · have := k12.2; omega)
  have u := (((QU.rf h4).aI 7 (giC S4 y 7)).aI 8 (giC (siC S4 x 7 (giC S4 y 7)) y 8)).aI 9 0
  rw [f1]
  unfold b_Y0_become_124a q_Y0_become_124a b_Y0_become_135a q_Y0_become_135a b_Y0_become_146a q_Y0_become_146a
  simp only
  rw [w2.2.1.2.2.2.2.2.1, y2.2.1.2.2.2.2.2.1]
  simp only [Option.getD_some, ir_so]
  rw [f2]
  simp only
  rw [w3.2.1.2.2.2.2.2.2, y3.2.1.2.2.2.2.2.2]
  simp only [Option.getD_some, ir_so]
  rw [f3]
  refine ⟨_, c3, rfl, fun lc ls A B => ⟨⟨⟨g1.2.1.1.1, ?_⟩, g1.2.1.1.2, ?_⟩, p1 _ _ (Nat.le_refl _) (Nat.le_refl _), w2.1.2.2.2.2.2.1, y2.1.2.2.2.2.2.1, ⟨⟨g2.2.1.1.1, ?_⟩, g2.2.1.1.2, ?_⟩, p2 _ _ (Nat.le_refl _) (Nat.le_refl _), w3.1.2.2.2.2.2.2, y3.1.2.2.2.2.2.2, p3, trivial⟩, u.1, ((g1.p w0.1.2.2.2.2.1 hk.ci.wf).tr (g2.p w2.1.2.2.2.2.2.1 h2.ci.wf)).tr (gp3.tr u.2.1)⟩
  · exact Nat.le_trans (g2.2.1.tr (g3.1.tr u.2.2.n)).1.1 A
  · exact Nat.le_trans (g2.2.1.tr (g3.1.tr u.2.2.n)).1.2 B
  · exact Nat.le_trans (g3.1.tr u.2.2.n).1.1 A
  · exact Nat.le_trans (g3.1.tr u.2.2.n).1.2 B
/-- so far copied: what is pending, the draft, the first n places -/
def JB (x y : Nat) (S1 : Cst) (T1 : Nat → List Nat) (n : Nat) (Sk : Cst) (Tk : Nat → List Nat) : Prop := ((Tk (x + 1)).length = (T1 (y + 1)).length ∧ kC S1 (T1 (y + 1)) Sk (Tk (x + 1))) ∧ (giC Sk (x + 3) 0 = giC S1 (y + 3) 0 ∧ (Tk (x + 4)).length = (T1 (y + 4)).length) ∧ (∀ p, p < n → giC Sk (x + 13 + 3 * p) 0 = giC S1 (y + 13 + 3 * p) 0 ∧ (Tk (x + 13 + 3 * p + 1)).length = (T1 (y + 13 + 3 * p + 1)).length) ∧ ∀ p, n ≤ p → p < 8 → Tk (x + 13 + 3 * p + 1) = []
theorem kC_c (h : CI noE S2 T2 F1 c2) {L L' : List Nat} {c : Nat} (k : kC S1 L S2 L') (e : L' = T2 c) (g : gP S2 S3) : kC S1 L S3 L' := fun q m => by
  obtain ⟨z, m', e'⟩ := k q m
  rw [e] at m
  exact ⟨z, m', (g.2.2 q (h.tk c q m).1.1 (h.tk c q m).1.2).trans e'⟩
theorem JB.g (j : JB x y S1 T1 8 Sk Tk) (hk : CI noE Sk Tk [] ck) (kx : iK Sk x 0) (g : gP Sk S3) : JB x y S1 T1 8 S3 Tk := by
  refine ⟨⟨j.1.1, kC_c hk j.1.2 rfl g⟩, ⟨?_, j.2.1.2⟩, fun p hp => ⟨?_, (j.2.2.1 p hp).2⟩, j.2.2.2⟩
  · have k := (show pl x (x + 3) from Or.inl rfl).lt hk kx
    exact (g.2.1 _ k.1 k.2).trans j.2.1.1
  · have k := (show pl x (x + 13 + 3 * p) from Or.inr ⟨p, hp, rfl⟩).lt hk kx
    exact (g.2.1 _ k.1 k.2).trans (j.2.2.1 p hp).1
theorem JB.pi (j : JB x y S1 T1 8 Sk Tk) (hy : PI S1 T1 y) : PI Sk Tk x := by
  have hf : fcU Sk x 8 = fcU S1 y 8 := by
    have : ∀ n, n ≤ 8 → fcU Sk x n = fcU S1 y n := by
      intro n
      induction n with
      | zero => intro _; rfl
      | succ n ih =>
        intro hn
        rw [fcU, fcU, ih (by omega), (j.2.2.1 n (by omega)).1]
    exact this 8 (Nat.le_refl _)
  have hn : nd Sk (Tk (x + 1)) → nd S1 (T1 (y + 1)) := fun ⟨q, m, n⟩ => by
    obtain ⟨z, m', e⟩ := j.1.2 q m
    rw [e] at n
    exact ⟨z, m', n⟩
  have nl : ∀ {a b : List Nat}, a.length = b.length → b = [] → a = [] := fun h e => by
    rw [e] at h
    exact List.eq_nil_of_length_eq_zero h
  refine ⟨fun d o => ?_, fun n => ?_, fun n => ?_, fun n m => ?_⟩
  · rcases o with rfl | ⟨p, hp, rfl⟩
    · have A := hy.1 (y + 3) (Or.inl rfl)
      rw [j.2.1.1]
      exact ⟨fun z => nl j.2.1.2 (A.1 z), fun z => by rw [show x + 3 + 1 = x + 4 by omega, j.2.1.2]; exact A.2.1 z, A.2.2.1, fun _ => A.2.2.2 rfl⟩
    · have A := hy.1 (y + 13 + 3 * p) (Or.inr ⟨p, hp, rfl⟩)
      obtain ⟨e1, e2⟩ := j.2.2.1 p hp
      rw [e1]
      exact ⟨fun z => nl e2 (A.1 z), fun z => by rw [e2]; exact A.2.1 z, A.2.2.1, fun z => by omega⟩
  · rw [hf]
    exact hy.2.1 (hn n)
  · rw [hf]
    rw [j.2.1.1] at n
    exact hy.2.2.1 n
  · rw [hf]
    rw [j.2.1.1] at m
    exact hy.2.2.2 (hn n) m
theorem become_lp (ky : iK S1 y 0) (ny : y ≠ x) (h0 : CI noE S1 T1 [] c1) (hy : PI S1 T1 y) : ∀ (n : Nat) (Sk : Cst) (Tk : Nat → List Nat) (ck : Nat → Nat) (i : Int32), Sst noE x S1 T1 [] c1 Sk Tk [] ck → 0 ≤ i.toInt → i.toInt ≤ 8 → 8 - i.toInt < n → JB x y S1 T1 i.toNatClampNeg Sk Tk → ∃ S2 T2 c2, lp_Y0_become_61 x y n Sk i = (0, S2) ∧ (∀ lc ls, S2.1 ≤ lc → S2.2.1 ≤ ls → lq_Y0_become_61 x y lc ls n Sk i) ∧ Sst noE x S1 T1 [] c1 S2 T2 [] c2 ∧ JB x y S1 T1 8 S2 T2 ∧ eN Sk S2 := by
  intro n
  induction n with
  | zero => intro Sk Tk ck i hk h1 h2 h3; omega
  | succ n ih =>
    intro Sk Tk ck i hk h1 h2 h3 j
    have kyk := ky.n hk.en
    have hn := iNat h1
    have w0 := hk.ci.wf.w0 hk.k1
    have y0 := hk.ci.wf.w0 kyk
    rw [lp_Y0_become_61]
    simp only [lq_Y0_become_61]
    unfold ps_Y0_become_61 st_Y0_become_61
    by_cases c : i.toInt = 8
    · have c8 : 8 ≤ i := iLe.mpr (by rw [e8]; omega)
      simp only [if_pos c8]
      rw [w0.2.1.2.2.2.2.1, y0.2.1.2.2.2.2.1]
      simp only [Option.getD_some, ir_so]
      obtain ⟨S4, c4, f, p, g1, g2⟩ := ab_124 hk ky i
      rw [show i.toNatClampNeg = 8 by omega] at j
      exact ⟨S4, Tk, c4, f, fun lc ls A B => ⟨⟨w0.1.2.2.2.2.1, y0.1.2.2.2.2.1, p lc ls A B⟩, trivial⟩, g1, j.g hk.ci hk.k1 g2, g2.1⟩
    · have c8 : ¬ 8 ≤ i := fun z => by have := iLe.mp z; rw [e8] at this; omega
      simp only [if_neg c8]
      have hp : i.toNatClampNeg < 8 := by omega
      have dx := dk_ix hk.ci.wf hk.k1 hp
      have dy := dk_ix hk.ci.wf kyk hp
      have lx := dk_ln hk.ci.wf hk.k1
      have ly := dk_ln hk.ci.wf kyk
      have vi : vp_in i 8 := vIn h1 (by omega)
      have i3x := g0_3 hk.ci.wf hk.k1
      have i3y := g0_3 hk.ci.wf kyk
      rw [dx.1, dy.1, lx, ly]
      simp only [Option.getD_some, ir_so]
      have o : pl x (x + 13 + 3 * i.toNatClampNeg) := Or.inr ⟨_, hp, rfl⟩
      have h2' := hk.sort o (giC Sk (y + 13 + 3 * i.toNatClampNeg) 0)
      have ek : eK Sk (siC Sk (x + 13 + 3 * i.toNatClampNeg) 0 (giC Sk (y + 13 + 3 * i.toNatClampNeg) 0)) := eK.si ..
      have hS : ∀ q k, q ≠ x + 13 + 3 * i.toNatClampNeg → giC (siC Sk (x + 13 + 3 * i.toNatClampNeg) 0 (giC Sk (y + 13 + 3 * i.toNatClampNeg) 0)) q k = giC Sk q k := fun q k z => by rw [gi_si, if_neg (fun w => z w.1)]
      have hv : giC (siC Sk (x + 13 + 3 * i.toNatClampNeg) 0 (giC Sk (y + 13 + 3 * i.toNatClampNeg) 0)) (x + 13 + 3 * i.toNatClampNeg) 0 = giC Sk (y + 13 + 3 * i.toNatClampNeg) 0 := by rw [gi_si, if_pos ⟨rfl, rfl⟩]
      generalize siC Sk (x + 13 + 3 * i.toNatClampNeg) 0 (giC Sk (y + 13 + 3 * i.toNatClampNeg) 0) = Sm at h2' ek hS hv ⊢
      have kym := kyk.e ek
      have dx2 := dk_ix h2'.ci.wf h2'.k1 hp
      have dy2 := dk_ix h2'.ci.wf kym hp
      have lx2 := dk_ln h2'.ci.wf h2'.k1
      have ly2 := dk_ln h2'.ci.wf kym
      have i3x2 := g0_3 h2'.ci.wf h2'.k1
      have i3y2 := g0_3 h2'.ci.wf kym
      rw [dx2.1, dy2.1, lx2, ly2]
      simp only [Option.getD_some, ir_so]
      have wx := h2'.ci.wf.w5 dx2.2
      have wy := h2'.ci.wf.w5 dy2.2
      rw [wx.2, wy.2]
      have cy : ck (y + 13 + 3 * i.toNatClampNeg + 1) = y := by
        rw [show y + 13 + 3 * i.toNatClampNeg + 1 = y + (14 + 3 * i.toNatClampNeg) by omega]
        exact hk.ci.c0 y kyk _ (by omega)
      obtain ⟨S3, T3, c3, f, p, g1, g2, g3, g4, g5, g6⟩ := y_copy h2'.ci h2'.k1 wy.1 (by rw [cy]; exact ny) o.o.1 o.o.2.1 (j.2.2.2 _ (Nat.le_refl _) hp)
      unfold b_Y0_become_104a q_Y0_become_104a b_Y0_become_107a q_Y0_become_107a
      simp only [Option.getD_some, ir_so]
      rw [f]
      have e1 := iAdd (x := i) (y := 1) (by rw [i1]; omega) (by rw [i1]; omega)
      rw [i1] at e1
      have hn1 := iNat (x := i + 1) (by omega)
      have es : (i + 1).toNatClampNeg = i.toNatClampNeg + 1 := by omega
      -- values of y as they were
      have fr : ∀ q, q < S1.1 → c1 q ≠ x → Sk.2.2 q = S1.2.2 q := hk.fr
      have cyj : ∀ r, r < 40 → c1 (y + r) = y := fun r hr => h0.c0 y ky r hr
      have kyp : ∀ p, p < 8 → iK S1 (y + 13 + 3 * p) 5 := fun p hp => (dk_ix h0.wf ky hp).2
      have kyq : ∀ p, p < 8 → iK S1 (y + 13 + 3 * p + 1) 4 := fun p hp => (h0.wf.w5 (kyp p hp)).1
      have sy : giC Sk (y + 13 + 3 * i.toNatClampNeg) 0 = giC S1 (y + 13 + 3 * i.toNatClampNeg) 0 := by
        unfold giC
        rw [fr _ (kyp _ hp).1 (by rw [show y + 13 + 3 * i.toNatClampNeg = y + (13 + 3 * i.toNatClampNeg) by omega, cyj _ (by omega)]; exact ny)]
      have ty : Tk (y + 13 + 3 * i.toNatClampNeg + 1) = T1 (y + 13 + 3 * i.toNatClampNeg + 1) := hk.ft _ (kyq _ hp).1 (by rw [show y + 13 + 3 * i.toNatClampNeg + 1 = y + (14 + 3 * i.toNatClampNeg) by omega, cyj _ (by omega)]; exact ny)
      have ks : ∀ d, pl x d → giC S3 d 0 = giC Sm d 0 := fun d od => g2.2.1 d (od.lt h2'.ci h2'.k1).1 (od.lt h2'.ci h2'.k1).2
      have J2 : JB x y S1 T1 (i + 1).toNatClampNeg S3 T3 := by
        rw [es]
        refine ⟨⟨?_, fun q m => ?_⟩, ⟨?_, ?_⟩, fun p hp' => ?_, fun p a b => ?_⟩
        · rw [g5 _ (by omega) (by omega)]
          exact j.1.1
        · rw [g5 _ (by omega) (by omega)] at m
          obtain ⟨z, m', e'⟩ := j.1.2 q m
          refine ⟨z, m', ?_⟩
          have kq := (hk.ci.tk _ _ m).1
          have kp5 := o.lt hk.ci hk.k1
          rw [(g2.2.2 (x + 1) q (by omega) m).2, hS q 2 (fun w => by have := kq.2; rw [w, kp5.2] at this; omega)]
          exact e'
        · rw [ks _ (Or.inl rfl), hS _ _ (by omega)]
          exact j.2.1.1
        · rw [g5 _ (by omega) (by omega)]
          exact j.2.1.2
        · by_cases e : p = i.toNatClampNeg
          · rw [e]
            exact ⟨by rw [ks _ o, hv, sy], by rw [g3, ty]⟩
          · have J := j.2.2.1 p (by omega)
            rw [ks _ (Or.inr ⟨p, by omega, rfl⟩), hS _ _ (by omega), g5 _ (by omega) (by omega)]
            exact J
        · rw [g5 _ (by omega) (by omega)]
          exact j.2.2.2 p (by omega) b
      obtain ⟨S5, T5, c5, l1, l2, l3, l4, l5⟩ := ih S3 T3 c3 (i + 1) (h2'.tr g1) (by omega) (by omega) (by omega) J2
      refine ⟨S5, T5, c5, l1, fun lc ls A B => ⟨⟨i3x, vi, i3y, vi, dy.2, dx.2, i3y2, vi, dy2.2, i3x2, vi, dx2.2, wy.1, wx.1, ⟨⟨g6.1.1, Nat.le_trans l5.1.1 A⟩, g6.1.2, Nat.le_trans l5.1.2 B⟩, p _ _ (Nat.le_refl _) (Nat.le_refl _), trivial⟩, l2 lc ls A B⟩, l3, l4, (ek.n.tr g6).tr l5⟩
theorem y_abecome (h : Sst noE x S T [] col S1 T1 [] c1) (ky : iK S1 y 0) (ny : y ≠ x) (hy : PI S1 T1 y) : am x S T col S1 (fun lc ls => p_Y0_become S1 x y lc ls) (f_Y0_become S1 x y) := by
  have h1 : Sst noE x S1 T1 [] c1 S1 T1 [] c1 := Sst.rf h.ci h.k1 (fun q m => by cases m)
  have o3 : pl x (x + 3) := Or.inl rfl
  have cyj : ∀ r, r < 40 → c1 (y + r) = y := fun r hr => h.ci.c0 y ky r hr
  have cyn : ∀ r, r < 40 → c1 (y + r) ≠ x := fun r hr => by rw [cyj r hr]; exact ny
  obtain ⟨p1, S2, T2, f1, f2, f3, f4⟩ := y_clear noE_n h1
  have w2 := f2.ci.wf.w0 f2.k1
  have y2 := f2.ci.wf.w0 (ky.n f2.en)
  obtain ⟨p2, v, S3, g1, u3⟩ := y_hbecome f2 (ky.n f2.en)
  have h3 := u3.1
  have w3 := u3.w0
  have y3 := h3.ci.wf.w0 (ky.n h3.en)
  have yy := h.ci.wf.w0 ky
  have yk1 : iK S1 (y + 1) 4 := yy.1.2.1
  have yk3 : iK S1 (y + 3) 5 := yy.1.2.2.1
  have yk4 : iK S1 (y + 4) 4 := (h.ci.wf.w5 yk3).1
  -- what is pending
  obtain ⟨S4, T4, c4, g4, q4, k4, W4, l4, K4, F4, e4⟩ := y_copy h3.ci h3.k1 y3.1.2.1 (by rw [f2.cl _ yk1.1]; exact cyn 1 (by omega)) (P := x + 1) (Or.inr (Or.inl rfl)) (by omega) f4.1
  have h4 := h3.tr k4
  have w4 := h4.ci.wf.w0 h4.k1
  have y4 := h4.ci.wf.w0 (ky.n h4.en)
  -- the draft's sort
  have h5 := h4.sort o3 (giC S4 (y + 3) 0)
  have ek5 : eK S4 (siC S4 (x + 3) 0 (giC S4 (y + 3) 0)) := eK.si ..
  have hS5 : ∀ q k, q ≠ x + 3 → giC (siC S4 (x + 3) 0 (giC S4 (y + 3) 0)) q k = giC S4 q k := fun q k z => by rw [gi_si, if_neg (fun w => z w.1)]
  have hv5 : giC (siC S4 (x + 3) 0 (giC S4 (y + 3) 0)) (x + 3) 0 = giC S4 (y + 3) 0 := by rw [gi_si, if_pos ⟨rfl, rfl⟩]
  have w5 := h5.ci.wf.w0 h5.k1
  have y5 := h5.ci.wf.w0 (ky.n h5.en)
  have wx5 := h5.ci.wf.w5 w5.1.2.2.1
  have wy5 := h5.ci.wf.w5 y5.1.2.2.1
  have T4x : T4 (x + 3 + 1) = [] := by rw [F4 _ (by omega) (by omega)]; exact f4.2.1
  obtain ⟨S6, T6, c6, g6, q6, k6, W6, l6, K6, F6, e6⟩ := y_copy h5.ci h5.k1 wy5.1 (by rw [h4.cl _ yk4.1]; exact cyn 4 (by omega)) (P := x + 3 + 1) o3.o.1 o3.o.2.1 T4x
  have h6 := h5.tr k6
  have J : JB x y S1 T1 0 S6 T6 := by
    refine ⟨⟨?_, fun q m => ?_⟩, ⟨?_, ?_⟩, fun p hp => by omega, fun p _ hp => ?_⟩
    · rw [F6 _ (by omega) (by omega), l4, f2.ft _ yk1.1 (cyn 1 (by omega))]
    · rw [F6 _ (by omega) (by omega)] at m
      obtain ⟨z, m', e'⟩ := K4 q m
      rw [f2.ft _ yk1.1 (cyn 1 (by omega))] at m'
      have kz := h.ci.tk _ _ m'
      have kq := (h4.ci.tk _ _ m).1
      have k5 := o3.lt h4.ci h4.k1
      refine ⟨z, m', ?_⟩
      rw [(W6.2.2 (x + 1) q (by omega) m).2, hS5 q 2 (fun w => by have := kq.2; rw [w, k5.2] at this; omega), e']
      have e := h3.fr z kz.1.1 (by rw [kz.2]; exact cyn 1 (by omega))
      unfold giC
      rw [e]
    · have k5 := o3.lt h5.ci h5.k1
      rw [W6.2.1 _ k5.1 k5.2, hv5]
      have e := h4.fr (y + 3) yk3.1 (cyn 3 (by omega))
      unfold giC
      rw [e]
    · rw [show x + 4 = x + 3 + 1 by omega, l6, show y + 3 + 1 = y + 4 by omega, h4.ft _ yk4.1 (cyn 4 (by omega))]
    · rw [F6 _ (by omega) (by omega), F4 _ (by omega) (by omega), show x + 13 + 3 * p + 1 = x + 14 + 3 * p by omega]
      exact (f4.2.2.2 p hp).2
  obtain ⟨S7, T7, c7, g7, q7, k7, J7, e7⟩ := become_lp ky ny h.ci hy 100000 S6 T6 c6 0 h6 (by rw [i0]; omega) (by rw [i0]; omega) (by rw [i0]; omega) J
  unfold p_Y0_become f_Y0_become q_Y0_become_4a b_Y0_become_4a
  rw [f1]
  simp only
  rw [w2.2.1.1, y2.2.1.1]
  simp only [Option.getD_some, ir_so]
  rw [g1]
  unfold q_Y0_become_15a b_Y0_become_15a
  simp only
  rw [w3.2.1.2.1, y3.2.1.2.1]
  simp only [Option.getD_some, ir_so]
  rw [g4]
  unfold q_Y0_become_27a b_Y0_become_27a
  simp only
  rw [w4.2.1.2.2.1, y4.2.1.2.2.1]
  simp only [Option.getD_some, ir_so]
  rw [w5.2.1.2.2.1, y5.2.1.2.2.1]
  simp only [Option.getD_some, ir_so]
  rw [wx5.2, wy5.2]
  unfold q_Y0_become_56a b_Y0_become_56a
  simp only [Option.getD_some, ir_so]
  rw [g6]
  unfold q_Y0_become_59a b_Y0_become_59a
  refine ⟨0, S7, T7, c7, g7, fun lc ls A B => ⟨p1, w2.1.1, y2.1.1, p2, y3.1.2.1, w3.1.2.1, ⟨⟨e4.1.1, ?_⟩, e4.1.2, ?_⟩, q4 _ _ (Nat.le_refl _) (Nat.le_refl _), y4.1.2.2.1, w4.1.2.2.1, y5.1.2.2.1, w5.1.2.2.1, wy5.1, wx5.1, ⟨⟨e6.1.1, ?_⟩, e6.1.2, ?_⟩, q6 _ _ (Nat.le_refl _) (Nat.le_refl _), q7 lc ls A B⟩, ⟨h.tr k7, J7.pi hy⟩, k7.en⟩
  · exact Nat.le_trans ((ek5.n.tr e6).tr e7).1.1 A
  · exact Nat.le_trans ((ek5.n.tr e6).tr e7).1.2 B
  · exact Nat.le_trans e7.1.1 A
  · exact Nat.le_trans e7.1.2 B
end
end
section
/-! ===== an assembly made anew ===== -/
section
variable {S S1 : Cst} {T T1 : Nat → List Nat} {col c1 : Nat → Nat}
theorem m0_0 : iK (mkX0 S) (S.1 + 0) 0 := nw_ik (show 0 < 40 by omega) rfl
theorem m0_1 : iK (mkX0 S) (S.1 + 1) 4 := nw_ik (show 1 < 40 by omega) rfl
theorem m0_2 : iK (mkX0 S) (S.1 + 2) 23 := nw_ik (show 2 < 40 by omega) rfl
theorem m0_3 : iK (mkX0 S) (S.1 + 3) 5 := nw_ik (show 3 < 40 by omega) rfl
theorem m0_4 : iK (mkX0 S) (S.1 + 4) 4 := nw_ik (show 4 < 40 by omega) rfl
theorem m0_5 : iK (mkX0 S) (S.1 + 5) 23 := nw_ik (show 5 < 40 by omega) rfl
theorem m0_6 : iK (mkX0 S) (S.1 + 6) 24 := nw_ik (show 6 < 40 by omega) rfl
theorem m0_7 : iK (mkX0 S) (S.1 + 7) 2 := nw_ik (show 7 < 40 by omega) rfl
theorem m0_8 : iK (mkX0 S) (S.1 + 8) 20 := nw_ik (show 8 < 40 by omega) rfl
theorem m0_9 : iK (mkX0 S) (S.1 + 9) 2 := nw_ik (show 9 < 40 by omega) rfl
theorem m0_10 : iK (mkX0 S) (S.1 + 10) 20 := nw_ik (show 10 < 40 by omega) rfl
theorem m0_11 : iK (mkX0 S) (S.1 + 11) 6 := nw_ik (show 11 < 40 by omega) rfl
theorem m0_12 : iK (mkX0 S) (S.1 + 12) 20 := nw_ik (show 12 < 40 by omega) rfl
theorem m0_13 : iK (mkX0 S) (S.1 + 13) 5 := nw_ik (show 13 < 40 by omega) rfl
theorem m0_14 : iK (mkX0 S) (S.1 + 14) 4 := nw_ik (show 14 < 40 by omega) rfl
theorem m0_15 : iK (mkX0 S) (S.1 + 15) 23 := nw_ik (show 15 < 40 by omega) rfl
theorem m0_16 : iK (mkX0 S) (S.1 + 16) 5 := nw_ik (show 16 < 40 by omega) rfl
theorem m0_17 : iK (mkX0 S) (S.1 + 17) 4 := nw_ik (show 17 < 40 by omega) rfl
theorem m0_18 : iK (mkX0 S) (S.1 + 18) 23 := nw_ik (show 18 < 40 by omega) rfl
theorem m0_19 : iK (mkX0 S) (S.1 + 19) 5 := nw_ik (show 19 < 40 by omega) rfl
theorem m0_20 : iK (mkX0 S) (S.1 + 20) 4 := nw_ik (show 20 < 40 by omega) rfl
theorem m0_21 : iK (mkX0 S) (S.1 + 21) 23 := nw_ik (show 21 < 40 by omega) rfl
theorem m0_22 : iK (mkX0 S) (S.1 + 22) 5 := nw_ik (show 22 < 40 by omega) rfl
theorem m0_23 : iK (mkX0 S) (S.1 + 23) 4 := nw_ik (show 23 < 40 by omega) rfl
theorem m0_24 : iK (mkX0 S) (S.1 + 24) 23 := nw_ik (show 24 < 40 by omega) rfl
theorem m0_25 : iK (mkX0 S) (S.1 + 25) 5 := nw_ik (show 25 < 40 by omega) rfl
theorem m0_26 : iK (mkX0 S) (S.1 + 26) 4 := nw_ik (show 26 < 40 by omega) rfl
theorem m0_27 : iK (mkX0 S) (S.1 + 27) 23 := nw_ik (show 27 < 40 by omega) rfl
theorem m0_28 : iK (mkX0 S) (S.1 + 28) 5 := nw_ik (show 28 < 40 by omega) rfl
theorem m0_29 : iK (mkX0 S) (S.1 + 29) 4 := nw_ik (show 29 < 40 by omega) rfl
theorem m0_30 : iK (mkX0 S) (S.1 + 30) 23 := nw_ik (show 30 < 40 by omega) rfl
theorem m0_31 : iK (mkX0 S) (S.1 + 31) 5 := nw_ik (show 31 < 40 by omega) rfl
theorem m0_32 : iK (mkX0 S) (S.1 + 32) 4 := nw_ik (show 32 < 40 by omega) rfl
theorem m0_33 : iK (mkX0 S) (S.1 + 33) 23 := nw_ik (show 33 < 40 by omega) rfl
theorem m0_34 : iK (mkX0 S) (S.1 + 34) 5 := nw_ik (show 34 < 40 by omega) rfl
theorem m0_35 : iK (mkX0 S) (S.1 + 35) 4 := nw_ik (show 35 < 40 by omega) rfl
theorem m0_36 : iK (mkX0 S) (S.1 + 36) 23 := nw_ik (show 36 < 40 by omega) rfl
theorem m0_37 : iK (mkX0 S) (S.1 + 37) 1 := nw_ik (show 37 < 40 by omega) rfl
theorem m0_38 : iK (mkX0 S) (S.1 + 38) 21 := nw_ik (show 38 < 40 by omega) rfl
theorem m0_39 : iK (mkX0 S) (S.1 + 39) 20 := nw_ik (show 39 < 40 by omega) rfl
theorem m0_k {i c : Nat} (hi : i < 40) (k : kdC (mkX0 S) (S.1 + i) = c) : ((i = 0 ∧ c = 0) ∨ (i = 1 ∧ c = 4) ∨ (i = 2 ∧ c = 23) ∨ (i = 3 ∧ c = 5) ∨ (i = 4 ∧ c = 4) ∨ (i = 5 ∧ c = 23) ∨ (i = 6 ∧ c = 24) ∨ (i = 7 ∧ c = 2) ∨ (i = 8 ∧ c = 20) ∨ (i = 9 ∧ c = 2) ∨ (i = 10 ∧ c = 20) ∨ (i = 11 ∧ c = 6) ∨ (i = 12 ∧ c = 20) ∨ (i = 13 ∧ c = 5) ∨ (i = 14 ∧ c = 4) ∨ (i = 15 ∧ c = 23) ∨ (i = 16 ∧ c = 5) ∨ (i = 17 ∧ c = 4) ∨ (i = 18 ∧ c = 23) ∨ (i = 19 ∧ c = 5) ∨ (i = 20 ∧ c = 4) ∨ (i = 21 ∧ c = 23) ∨ (i = 22 ∧ c = 5) ∨ (i = 23 ∧ c = 4) ∨ (i = 24 ∧ c = 23) ∨ (i = 25 ∧ c = 5) ∨ (i = 26 ∧ c = 4) ∨ (i = 27 ∧ c = 23) ∨ (i = 28 ∧ c = 5) ∨ (i = 29 ∧ c = 4) ∨ (i = 30 ∧ c = 23) ∨ (i = 31 ∧ c = 5) ∨ (i = 32 ∧ c = 4) ∨ (i = 33 ∧ c = 23) ∨ (i = 34 ∧ c = 5) ∨ (i = 35 ∧ c = 4) ∨ (i = 36 ∧ c = 23) ∨ (i = 37 ∧ c = 1) ∨ (i = 38 ∧ c = 21) ∨ (i = 39 ∧ c = 20)) := by
  have : i = 0 ∨ i = 1 ∨ i = 2 ∨ i = 3 ∨ i = 4 ∨ i = 5 ∨ i = 6 ∨ i = 7 ∨ i = 8 ∨ i = 9 ∨ i = 10 ∨ i = 11 ∨ i = 12 ∨ i = 13 ∨ i = 14 ∨ i = 15 ∨ i = 16 ∨ i = 17 ∨ i = 18 ∨ i = 19 ∨ i = 20 ∨ i = 21 ∨ i = 22 ∨ i = 23 ∨ i = 24 ∨ i = 25 ∨ i = 26 ∨ i = 27 ∨ i = 28 ∨ i = 29 ∨ i = 30 ∨ i = 31 ∨ i = 32 ∨ i = 33 ∨ i = 34 ∨ i = 35 ∨ i = 36 ∨ i = 37 ∨ i = 38 ∨ i = 39 := by omega
  rcases this with rfl | rfl | rfl | rfl | rfl | rfl | rfl | rfl | rfl | rfl | rfl | rfl | rfl | rfl | rfl | rfl | rfl | rfl | rfl | rfl | rfl | rfl | rfl | rfl | rfl | rfl | rfl | rfl | rfl | rfl | rfl | rfl | rfl | rfl | rfl | rfl | rfl | rfl | rfl | rfl
  · have e : c = 0 := k.symm.trans (m0_0 (S := S)).2
    subst e
    simp
  · have e : c = 4 := k.symm.trans (m0_1 (S := S)).2
    subst e
    simp
  · have e : c = 23 := k.symm.trans (m0_2 (S := S)).2
    subst e
    simp
  · have e : c = 5 := k.symm.trans (m0_3 (S := S)).2
    subst e
    simp
  · have e : c = 4 := k.symm.trans (m0_4 (S := S)).2
    subst e
    simp
  · have e : c = 23 := k.symm.trans (m0_5 (S := S)).2
    subst e
    simp
  · have e : c = 24 := k.symm.trans (m0_6 (S := S)).2
    subst e
    simp
  · have e : c = 2 := k.symm.trans (m0_7 (S := S)).2
    subst e
    simp
  · have e : c = 20 := k.symm.trans (m0_8 (S := S)).2
    subst e
    simp
  · have e : c = 2 := k.symm.trans (m0_9 (S := S)).2
    subst e
    simp
  · have e : c = 20 := k.symm.trans (m0_10 (S := S)).2
    subst e
    simp
  · have e : c = 6 := k.symm.trans (m0_11 (S := S)).2
    subst e
    simp
  · have e : c = 20 := k.symm.trans (m0_12 (S := S)).2
    subst e
    simp
  · have e : c = 5 := k.symm.trans (m0_13 (S := S)).2
    subst e
    simp
  · have e : c = 4 := k.symm.trans (m0_14 (S := S)).2
    subst e
    simp
  · have e : c = 23 := k.symm.trans (m0_15 (S := S)).2
    subst e
    simp
  · have e : c = 5 := k.symm.trans (m0_16 (S := S)).2
    subst e
    simp
  · have e : c = 4 := k.symm.trans (m0_17 (S := S)).2
    subst e
    simp
  · have e : c = 23 := k.symm.trans (m0_18 (S := S)).2
    subst e
    simp
  · have e : c = 5 := k.symm.trans (m0_19 (S := S)).2
    subst e
    simp
  · have e : c = 4 := k.symm.trans (m0_20 (S := S)).2
    subst e
    simp
  · have e : c = 23 := k.symm.trans (m0_21 (S := S)).2
    subst e
    simp
  · have e : c = 5 := k.symm.trans (m0_22 (S := S)).2
    subst e
    simp
  · have e : c = 4 := k.symm.trans (m0_23 (S := S)).2
    subst e
    simp
  · have e : c = 23 := k.symm.trans (m0_24 (S := S)).2
    subst e
    simp
  · have e : c = 5 := k.symm.trans (m0_25 (S := S)).2
    subst e
    simp
  · have e : c = 4 := k.symm.trans (m0_26 (S := S)).2
    subst e
    simp
  · have e : c = 23 := k.symm.trans (m0_27 (S := S)).2
    subst e
    simp
  · have e : c = 5 := k.symm.trans (m0_28 (S := S)).2
    subst e
    simp
  · have e : c = 4 := k.symm.trans (m0_29 (S := S)).2
    subst e
    simp
  · have e : c = 23 := k.symm.trans (m0_30 (S := S)).2
    subst e
    simp
  · have e : c = 5 := k.symm.trans (m0_31 (S := S)).2
    subst e
    simp
  · have e : c = 4 := k.symm.trans (m0_32 (S := S)).2
    subst e
    simp
  · have e : c = 23 := k.symm.trans (m0_33 (S := S)).2
    subst e
    simp
  · have e : c = 5 := k.symm.trans (m0_34 (S := S)).2
    subst e
    simp
  · have e : c = 4 := k.symm.trans (m0_35 (S := S)).2
    subst e
    simp
  · have e : c = 23 := k.symm.trans (m0_36 (S := S)).2
    subst e
    simp
  · have e : c = 1 := k.symm.trans (m0_37 (S := S)).2
    subst e
    simp
  · have e : c = 21 := k.symm.trans (m0_38 (S := S)).2
    subst e
    simp
  · have e : c = 20 := k.symm.trans (m0_39 (S := S)).2
    subst e
    simp
set_option maxHeartbeats 4000000 in
theorem wf_mk0 (h : wfS S) : wfS (mkX0 S) := by
  refine wf_pu h (fun i hi k z e => ?_) (fun i hi => ?_)
  · have hi : i < 40 := hi
    show z < S.1 + 40
    have : i = 0 ∨ i = 1 ∨ i = 2 ∨ i = 3 ∨ i = 4 ∨ i = 5 ∨ i = 6 ∨ i = 7 ∨ i = 8 ∨ i = 9 ∨ i = 10 ∨ i = 11 ∨ i = 12 ∨ i = 13 ∨ i = 14 ∨ i = 15 ∨ i = 16 ∨ i = 17 ∨ i = 18 ∨ i = 19 ∨ i = 20 ∨ i = 21 ∨ i = 22 ∨ i = 23 ∨ i = 24 ∨ i = 25 ∨ i = 26 ∨ i = 27 ∨ i = 28 ∨ i = 29 ∨ i = 30 ∨ i = 31 ∨ i = 32 ∨ i = 33 ∨ i = 34 ∨ i = 35 ∨ i = 36 ∨ i = 37 ∨ i = 38 ∨ i = 39 := by omega
    rcases this with rfl | rfl | rfl | rfl | rfl | rfl | rfl | rfl | rfl | rfl | rfl | rfl | rfl | rfl | rfl | rfl | rfl | rfl | rfl | rfl | rfl | rfl | rfl | rfl | rfl | rfl | rfl | rfl | rfl | rfl | rfl | rfl | rfl | rfl | rfl | rfl | rfl | rfl | rfl | rfl
    · have e : (if k = 0 then some (S.1 + 37) else if k = 1 then some (S.1 + 1) else if k = 2 then some (S.1 + 3) else if k = 3 then some (S.1 + 6) else if k = 4 then some (S.1 + 7) else if k = 5 then some (S.1 + 9) else if k = 6 then some (S.1 + 11) else none) = some z := e
      repeat' split at e
      all_goals first | (cases e; omega) | cases e
    · have e : (if k = 0 then some (S.1 + 2) else none) = some z := e
      repeat' split at e
      all_goals first | (cases e; omega) | cases e
    · cases e
    · have e : (if k = 1 then some (S.1 + 4) else none) = some z := e
      repeat' split at e
      all_goals first | (cases e; omega) | cases e
    · have e : (if k = 0 then some (S.1 + 5) else none) = some z := e
      repeat' split at e
      all_goals first | (cases e; omega) | cases e
    · cases e
    · have e : va_up (va_up (va_up (va_up (va_up (va_up (va_up (va_up (fun _ => none) 0 (some (S.1 + 13))) 1 (some (S.1 + 16))) 2 (some (S.1 + 19))) 3 (some (S.1 + 22))) 4 (some (S.1 + 25))) 5 (some (S.1 + 28))) 6 (some (S.1 + 31))) 7 (some (S.1 + 34)) k = some z := e
      unfold va_up at e
      repeat' split at e
      all_goals first | (cases e; omega) | cases e
    · have e : (if k = 2 then some (S.1 + 8) else none) = some z := e
      repeat' split at e
      all_goals first | (cases e; omega) | cases e
    · cases e
    · have e : (if k = 2 then some (S.1 + 10) else none) = some z := e
      repeat' split at e
      all_goals first | (cases e; omega) | cases e
    · cases e
    · have e : (if k = 0 then some (S.1 + 12) else none) = some z := e
      repeat' split at e
      all_goals first | (cases e; omega) | cases e
    · cases e
    · have e : (if k = 1 then some (S.1 + 14) else none) = some z := e
      repeat' split at e
      all_goals first | (cases e; omega) | cases e
    · have e : (if k = 0 then some (S.1 + 15) else none) = some z := e
      repeat' split at e
      all_goals first | (cases e; omega) | cases e
    · cases e
    · have e : (if k = 1 then some (S.1 + 17) else none) = some z := e
      repeat' split at e
      all_goals first | (cases e; omega) | cases e
    · have e : (if k = 0 then some (S.1 + 18) else none) = some z := e
      repeat' split at e
      all_goals first | (cases e; omega) | cases e
    · cases e
    · have e : (if k = 1 then some (S.1 + 20) else none) = some z := e
      repeat' split at e
      all_goals first | (cases e; omega) | cases e
    · have e : (if k = 0 then some (S.1 + 21) else none) = some z := e
      repeat' split at e
      all_goals first | (cases e; omega) | cases e
    · cases e
    · have e : (if k = 1 then some (S.1 + 23) else none) = some z := e
      repeat' split at e
      all_goals first | (cases e; omega) | cases e
    · have e : (if k = 0 then some (S.1 + 24) else none) = some z := e
      repeat' split at e
      all_goals first | (cases e; omega) | cases e
    · cases e
    · have e : (if k = 1 then some (S.1 + 26) else none) = some z := e
      repeat' split at e
      all_goals first | (cases e; omega) | cases e
    · have e : (if k = 0 then some (S.1 + 27) else none) = some z := e
      repeat' split at e
      all_goals first | (cases e; omega) | cases e
    · cases e
    · have e : (if k = 1 then some (S.1 + 29) else none) = some z := e
      repeat' split at e
      all_goals first | (cases e; omega) | cases e
    · have e : (if k = 0 then some (S.1 + 30) else none) = some z := e
      repeat' split at e
      all_goals first | (cases e; omega) | cases e
    · cases e
    · have e : (if k = 1 then some (S.1 + 32) else none) = some z := e
      repeat' split at e
      all_goals first | (cases e; omega) | cases e
    · have e : (if k = 0 then some (S.1 + 33) else none) = some z := e
      repeat' split at e
      all_goals first | (cases e; omega) | cases e
    · cases e
    · have e : (if k = 1 then some (S.1 + 35) else none) = some z := e
      repeat' split at e
      all_goals first | (cases e; omega) | cases e
    · have e : (if k = 0 then some (S.1 + 36) else none) = some z := e
      repeat' split at e
      all_goals first | (cases e; omega) | cases e
    · cases e
    · have e : (if k = 1 then some (S.1 + 38) else if k = 7 then some (S.1 + 39) else none) = some z := e
      repeat' split at e
      all_goals first | (cases e; omega) | cases e
    · cases e
    · cases e
  · have hi : i < 40 := hi
    have r0 : ∀ n : Int, 0 ≤ n → rg 0 0 n := fun n hn => ⟨by rw [i0]; omega, by rw [i0]; exact hn⟩
    have : i = 0 ∨ i = 1 ∨ i = 2 ∨ i = 3 ∨ i = 4 ∨ i = 5 ∨ i = 6 ∨ i = 7 ∨ i = 8 ∨ i = 9 ∨ i = 10 ∨ i = 11 ∨ i = 12 ∨ i = 13 ∨ i = 14 ∨ i = 15 ∨ i = 16 ∨ i = 17 ∨ i = 18 ∨ i = 19 ∨ i = 20 ∨ i = 21 ∨ i = 22 ∨ i = 23 ∨ i = 24 ∨ i = 25 ∨ i = 26 ∨ i = 27 ∨ i = 28 ∨ i = 29 ∨ i = 30 ∨ i = 31 ∨ i = 32 ∨ i = 33 ∨ i = 34 ∨ i = 35 ∨ i = 36 ∨ i = 37 ∨ i = 38 ∨ i = 39 := by omega
    rcases this with rfl | rfl | rfl | rfl | rfl | rfl | rfl | rfl | rfl | rfl | rfl | rfl | rfl | rfl | rfl | rfl | rfl | rfl | rfl | rfl | rfl | rfl | rfl | rfl | rfl | rfl | rfl | rfl | rfl | rfl | rfl | rfl | rfl | rfl | rfl | rfl | rfl | rfl | rfl | rfl
    · refine WA.one (m0_0 (S := S)).2 (fun _ => ?_) (fun z => by omega) (fun z => by omega) (fun z => by omega) (fun z => by omega) (fun z => by omega) (fun z => by omega) (fun z => by omega) (fun z => by omega) (fun z => by omega) (fun z => by omega)
      exact ⟨⟨m0_37, m0_1, m0_3, m0_6, m0_7, m0_9, m0_11⟩, ⟨(nw_gr 0 0).trans rfl, (nw_gr 0 1).trans rfl, (nw_gr 0 2).trans rfl, (nw_gr 0 3).trans rfl, (nw_gr 0 4).trans rfl, (nw_gr 0 5).trans rfl, (nw_gr 0 6).trans rfl⟩, Or.inl ((nw_gr 0 10).trans rfl)⟩
    · refine WA.one (m0_1 (S := S)).2 (fun z => by omega) (fun z => by omega) (fun z => by omega) (fun z => by omega) (fun _ => ?_) (fun z => by omega) (fun z => by omega) (fun z => by omega) (fun z => by omega) (fun z => by omega) (fun z => by omega)
      refine ⟨⟨m0_2, (nw_ln 2).trans rfl⟩, (nw_gr 1 0).trans rfl, ?_⟩
      have e : giC (mkX0 S) (S.1 + 1) 1 = 0 := (nw_gi 1 1).trans rfl
      show rg (giC (mkX0 S) (S.1 + 1) 1) 0 9
      rw [e]
      exact r0 9 (by omega)
    · refine WA.one (m0_2 (S := S)).2 (fun z => by omega) (fun z => by omega) (fun z => by omega) (fun z => by omega) (fun z => by omega) (fun z => by omega) (fun z => by omega) (fun z => by omega) (fun z => by omega) (fun _ => ?_) (fun z => by omega)
      exact fun j => Or.inl ((nw_gr 2 j).trans rfl)
    · refine WA.one (m0_3 (S := S)).2 (fun z => by omega) (fun z => by omega) (fun z => by omega) (fun z => by omega) (fun z => by omega) (fun _ => ?_) (fun z => by omega) (fun z => by omega) (fun z => by omega) (fun z => by omega) (fun z => by omega)
      exact ⟨m0_4, (nw_gr 3 1).trans rfl⟩
    · refine WA.one (m0_4 (S := S)).2 (fun z => by omega) (fun z => by omega) (fun z => by omega) (fun z => by omega) (fun _ => ?_) (fun z => by omega) (fun z => by omega) (fun z => by omega) (fun z => by omega) (fun z => by omega) (fun z => by omega)
      refine ⟨⟨m0_5, (nw_ln 5).trans rfl⟩, (nw_gr 4 0).trans rfl, ?_⟩
      have e : giC (mkX0 S) (S.1 + 4) 1 = 0 := (nw_gi 4 1).trans rfl
      show rg (giC (mkX0 S) (S.1 + 4) 1) 0 9
      rw [e]
      exact r0 9 (by omega)
    · refine WA.one (m0_5 (S := S)).2 (fun z => by omega) (fun z => by omega) (fun z => by omega) (fun z => by omega) (fun z => by omega) (fun z => by omega) (fun z => by omega) (fun z => by omega) (fun z => by omega) (fun _ => ?_) (fun z => by omega)
      exact fun j => Or.inl ((nw_gr 5 j).trans rfl)
    · refine WA.one (m0_6 (S := S)).2 (fun z => by omega) (fun z => by omega) (fun z => by omega) (fun z => by omega) (fun z => by omega) (fun z => by omega) (fun z => by omega) (fun z => by omega) (fun z => by omega) (fun z => by omega) (fun _ => ?_)
      refine ⟨(nw_ln 6).trans rfl, fun j hj => ?_⟩
      have : j = 0 ∨ j = 1 ∨ j = 2 ∨ j = 3 ∨ j = 4 ∨ j = 5 ∨ j = 6 ∨ j = 7 := by omega
      rcases this with rfl | rfl | rfl | rfl | rfl | rfl | rfl | rfl
      · exact ⟨(nw_gr 6 0).trans rfl, m0_13⟩
      · exact ⟨(nw_gr 6 1).trans rfl, m0_16⟩
      · exact ⟨(nw_gr 6 2).trans rfl, m0_19⟩
      · exact ⟨(nw_gr 6 3).trans rfl, m0_22⟩
      · exact ⟨(nw_gr 6 4).trans rfl, m0_25⟩
      · exact ⟨(nw_gr 6 5).trans rfl, m0_28⟩
      · exact ⟨(nw_gr 6 6).trans rfl, m0_31⟩
      · exact ⟨(nw_gr 6 7).trans rfl, m0_34⟩
    · refine WA.one (m0_7 (S := S)).2 (fun z => by omega) (fun z => by omega) (fun _ => ?_) (fun z => by omega) (fun z => by omega) (fun z => by omega) (fun z => by omega) (fun z => by omega) (fun z => by omega) (fun z => by omega) (fun z => by omega)
      have e0 : giC (mkX0 S) (S.1 + 7) 0 = 7 := (nw_gi 7 0).trans rfl
      have e1 : giC (mkX0 S) (S.1 + 7) 1 = 600 := (nw_gi 7 1).trans rfl
      have e3 : giC (mkX0 S) (S.1 + 7) 3 = 0 := (nw_gi 7 3).trans rfl
      have e2 : grC (mkX0 S) (S.1 + 7) 2 = some (S.1 + 8) := (nw_gr 7 2).trans rfl
      have el : lnC (mkX0 S) (S.1 + 8) = 112 := (nw_ln 8).trans rfl
      show W2 (mkX0 S) (S.1 + 7)
      unfold W2
      rw [e0, e1, e2, e3, Option.getD_some, el]
      exact ⟨⟨by decide, rfl, r0 600 (by omega)⟩, ir_so.mpr m0_8, by decide, by decide⟩
    · exact WA.one (m0_8 (S := S)).2 (fun z => by omega) (fun z => by omega) (fun z => by omega) (fun z => by omega) (fun z => by omega) (fun z => by omega) (fun z => by omega) (fun z => by omega) (fun z => by omega) (fun z => by omega) (fun z => by omega)
    · refine WA.one (m0_9 (S := S)).2 (fun z => by omega) (fun z => by omega) (fun _ => ?_) (fun z => by omega) (fun z => by omega) (fun z => by omega) (fun z => by omega) (fun z => by omega) (fun z => by omega) (fun z => by omega) (fun z => by omega)
      have e0 : giC (mkX0 S) (S.1 + 9) 0 = 5 := (nw_gi 9 0).trans rfl
      have e1 : giC (mkX0 S) (S.1 + 9) 1 = 600 := (nw_gi 9 1).trans rfl
      have e3 : giC (mkX0 S) (S.1 + 9) 3 = 0 := (nw_gi 9 3).trans rfl
      have e2 : grC (mkX0 S) (S.1 + 9) 2 = some (S.1 + 10) := (nw_gr 9 2).trans rfl
      have el : lnC (mkX0 S) (S.1 + 10) = 80 := (nw_ln 10).trans rfl
      show W2 (mkX0 S) (S.1 + 9)
      unfold W2
      rw [e0, e1, e2, e3, Option.getD_some, el]
      exact ⟨⟨by decide, rfl, r0 600 (by omega)⟩, ir_so.mpr m0_10, by decide, by decide⟩
    · exact WA.one (m0_10 (S := S)).2 (fun z => by omega) (fun z => by omega) (fun z => by omega) (fun z => by omega) (fun z => by omega) (fun z => by omega) (fun z => by omega) (fun z => by omega) (fun z => by omega) (fun z => by omega) (fun z => by omega)
    · refine WA.one (m0_11 (S := S)).2 (fun z => by omega) (fun z => by omega) (fun z => by omega) (fun z => by omega) (fun z => by omega) (fun z => by omega) (fun _ => ?_) (fun z => by omega) (fun z => by omega) (fun z => by omega) (fun z => by omega)
      refine ⟨⟨m0_12, (nw_ln 12).trans rfl⟩, (nw_gr 11 0).trans rfl, ?_⟩
      have e : giC (mkX0 S) (S.1 + 11) 1 = 0 := (nw_gi 11 1).trans rfl
      show rg (giC (mkX0 S) (S.1 + 11) 1) 0 400
      rw [e]
      exact r0 400 (by omega)
    · exact WA.one (m0_12 (S := S)).2 (fun z => by omega) (fun z => by omega) (fun z => by omega) (fun z => by omega) (fun z => by omega) (fun z => by omega) (fun z => by omega) (fun z => by omega) (fun z => by omega) (fun z => by omega) (fun z => by omega)
    · refine WA.one (m0_13 (S := S)).2 (fun z => by omega) (fun z => by omega) (fun z => by omega) (fun z => by omega) (fun z => by omega) (fun _ => ?_) (fun z => by omega) (fun z => by omega) (fun z => by omega) (fun z => by omega) (fun z => by omega)
      exact ⟨m0_14, (nw_gr 13 1).trans rfl⟩
    · refine WA.one (m0_14 (S := S)).2 (fun z => by omega) (fun z => by omega) (fun z => by omega) (fun z => by omega) (fun _ => ?_) (fun z => by omega) (fun z => by omega) (fun z => by omega) (fun z => by omega) (fun z => by omega) (fun z => by omega)
      refine ⟨⟨m0_15, (nw_ln 15).trans rfl⟩, (nw_gr 14 0).trans rfl, ?_⟩
      have e : giC (mkX0 S) (S.1 + 14) 1 = 0 := (nw_gi 14 1).trans rfl
      show rg (giC (mkX0 S) (S.1 + 14) 1) 0 9
      rw [e]
      exact r0 9 (by omega)
    · refine WA.one (m0_15 (S := S)).2 (fun z => by omega) (fun z => by omega) (fun z => by omega) (fun z => by omega) (fun z => by omega) (fun z => by omega) (fun z => by omega) (fun z => by omega) (fun z => by omega) (fun _ => ?_) (fun z => by omega)
      exact fun j => Or.inl ((nw_gr 15 j).trans rfl)
    · refine WA.one (m0_16 (S := S)).2 (fun z => by omega) (fun z => by omega) (fun z => by omega) (fun z => by omega) (fun z => by omega) (fun _ => ?_) (fun z => by omega) (fun z => by omega) (fun z => by omega) (fun z => by omega) (fun z => by omega)
      exact ⟨m0_17, (nw_gr 16 1).trans rfl⟩
    · refine WA.one (m0_17 (S := S)).2 (fun z => by omega) (fun z => by omega) (fun z => by omega) (fun z => by omega) (fun _ => ?_) (fun z => by omega) (fun z => by omega) (fun z => by omega) (fun z => by omega) (fun z => by omega) (fun z => by omega)
      refine ⟨⟨m0_18, (nw_ln 18).trans rfl⟩, (nw_gr 17 0).trans rfl, ?_⟩
      have e : giC (mkX0 S) (S.1 + 17) 1 = 0 := (nw_gi 17 1).trans rfl
      show rg (giC (mkX0 S) (S.1 + 17) 1) 0 9
      rw [e]
      exact r0 9 (by omega)
    · refine WA.one (m0_18 (S := S)).2 (fun z => by omega) (fun z => by omega) (fun z => by omega) (fun z => by omega) (fun z => by omega) (fun z => by omega) (fun z => by omega) (fun z => by omega) (fun z => by omega) (fun _ => ?_) (fun z => by omega)
      exact fun j => Or.inl ((nw_gr 18 j).trans rfl)
    · refine WA.one (m0_19 (S := S)).2 (fun z => by omega) (fun z => by omega) (fun z => by omega) (fun z => by omega) (fun z => by omega) (fun _ => ?_) (fun z => by omega) (fun z => by omega) (fun z => by omega) (fun z => by omega) (fun z => by omega)
      exact ⟨m0_20, (nw_gr 19 1).trans rfl⟩
    · refine WA.one (m0_20 (S := S)).2 (fun z => by omega) (fun z => by omega) (fun z => by omega) (fun z => by omega) (fun _ => ?_) (fun z => by omega) (fun z => by omega) (fun z => by omega) (fun z => by omega) (fun z => by omega) (fun z => by omega)
      refine ⟨⟨m0_21, (nw_ln 21).trans rfl⟩, (nw_gr 20 0).trans rfl, ?_⟩
      have e : giC (mkX0 S) (S.1 + 20) 1 = 0 := (nw_gi 20 1).trans rfl
      show rg (giC (mkX0 S) (S.1 + 20) 1) 0 9
      rw [e]
      exact r0 9 (by omega)
    · refine WA.one (m0_21 (S := S)).2 (fun z => by omega) (fun z => by omega) (fun z => by omega) (fun z => by omega) (fun z => by omega) (fun z => by omega) (fun z => by omega) (fun z => by omega) (fun z => by omega) (fun _ => ?_) (fun z => by omega)
      exact fun j => Or.inl ((nw_gr 21 j).trans rfl)
    · refine WA.one (m0_22 (S := S)).2 (fun z => by omega) (fun z => by omega) (fun z => by omega) (fun z => by omega) (fun z => by omega) (fun _ => ?_) (fun z => by omega) (fun z => by omega) (fun z => by omega) (fun z => by omega) (fun z => by omega)
      exact ⟨m0_23, (nw_gr 22 1).trans rfl⟩
    · refine WA.one (m0_23 (S := S)).2 (fun z => by omega) (fun z => by omega) (fun z => by omega) (fun z => by omega) (fun _ => ?_) (fun z => by omega) (fun z => by omega) (fun z => by omega) (fun z => by omega) (fun z => by omega) (fun z => by omega)
      refine ⟨⟨m0_24, (nw_ln 24).trans rfl⟩, (nw_gr 23 0).trans rfl, ?_⟩
      have e : giC (mkX0 S) (S.1 + 23) 1 = 0 := (nw_gi 23 1).trans rfl
      show rg (giC (mkX0 S) (S.1 + 23) 1) 0 9
      rw [e]
      exact r0 9 (by omega)
    · refine WA.one (m0_24 (S := S)).2 (fun z => by omega) (fun z => by omega) (fun z => by omega) (fun z => by omega) (fun z => by omega) (fun z => by omega) (fun z => by omega) (fun z => by omega) (fun z => by omega) (fun _ => ?_) (fun z => by omega)
      exact fun j => Or.inl ((nw_gr 24 j).trans rfl)
    · refine WA.one (m0_25 (S := S)).2 (fun z => by omega) (fun z => by omega) (fun z => by omega) (fun z => by omega) (fun z => by omega) (fun _ => ?_) (fun z => by omega) (fun z => by omega) (fun z => by omega) (fun z => by omega) (fun z => by omega)
      exact ⟨m0_26, (nw_gr 25 1).trans rfl⟩
    · refine WA.one (m0_26 (S := S)).2 (fun z => by omega) (fun z => by omega) (fun z => by omega) (fun z => by omega) (fun _ => ?_) (fun z => by omega) (fun z => by omega) (fun z => by omega) (fun z => by omega) (fun z => by omega) (fun z => by omega)
      refine ⟨⟨m0_27, (nw_ln 27).trans rfl⟩, (nw_gr 26 0).trans rfl, ?_⟩
      have e : giC (mkX0 S) (S.1 + 26) 1 = 0 := (nw_gi 26 1).trans rfl
      show rg (giC (mkX0 S) (S.1 + 26) 1) 0 9
      rw [e]
      exact r0 9 (by omega)
    · refine WA.one (m0_27 (S := S)).2 (fun z => by omega) (fun z => by omega) (fun z => by omega) (fun z => by omega) (fun z => by omega) (fun z => by omega) (fun z => by omega) (fun z => by omega) (fun z => by omega) (fun _ => ?_) (fun z => by omega)
      exact fun j => Or.inl ((nw_gr 27 j).trans rfl)
    · refine WA.one (m0_28 (S := S)).2 (fun z => by omega) (fun z => by omega) (fun z => by omega) (fun z => by omega) (fun z => by omega) (fun _ => ?_) (fun z => by omega) (fun z => by omega) (fun z => by omega) (fun z => by omega) (fun z => by omega)
      exact ⟨m0_29, (nw_gr 28 1).trans rfl⟩
    · refine WA.one (m0_29 (S := S)).2 (fun z => by omega) (fun z => by omega) (fun z => by omega) (fun z => by omega) (fun _ => ?_) (fun z => by omega) (fun z => by omega) (fun z => by omega) (fun z => by omega) (fun z => by omega) (fun z => by omega)
      refine ⟨⟨m0_30, (nw_ln 30).trans rfl⟩, (nw_gr 29 0).trans rfl, ?_⟩
      have e : giC (mkX0 S) (S.1 + 29) 1 = 0 := (nw_gi 29 1).trans rfl
      show rg (giC (mkX0 S) (S.1 + 29) 1) 0 9
      rw [e]
      exact r0 9 (by omega)
    · refine WA.one (m0_30 (S := S)).2 (fun z => by omega) (fun z => by omega) (fun z => by omega) (fun z => by omega) (fun z => by omega) (fun z => by omega) (fun z => by omega) (fun z => by omega) (fun z => by omega) (fun _ => ?_) (fun z => by omega)
      exact fun j => Or.inl ((nw_gr 30 j).trans rfl)
    · refine WA.one (m0_31 (S := S)).2 (fun z => by omega) (fun z => by omega) (fun z => by omega) (fun z => by omega) (fun z => by omega) (fun _ => ?_) (fun z => by omega) (fun z => by omega) (fun z => by omega) (fun z => by omega) (fun z => by omega)
      exact ⟨m0_32, (nw_gr 31 1).trans rfl⟩
    · refine WA.one (m0_32 (S := S)).2 (fun z => by omega) (fun z => by omega) (fun z => by omega) (fun z => by omega) (fun _ => ?_) (fun z => by omega) (fun z => by omega) (fun z => by omega) (fun z => by omega) (fun z => by omega) (fun z => by omega)
      refine ⟨⟨m0_33, (nw_ln 33).trans rfl⟩, (nw_gr 32 0).trans rfl, ?_⟩
      have e : giC (mkX0 S) (S.1 + 32) 1 = 0 := (nw_gi 32 1).trans rfl
      show rg (giC (mkX0 S) (S.1 + 32) 1) 0 9
      rw [e]
      exact r0 9 (by omega)
    · refine WA.one (m0_33 (S := S)).2 (fun z => by omega) (fun z => by omega) (fun z => by omega) (fun z => by omega) (fun z => by omega) (fun z => by omega) (fun z => by omega) (fun z => by omega) (fun z => by omega) (fun _ => ?_) (fun z => by omega)
      exact fun j => Or.inl ((nw_gr 33 j).trans rfl)
    · refine WA.one (m0_34 (S := S)).2 (fun z => by omega) (fun z => by omega) (fun z => by omega) (fun z => by omega) (fun z => by omega) (fun _ => ?_) (fun z => by omega) (fun z => by omega) (fun z => by omega) (fun z => by omega) (fun z => by omega)
      exact ⟨m0_35, (nw_gr 34 1).trans rfl⟩
    · refine WA.one (m0_35 (S := S)).2 (fun z => by omega) (fun z => by omega) (fun z => by omega) (fun z => by omega) (fun _ => ?_) (fun z => by omega) (fun z => by omega) (fun z => by omega) (fun z => by omega) (fun z => by omega) (fun z => by omega)
      refine ⟨⟨m0_36, (nw_ln 36).trans rfl⟩, (nw_gr 35 0).trans rfl, ?_⟩
      have e : giC (mkX0 S) (S.1 + 35) 1 = 0 := (nw_gi 35 1).trans rfl
      show rg (giC (mkX0 S) (S.1 + 35) 1) 0 9
      rw [e]
      exact r0 9 (by omega)
    · refine WA.one (m0_36 (S := S)).2 (fun z => by omega) (fun z => by omega) (fun z => by omega) (fun z => by omega) (fun z => by omega) (fun z => by omega) (fun z => by omega) (fun z => by omega) (fun z => by omega) (fun _ => ?_) (fun z => by omega)
      exact fun j => Or.inl ((nw_gr 36 j).trans rfl)
    · refine WA.one (m0_37 (S := S)).2 (fun z => by omega) (fun _ => ?_) (fun z => by omega) (fun z => by omega) (fun z => by omega) (fun z => by omega) (fun z => by omega) (fun z => by omega) (fun z => by omega) (fun z => by omega) (fun z => by omega)
      refine ⟨⟨m0_38, (nw_ln 38).trans rfl, m0_39, (nw_ln 39).trans rfl⟩, ⟨(nw_gr 37 1).trans rfl, (nw_gr 37 7).trans rfl⟩, ?_⟩
      have e : giC (mkX0 S) (S.1 + 37) 0 = 1 := (nw_gi 37 0).trans rfl
      show rg (giC (mkX0 S) (S.1 + 37) 0) 0 200
      rw [e]
      exact ⟨by decide, by decide⟩
    · exact WA.one (m0_38 (S := S)).2 (fun z => by omega) (fun z => by omega) (fun z => by omega) (fun z => by omega) (fun z => by omega) (fun z => by omega) (fun z => by omega) (fun z => by omega) (fun z => by omega) (fun z => by omega) (fun z => by omega)
    · exact WA.one (m0_39 (S := S)).2 (fun z => by omega) (fun z => by omega) (fun z => by omega) (fun z => by omega) (fun z => by omega) (fun z => by omega) (fun z => by omega) (fun z => by omega) (fun z => by omega) (fun z => by omega) (fun z => by omega)
theorem nw_i {q : Nat} (h : S.1 ≤ q) {c : Nat} (k : iK (mkX0 S) q c) : ∃ i, i < 40 ∧ q = S.1 + i := by
  have : q < S.1 + 40 := k.1
  exact ⟨q - S.1, by omega, by omega⟩
theorem CI.mk0 (h : CI noE S T [] col) : CI noE (mkX0 S) T [] (cN S S.1 col) := by
  have wf := wf_mk0 h.wf
  have g : eN S (mkX0 S) := eN.pu S _ _
  have og : ∀ {q : Nat}, q < S.1 → ∀ k, giC (mkX0 S) q k = giC S q k := fun a k => pu_gi a k
  have or : ∀ {q : Nat}, q < S.1 → ∀ k, grC (mkX0 S) q k = grC S q k := fun a k => pu_gr a k
  have old : ∀ q c, q < S.1 → iK (mkX0 S) q c → iK S q c := fun q c a k => ⟨a, by rw [← (g.2 q a).1]; exact k.2⟩
  have lt : ∀ c q, q ∈ T c → q < S.1 := fun c q m => (h.tk c q m).1.1
  have tn : ∀ c, S.1 ≤ c → T c = [] := fun c a => Classical.byContradiction (fun z => by have := h.tz c z; omega)
  refine ⟨wf, fun c n => Nat.lt_of_lt_of_le (h.tz c n) g.1.1, fun c q m => ⟨(h.tk c q m).1.n g, ?_⟩, h.td, h.tn, ⟨List.nodup_nil, fun q m => by cases m⟩, fun P e k => ?_, fun y k => ?_, fun y k j hj => ?_, fun q k j hj => ?_, fun l k => ?_⟩
  · rw [cN_old (lt c q m), cN_old (h.tz c (fun z => by rw [z] at m; cases m))]
    exact (h.tk c q m).2
  · by_cases a : P < S.1
    · have kS := old P 4 a k
      have w := h.tp P e kS
      rw [og a]
      refine ⟨w.1, w.2.1, fun i hi => ?_⟩
      rw [or (h.wf.w4 kS).1.1.1]
      exact w.2.2 i hi
    · obtain ⟨i, hi, rfl⟩ := nw_i (Nat.le_of_not_lt a) k
      rw [tn _ (Nat.le_add_right _ _)]
      have e1 : giC (mkX0 S) (S.1 + i) 1 = 0 := by
        rcases m0_k hi k.2 with ⟨rfl, z⟩ | ⟨rfl, z⟩ | ⟨rfl, z⟩ | ⟨rfl, z⟩ | ⟨rfl, z⟩ | ⟨rfl, z⟩ | ⟨rfl, z⟩ | ⟨rfl, z⟩ | ⟨rfl, z⟩ | ⟨rfl, z⟩ | ⟨rfl, z⟩ | ⟨rfl, z⟩ | ⟨rfl, z⟩ | ⟨rfl, z⟩ | ⟨rfl, z⟩ | ⟨rfl, z⟩ | ⟨rfl, z⟩ | ⟨rfl, z⟩ | ⟨rfl, z⟩ | ⟨rfl, z⟩ | ⟨rfl, z⟩ | ⟨rfl, z⟩ | ⟨rfl, z⟩ | ⟨rfl, z⟩ | ⟨rfl, z⟩ | ⟨rfl, z⟩ | ⟨rfl, z⟩ | ⟨rfl, z⟩ | ⟨rfl, z⟩ | ⟨rfl, z⟩ | ⟨rfl, z⟩ | ⟨rfl, z⟩ | ⟨rfl, z⟩ | ⟨rfl, z⟩ | ⟨rfl, z⟩ | ⟨rfl, z⟩ | ⟨rfl, z⟩ | ⟨rfl, z⟩ | ⟨rfl, z⟩ | ⟨rfl, z⟩
        · omega
        · exact (nw_gi 1 1).trans rfl
        · omega
        · omega
        · exact (nw_gi 4 1).trans rfl
        · omega
        · omega
        · omega
        · omega
        · omega
        · omega
        · omega
        · omega
        · omega
        · exact (nw_gi 14 1).trans rfl
        · omega
        · omega
        · exact (nw_gi 17 1).trans rfl
        · omega
        · omega
        · exact (nw_gi 20 1).trans rfl
        · omega
        · omega
        · exact (nw_gi 23 1).trans rfl
        · omega
        · omega
        · exact (nw_gi 26 1).trans rfl
        · omega
        · omega
        · exact (nw_gi 29 1).trans rfl
        · omega
        · omega
        · exact (nw_gi 32 1).trans rfl
        · omega
        · omega
        · exact (nw_gi 35 1).trans rfl
        · omega
        · omega
        · omega
        · omega
      rw [e1]
      exact ⟨rfl, Nat.zero_le _, fun i hi => by simp at hi⟩
  · by_cases a : y < S.1
    · rw [or a]
      exact (h.tc y (old y 0 a k)).cg _ _ (fun q m => or (lt y q m) _)
    · obtain ⟨i, hi, rfl⟩ := nw_i (Nat.le_of_not_lt a) k
      rw [tn _ (Nat.le_add_right _ _)]
      have e0 : i = 0 := by
        have := m0_k hi k.2
        omega
      subst e0
      exact (nw_gr 0 10).trans rfl
  · by_cases a : y < S.1
    · have k0 := old y 0 a k
      have b := (h.wf.w1 (h.wf.w0 k0).1.1).1.2.2.1.1
      rw [cN_old (by omega)]
      exact h.c0 y k0 j hj
    · obtain ⟨i, hi, rfl⟩ := nw_i (Nat.le_of_not_lt a) k
      have e0 : i = 0 := by
        have := m0_k hi k.2
        omega
      subst e0
      exact cN_new (by omega)
  · by_cases a : q < S.1
    · have k3 := old q 3 a k
      have b := (h.wf.w3 k3).1.2.1.1
      rw [cN_old (by omega), cN_old a]
      exact h.c3 q k3 j hj
    · obtain ⟨i, hi, rfl⟩ := nw_i (Nat.le_of_not_lt a) k
      have := m0_k hi k.2
      omega
  · by_cases a : l < S.1
    · have k2 := old l 2 a k
      rw [or a, cN_old (h.wf.w2 k2).2.1.2.1, cN_old a]
      exact h.c2 l k2
    · obtain ⟨i, hi, rfl⟩ := nw_i (Nat.le_of_not_lt a) k
      have e2 : i = 7 ∨ i = 9 := by
        have := m0_k hi k.2
        omega
      rcases e2 with rfl | rfl
      · have e : grC (mkX0 S) (S.1 + 7) 2 = some (S.1 + 8) := (nw_gr 7 2).trans rfl
        rw [e, Option.getD_some, cN_new (by omega), cN_new (by omega)]
      · have e : grC (mkX0 S) (S.1 + 9) 2 = some (S.1 + 10) := (nw_gr 9 2).trans rfl
        rw [e, Option.getD_some, cN_new (by omega), cN_new (by omega)]
/-- nothing is in it -/
theorem clr_mk0 (h : CI noE S T [] col) : clr (mkX0 S) T S.1 ∧ mT T S.1 = 0 := by
  have tn : ∀ c, S.1 ≤ c → T c = [] := fun c a => Classical.byContradiction (fun z => by have := h.tz c z; omega)
  refine ⟨⟨tn _ (by omega), tn _ (by omega), (nw_gi 3 0).trans rfl, fun p hp => ⟨?_, tn _ (by omega)⟩⟩, ?_⟩
  · have : p = 0 ∨ p = 1 ∨ p = 2 ∨ p = 3 ∨ p = 4 ∨ p = 5 ∨ p = 6 ∨ p = 7 := by omega
    rcases this with rfl | rfl | rfl | rfl | rfl | rfl | rfl | rfl
    · exact (nw_gi 13 0).trans rfl
    · exact (nw_gi 16 0).trans rfl
    · exact (nw_gi 19 0).trans rfl
    · exact (nw_gi 22 0).trans rfl
    · exact (nw_gi 25 0).trans rfl
    · exact (nw_gi 28 0).trans rfl
    · exact (nw_gi 31 0).trans rfl
    · exact (nw_gi 34 0).trans rfl
  · have hs : ∀ n, sT T S.1 n = 0 := by
      intro n
      induction n with
      | zero => rfl
      | succ n ih =>
        rw [sT, ih, tn _ (by omega)]
        rfl
    unfold mT
    rw [hs 8, tn _ (Nat.le_refl _), tn _ (by omega), tn _ (by omega)]
    rfl
end
end
section
/-! ===== the whole object ===== -/
def smL (f : Nat → Nat) : List Nat → Nat
  | [] => 0
  | a :: A => f a + smL f A
theorem smL_cg {f g : Nat → Nat} : ∀ A, (∀ z, z ∈ A → g z = f z) → smL g A = smL f A := by
  intro A
  induction A with
  | nil => intro _; rfl
  | cons a A ih =>
    intro h
    rw [smL, smL, ih (fun z m => h z (List.mem_cons_of_mem _ m)), h a (List.mem_cons_self ..)]
theorem smL_upd {f g : Nat → Nat} {x : Nat} : ∀ A, A.Nodup → x ∈ A → (∀ z, z ∈ A → z ≠ x → g z = f z) → smL g A + f x = smL f A + g x := by
  intro A
  induction A with
  | nil => intro _ m _; cases m
  | cons a A ih =>
    intro hn m h
    have hn := List.nodup_cons.mp hn
    rw [smL, smL]
    rcases List.mem_cons.mp m with e | m
    · rw [← e] at hn ⊢
      rw [smL_cg A (fun z mz => h z (List.mem_cons_of_mem _ mz) (fun y => hn.1 (by rw [← y]; exact mz)))]
      omega
    · have := ih hn.2 m (fun z mz => h z (List.mem_cons_of_mem _ mz))
      rw [h a (List.mem_cons_self ..) (fun y => hn.1 (by rw [y]; exact m))]
      omega
theorem smL_le {f : Nat → Nat} {B : Nat} : ∀ A : List Nat, (∀ z, z ∈ A → f z ≤ B) → smL f A ≤ B * A.length := by
  intro A
  induction A with
  | nil => intro _; exact Nat.zero_le _
  | cons a A ih =>
    intro h
    have i := ih (fun z m => h z (List.mem_cons_of_mem _ m))
    have j := h a (List.mem_cons_self ..)
    rw [smL, List.length_cons, Nat.mul_succ]
    omega
def kA (a b : Nat) (r2 r3 : Option Nat) : List Nat := a :: b :: (r2.toList ++ r3.toList)
def KG (m a b : Nat) (r2 r3 : Option Nat) (l : Nat) (A : List Nat) (S : Cst) (T : Nat → List Nat) (col : Nat → Nat) : Prop :=
  CI noE S T [] col ∧ (iK S m 7 ∧ iK S l 2 ∧ col m = m ∧ col l = m) ∧ (grC S m 0 = some a ∧ grC S m 1 = some b ∧ grC S m 2 = r2 ∧ grC S m 3 = r3 ∧ grC S m 4 = some l) ∧ A.Nodup ∧ (∀ x, x ∈ A → iK S x 0 ∧ PI S T x ∧ mT T x ≤ 90 ∧ col m ≠ x ∧ col l ≠ x) ∧ S.1 ≤ 100 + smL (pcL S T) A + lcl S l + 40 * A.length ∧ S.2.1 ≤ 3000 + smL (plL S T) A + psL S l + 966 * A.length
abbrev KJ (m a b : Nat) (r2 r3 : Option Nat) (l : Nat) (S : Cst) (T : Nat → List Nat) (col : Nat → Nat) : Prop := KG m a b r2 r3 l (kA a b r2 r3) S T col
section
variable {E E0 : Nat → Prop} {x y : Nat} {S S1 S2 S3 : Cst} {T T1 T2 : Nat → List Nat} {F F1 : List Nat} {col c1 c2 : Nat → Nat}
theorem PI.eq (h : PI S1 T1 x) (hs : ∀ d, pl x d → giC S2 d 0 = giC S1 d 0) (hT : ∀ c, own x c → c ≠ x → T2 c = T1 c) (hk : ∀ q, q ∈ T1 (x + 1) → giC S2 q 2 = giC S1 q 2) : PI S2 T2 x := by
  have hf : fcU S2 x 8 = fcU S1 x 8 := fcU_cg 8 (fun p hp => hs _ (Or.inr ⟨p, hp, rfl⟩))
  have ht := hT (x + 1) (Or.inr (Or.inl rfl)) (by omega)
  have hn : nd S2 (T2 (x + 1)) → nd S1 (T1 (x + 1)) := nd_sub (fun q m => by
    rw [ht] at m
    exact ⟨m, hk q m⟩)
  refine ⟨fun d o => ?_, fun n => ?_, fun n => ?_, fun n m => ?_⟩
  · rw [hs d o, hT (d + 1) o.o.1 o.o.2.1]
    exact h.1 d o
  · rw [hf]
    exact h.2.1 (hn n)
  · rw [hf]
    rw [hs (x + 3) (Or.inl rfl)] at n
    exact h.2.2.1 n
  · rw [hf]
    rw [hs (x + 3) (Or.inl rfl)] at m
    exact h.2.2.2 (hn n) m
theorem mT_cg (h : ∀ c, own x c → T2 c = T1 c) : mT T2 x = mT T1 x := by
  have hs : ∀ n, n ≤ 8 → sT T2 x n = sT T1 x n := by
    intro n
    induction n with
    | zero => intro _; rfl
    | succ n ih =>
      intro hn
      rw [sT, sT, ih (by omega), h (x + 14 + 3 * n) (Or.inr (Or.inr (Or.inr ⟨n, by omega, rfl⟩)))]
  unfold mT
  rw [hs 8 (by omega), h x (Or.inl rfl), h (x + 1) (Or.inr (Or.inl rfl)), h (x + 4) (Or.inr (Or.inr (Or.inl rfl)))]
/-- an assembly of which no cell is written -/
theorem oth_g (ci : CI noE S T F col) (ky : iK S y 0) (en : eN S S2) (fr : ∀ q, q < S.1 → col q = y → S2.2.2 q = S.2.2 q) (ft : ∀ c, c < S.1 → col c = y → T2 c = T c) (hy : PI S T y) : PI S2 T2 y ∧ mT T2 y = mT T y ∧ pcL S2 T2 y = pcL S T y ∧ plL S2 T2 y = plL S T y := by
  have cy : ∀ r, r < 40 → col (y + r) = y := fun r hr => ci.c0 y ky r hr
  have w0 := ci.wf.w0 ky
  have ce : ∀ r k, r < 40 → iK S (y + r) k → S2.2.2 (y + r) = S.2.2 (y + r) := fun r k hr kk => fr _ kk.1 (cy r hr)
  have kown : ∀ c, own y c → ∃ k, iK S c k := fun c o => by
    rcases o with o | o | o | ⟨p, hp, o⟩
    · rw [o]
      exact ⟨_, ky⟩
    · rw [o]
      exact ⟨_, w0.1.2.1⟩
    · rw [o]
      exact ⟨_, (ci.wf.w5 w0.1.2.2.1).1⟩
    · rw [o, show y + 14 + 3 * p = y + 13 + 3 * p + 1 by omega]
      exact ⟨_, (ci.wf.w5 (dk_ix ci.wf ky hp).2).1⟩
  have tc : ∀ c, own y c → T2 c = T c := fun c o => by
    obtain ⟨k, kk⟩ := kown c o
    obtain ⟨j, hj, e⟩ := o.lt
    exact ft c kk.1 (by rw [e]; exact cy j hj)
  have lc : ∀ j, (j = 7 ∨ j = 9) → lcl S2 (y + j) = lcl S (y + j) ∧ psL S2 (y + j) = psL S (y + j) := fun j hj => by
    have k2 : iK S (y + j) 2 := by
      rcases hj with rfl | rfl
      · exact w0.1.2.2.2.2.1
      · exact w0.1.2.2.2.2.2.1
    have e := ce j 2 (by omega) k2
    have a : lcl S2 (y + j) = lcl S (y + j) := by
      unfold lcl
      have e2 : grC S2 (y + j) 2 = grC S (y + j) 2 := by unfold grC; rw [e]
      rw [e2]
      exact (en.2 _ (ci.wf.w2 k2).2.1.2.1).2
    refine ⟨a, ?_⟩
    unfold psL
    have e0 : giC S2 (y + j) 0 = giC S (y + j) 0 := by unfold giC; rw [e]
    rw [a, e0]
  have em := mT_cg tc
  refine ⟨hy.eq (fun d o => ?_) (fun c o _ => tc c o) (fun q m => ?_), em, ?_, ?_⟩
  · have k5 := o.lt ci ky
    obtain ⟨j, hj, e⟩ := o.o.2.2
    unfold giC
    rw [e] at k5 ⊢
    rw [ce j 5 hj k5]
  · have kq := ci.tk _ _ m
    unfold giC
    rw [fr q kq.1.1 (by rw [kq.2]; exact cy 1 (by omega))]
  · unfold pcL
    rw [em, (lc 7 (Or.inl rfl)).1, (lc 9 (Or.inr rfl)).1]
  · unfold plL
    rw [em, (lc 7 (Or.inl rfl)).2, (lc 9 (Or.inr rfl)).2]
/-- another assembly's things stand -/
theorem Sst.oth (g : Sst noE x S T F col S2 T2 F1 c2) (ci : CI noE S T F col) (ky : iK S y 0) (n : y ≠ x) (hy : PI S T y) : PI S2 T2 y ∧ mT T2 y = mT T y ∧ pcL S2 T2 y = pcL S T y ∧ plL S2 T2 y = plL S T y := oth_g ci ky g.en (fun q a e => g.fr q a (by rw [e]; exact n)) (fun c a e => g.ft c a (by rw [e]; exact n)) hy
end
section
variable {m a b l x : Nat} {r2 r3 : Option Nat} {A : List Nat} {S S1 S2 S3 : Cst} {T T1 T2 : Nat → List Nat} {col c1 c2 : Nat → Nat}
theorem KG.ci (h : KG m a b r2 r3 l A S T col) : CI noE S T [] col := h.1
theorem KJ.ma (_ : KJ m a b r2 r3 l S T col) : a ∈ kA a b r2 r3 := List.mem_cons_self ..
theorem KJ.mb (_ : KJ m a b r2 r3 l S T col) : b ∈ kA a b r2 r3 := List.mem_cons_of_mem _ (List.mem_cons_self ..)
theorem KJ.nab (h : KJ m a b r2 r3 l S T col) : a ≠ b := fun z => by
  have := List.nodup_cons.mp h.2.2.2.1
  exact this.1 (by rw [z]; exact List.mem_cons_self ..)
theorem KJ.ka (h : KJ m a b r2 r3 l S T col) : iK S a 0 := (h.2.2.2.2.1 a h.ma).1
theorem KJ.kb (h : KJ m a b r2 r3 l S T col) : iK S b 0 := (h.2.2.2.2.1 b h.mb).1
theorem KG.g0 (h : KG m a b r2 r3 l A S T col) : grC S m 0 = some a := h.2.2.1.1
theorem KG.g1 (h : KG m a b r2 r3 l A S T col) : grC S m 1 = some b := h.2.2.1.2.1
theorem KG.g4 (h : KG m a b r2 r3 l A S T col) : grC S m 4 = some l := h.2.2.1.2.2.2.2
theorem KG.kl (h : KG m a b r2 r3 l A S T col) : iK S l 2 := h.2.1.2.1
theorem KG.km (h : KG m a b r2 r3 l A S T col) : iK S m 7 := h.2.1.1
/-- an assembly moved on -/
theorem KG.step (h : KG m a b r2 r3 l A S T col) (hx : x ∈ A) (g : Sst noE x S T [] col S2 T2 [] c2) (hp : PI S2 T2 x) : KG m a b r2 r3 l A S2 T2 c2 := by
  have hX := h.2.2.2.2.1 x hx
  have em : S2.2.2 m = S.2.2 m := g.fr m h.km.1 hX.2.2.2.1
  have el : S2.2.2 l = S.2.2 l := g.fr l h.kl.1 hX.2.2.2.2
  have gm : ∀ k, grC S2 m k = grC S m k := fun k => by unfold grC; rw [em]
  have lc : lcl S2 l = lcl S l := by
    unfold lcl
    have e2 : grC S2 l 2 = grC S l 2 := by unfold grC; rw [el]
    rw [e2]
    exact (g.en.2 _ (h.ci.wf.w2 h.kl).2.1.2.1).2
  have lp : psL S2 l = psL S l := by
    unfold psL
    have e0 : giC S2 l 0 = giC S l 0 := by unfold giC; rw [el]
    rw [lc, e0]
  have O := fun z (mz : z ∈ A) (nz : z ≠ x) => g.oth h.ci (h.2.2.2.2.1 z mz).1 nz (h.2.2.2.2.1 z mz).2.1
  refine ⟨g.ci, ⟨h.km.n g.en, h.kl.n g.en, by rw [g.cl m h.km.1]; exact h.2.1.2.2.1, by rw [g.cl l h.kl.1]; exact h.2.1.2.2.2⟩, ?_, h.2.2.2.1, fun z mz => ?_, ?_, ?_⟩
  · simp only [gm]
    exact h.2.2.1
  · have hz := h.2.2.2.2.1 z mz
    refine ⟨hz.1.n g.en, ?_, ?_, by rw [g.cl m h.km.1]; exact hz.2.2.2.1, by rw [g.cl l h.kl.1]; exact hz.2.2.2.2⟩
    · by_cases e : z = x
      · rw [e]
        exact hp
      · exact (O z mz e).1
    · by_cases e : z = x
      · rw [e]
        exact g.mb hX.2.2.1
      · rw [(O z mz e).2.1]
        exact hz.2.2.1
  · have u := smL_upd (f := pcL S T) (g := pcL S2 T2) (x := x) _ h.2.2.2.1 hx (fun z mz nz => (O z mz nz).2.2.1)
    have n1 := g.n1
    have b1 := h.2.2.2.2.2.1
    simp only [List.length_nil] at n1
    omega
  · have u := smL_upd (f := plL S T) (g := plL S2 T2) (x := x) _ h.2.2.2.1 hx (fun z mz nz => (O z mz nz).2.2.2)
    have n2 := g.n2
    have b2 := h.2.2.2.2.2.2
    simp only [List.length_nil] at n2
    omega
theorem KG.as (h : KG m a b r2 r3 l A S T col) (hx : x ∈ A) : AS x S T col S T col := ⟨Sst.rf h.ci (h.2.2.2.2.1 x hx).1 (fun q z => by cases z), (h.2.2.2.2.1 x hx).2.1⟩
/-- how large it grows -/
theorem KJ.bd (h : KJ m a b r2 r3 l S T col) : S.1 ≤ 40000 ∧ S.2.1 ≤ 500000 := by
  have hL : ∀ z, iK S z 2 → lcl S z ≤ 4200 ∧ psL S z ≤ 12600 := fun z k => by
    have w := h.ci.wf.w2 k
    have hg : (giC S z 0).toInt = 5 ∨ (giC S z 0).toInt = 6 ∨ (giC S z 0).toInt = 7 := by
      rcases w.1.1 with e | e | e <;> rw [e]
      · exact Or.inl (by decide)
      · exact Or.inr (Or.inl (by decide))
      · exact Or.inr (Or.inr (by decide))
    have e : lcl S z ≤ 4200 := by
      have := w.2.2.2
      unfold lcl
      omega
    refine ⟨e, ?_⟩
    unfold psL
    split <;> omega
  have hl := hL l h.kl
  have B1 := smL_le (f := pcL S T) (B := 8760) (kA a b r2 r3) (fun z mz => by
    have hz := h.2.2.2.2.1 z mz
    have w := h.ci.wf.w0 hz.1
    have q7 := hL _ w.1.2.2.2.2.1
    have q9 := hL _ w.1.2.2.2.2.2.1
    have := hz.2.2.1
    unfold pcL
    omega)
  have B2 := smL_le (f := plL S T) (B := 80820) (kA a b r2 r3) (fun z mz => by
    have hz := h.2.2.2.2.1 z mz
    have w := h.ci.wf.w0 hz.1
    have q7 := hL _ w.1.2.2.2.2.1
    have q9 := hL _ w.1.2.2.2.2.2.1
    have := hz.2.2.1
    unfold plL
    omega)
  have hlen : (kA a b r2 r3).length ≤ 4 := by
    unfold kA
    cases r2 <;> cases r3 <;> simp
  have b1 := h.2.2.2.2.2.1
  have b2 := h.2.2.2.2.2.2
  have : (kA a b r2 r3).length = 0 ∨ (kA a b r2 r3).length = 1 ∨ (kA a b r2 r3).length = 2 ∨ (kA a b r2 r3).length = 3 ∨ (kA a b r2 r3).length = 4 := by omega
  rcases this with e | e | e | e | e <;> rw [e] at B1 B2 b1 b2 <;> omega
/-- the row's size -/
def rw6 (S : Cst) (m : Nat) : Int32 := giC S ((grC S m 4).getD 0) 3
/-- what stood stands, and the row has its size -/
def eM (m : Nat) (S T : Cst) : Prop := (S.1 ≤ T.1 ∧ S.2.1 ≤ T.2.1) ∧ (∀ q, q < S.1 → kdC T q = kdC S q ∧ lnC T q = lnC S q) ∧ rw6 T m = rw6 S m
theorem eM.rf (m : Nat) (S : Cst) : eM m S S := ⟨(eN.rf S).1, (eN.rf S).2, rfl⟩
theorem eM.n (h : eM m S S2) : eN S S2 := ⟨h.1, h.2.1⟩
theorem eM.tr (h : eM m S S1) (g : eM m S1 S2) : eM m S S2 := ⟨(h.n.tr g.n).1, (h.n.tr g.n).2, g.2.2.trans h.2.2⟩
theorem KG.r6 (h : KG m a b r2 r3 l A S T col) (en : eN S S2) (em : S2.2.2 m = S.2.2 m) (el : S2.2.2 l = S.2.2 l) : eM m S S2 := by
  refine ⟨en.1, en.2, ?_⟩
  have e : grC S2 m 4 = grC S m 4 := by unfold grC; rw [em]
  unfold rw6
  rw [e, h.g4, Option.getD_some]
  unfold giC
  rw [el]
theorem KG.r6s (h : KG m a b r2 r3 l A S T col) (hx : x ∈ A) {T2 : Nat → List Nat} {F : List Nat} {c2 : Nat → Nat} (g : Sst noE x S T [] col S2 T2 F c2) (en : eN S S2) : eM m S S2 :=
  h.r6 en (g.fr m h.km.1 (h.2.2.2.2.1 x hx).2.2.2.1) (g.fr l h.kl.1 (h.2.2.2.2.1 x hx).2.2.2.2)
def KI (S : Cst) (m : Nat) : Prop := ∃ a b r2 r3 l T col, KJ m a b r2 r3 l S T col
theorem KJ.i (h : KJ m a b r2 r3 l S T col) : KI S m := ⟨a, b, r2, r3, l, T, col, h⟩
/-- a call -/
def kR (S : Cst) (m : Nat) (p : Nat → Nat → Prop) (f : Int32 × Cst) : Prop := ∃ v S2, f = (v, S2) ∧ (∀ lc ls, S2.1 ≤ lc → S2.2.1 ≤ ls → p lc ls) ∧ KI S2 m ∧ eM m S S2
/-- a call that may change the row's size -/
def kW (S : Cst) (m : Nat) (p : Nat → Nat → Prop) (f : Int32 × Cst) : Prop := ∃ v S2, f = (v, S2) ∧ (∀ lc ls, S2.1 ≤ lc → S2.2.1 ≤ ls → p lc ls) ∧ KI S2 m ∧ eN S S2
theorem kR.w {p p' : Nat → Nat → Prop} {f f' : Int32 × Cst} (h : kR S m p f) (hf : f' = f) (hp : ∀ lc ls, p lc ls → p' lc ls) : kR S m p' f' := by
  obtain ⟨v, S2, e, p, k, g⟩ := h
  exact ⟨v, S2, hf.trans e, fun lc ls A B => hp lc ls (p lc ls A B), k, g⟩
theorem kR.z {p : Nat → Nat → Prop} {f : Int32 × Cst} (h : kR S m p f) : kR S m (fun lc ls => ((S.1 ≤ f.2.1 ∧ f.2.1 ≤ lc) ∧ (S.2.1 ≤ f.2.2.1 ∧ f.2.2.1 ≤ ls)) ∧ p f.2.1 f.2.2.1) f := by
  obtain ⟨v, S2, e, p, k, g⟩ := h
  rw [e]
  exact ⟨v, S2, rfl, fun lc ls A B => ⟨⟨⟨g.1.1, A⟩, g.1.2, B⟩, p _ _ (Nat.le_refl _) (Nat.le_refl _)⟩, k, g⟩
theorem KG.ham (h : KG m a b r2 r3 l A S T col) (hx : x ∈ A) {p : Nat → Nat → Prop} {f : Int32 × Cst} (q : am x S T col S p f) : ∃ v S2 T2 c2, f = (v, S2) ∧ (∀ lc ls, S2.1 ≤ lc → S2.2.1 ≤ ls → p lc ls) ∧ KG m a b r2 r3 l A S2 T2 c2 ∧ eM m S S2 := by
  obtain ⟨v, S2, T2, c2, e, hp, as, en⟩ := q
  exact ⟨v, S2, T2, c2, e, hp, h.step hx as.1 as.2, h.r6s hx as.1 en⟩
theorem KJ.kr (h : KJ m a b r2 r3 l S T col) (hx : x ∈ kA a b r2 r3) {p : Nat → Nat → Prop} {f : Int32 × Cst} (q : am x S T col S p f) : kR S m p f := by
  obtain ⟨v, S2, T2, c2, e, hp, k, en⟩ := h.ham hx q
  exact ⟨v, S2, e, hp, KJ.i k, en⟩
/-- an act of the assembly that there is -/
theorem k_enact (h : KJ m a b r2 r3 l S T col) (act i1 i2 i3 i4 : Int32) : kR S m (fun lc ls => iK S a 0 ∧ (((S.1 ≤ (f_Y0_enact S a act i1 i2 i3 i4).2.1 ∧ (f_Y0_enact S a act i1 i2 i3 i4).2.1 ≤ lc) ∧ (S.2.1 ≤ (f_Y0_enact S a act i1 i2 i3 i4).2.2.1 ∧ (f_Y0_enact S a act i1 i2 i3 i4).2.2.1 ≤ ls)) ∧ p_Y0_enact S a (f_Y0_enact S a act i1 i2 i3 i4).2.1 (f_Y0_enact S a act i1 i2 i3 i4).2.2.1 act i1 i2 i3 i4) ∧ True) (f_Y0_enact S a act i1 i2 i3 i4) := (h.kr h.ma (y_enact (h.as h.ma) act i1 i2 i3 i4)).z.w rfl (fun _ _ p => ⟨h.ka, p, trivial⟩)
end
end
section
/-! ===== the calls of acts ===== -/
section
variable {m : Nat} {S : Cst}
theorem k_there (h : KI S m) (i1 : Int32) : kR S m (fun lc ls => p_Y10_there S m lc ls i1) (f_Y10_there S m i1) := by
  obtain ⟨a, b, r2, r3, l, T, col, h⟩ := h
  unfold p_Y10_there f_Y10_there
  rw [h.g0]
  simp only [Option.getD_some, ir_so]
  exact (k_enact h 1 i1 0 0 0).w rfl (fun _ _ p => ⟨p.1, p.2.1.1, p.2.1.2, trivial⟩)
theorem k_gone (h : KI S m) (i1 : Int32) : kR S m (fun lc ls => p_Y10_gone S m lc ls i1) (f_Y10_gone S m i1) := by
  obtain ⟨a, b, r2, r3, l, T, col, h⟩ := h
  unfold p_Y10_gone f_Y10_gone
  rw [h.g0]
  simp only [Option.getD_some, ir_so]
  exact (k_enact h 2 i1 0 0 0).w rfl (fun _ _ p => ⟨p.1, p.2.1.1, p.2.1.2, trivial⟩)
theorem k_quorum (h : KI S m) (i1 : Int32) : kR S m (fun lc ls => p_Y10_quorum S m lc ls i1) (f_Y10_quorum S m i1) := by
  obtain ⟨a, b, r2, r3, l, T, col, h⟩ := h
  unfold p_Y10_quorum f_Y10_quorum
  rw [h.g0]
  simp only [Option.getD_some, ir_so]
  exact (k_enact h 3 i1 0 0 0).w rfl (fun _ _ p => ⟨p.1, p.2.1.1, p.2.1.2, trivial⟩)
theorem k_chair (h : KI S m) (i1 : Int32) : kR S m (fun lc ls => p_Y10_chair S m lc ls i1) (f_Y10_chair S m i1) := by
  obtain ⟨a, b, r2, r3, l, T, col, h⟩ := h
  unfold p_Y10_chair f_Y10_chair
  rw [h.g0]
  simp only [Option.getD_some, ir_so]
  exact (k_enact h 4 i1 0 0 0).w rfl (fun _ _ p => ⟨p.1, p.2.1.1, p.2.1.2, trivial⟩)
theorem k_majority (h : KI S m) (i1 i2 : Int32) : kR S m (fun lc ls => p_Y10_majority S m lc ls i1 i2) (f_Y10_majority S m i1 i2) := by
  obtain ⟨a, b, r2, r3, l, T, col, h⟩ := h
  unfold p_Y10_majority f_Y10_majority
  rw [h.g0]
  simp only [Option.getD_some, ir_so]
  exact (k_enact h 5 i1 i2 0 0).w rfl (fun _ _ p => ⟨p.1, p.2.1.1, p.2.1.2, trivial⟩)
theorem k_limit (h : KI S m) (i1 : Int32) : kR S m (fun lc ls => p_Y10_limit S m lc ls i1) (f_Y10_limit S m i1) := by
  obtain ⟨a, b, r2, r3, l, T, col, h⟩ := h
  unfold p_Y10_limit f_Y10_limit
  rw [h.g0]
  simp only [Option.getD_some, ir_so]
  exact (k_enact h 6 i1 0 0 0).w rfl (fun _ _ p => ⟨p.1, p.2.1.1, p.2.1.2, trivial⟩)
theorem k_floor (h : KI S m) (i1 : Int32) : kR S m (fun lc ls => p_Y10_floor S m lc ls i1) (f_Y10_floor S m i1) := by
  obtain ⟨a, b, r2, r3, l, T, col, h⟩ := h
  unfold p_Y10_floor f_Y10_floor
  rw [h.g0]
  simp only [Option.getD_some, ir_so]
  exact (k_enact h 7 i1 0 0 0).w rfl (fun _ _ p => ⟨p.1, p.2.1.1, p.2.1.2, trivial⟩)
theorem k_cede (h : KI S m) : kR S m (fun lc ls => p_Y10_cede S m lc ls) (f_Y10_cede S m) := by
  obtain ⟨a, b, r2, r3, l, T, col, h⟩ := h
  unfold p_Y10_cede f_Y10_cede
  rw [h.g0]
  simp only [Option.getD_some, ir_so]
  exact (k_enact h 8 0 0 0 0).w rfl (fun _ _ p => ⟨p.1, p.2.1.1, p.2.1.2, trivial⟩)
theorem k_debate (h : KI S m) (i1 : Int32) : kR S m (fun lc ls => p_Y10_debate S m lc ls i1) (f_Y10_debate S m i1) := by
  obtain ⟨a, b, r2, r3, l, T, col, h⟩ := h
  unfold p_Y10_debate f_Y10_debate
  rw [h.g0]
  simp only [Option.getD_some, ir_so]
  exact (k_enact h 9 i1 0 0 0).w rfl (fun _ _ p => ⟨p.1, p.2.1.1, p.2.1.2, trivial⟩)
theorem k_draft (h : KI S m) (i1 : Int32) : kR S m (fun lc ls => p_Y10_draft S m lc ls i1) (f_Y10_draft S m i1) := by
  obtain ⟨a, b, r2, r3, l, T, col, h⟩ := h
  unfold p_Y10_draft f_Y10_draft
  rw [h.g0]
  simp only [Option.getD_some, ir_so]
  exact (k_enact h 10 i1 0 0 0).w rfl (fun _ _ p => ⟨p.1, p.2.1.1, p.2.1.2, trivial⟩)
theorem k_span (h : KI S m) (i1 i2 : Int32) : kR S m (fun lc ls => p_Y10_span S m lc ls i1 i2) (f_Y10_span S m i1 i2) := by
  obtain ⟨a, b, r2, r3, l, T, col, h⟩ := h
  unfold p_Y10_span f_Y10_span
  rw [h.g0]
  simp only [Option.getD_some, ir_so]
  exact (k_enact h 11 i1 i2 0 0).w rfl (fun _ _ p => ⟨p.1, p.2.1.1, p.2.1.2, trivial⟩)
theorem k_word (h : KI S m) (i1 i2 i3 i4 : Int32) : kR S m (fun lc ls => p_Y10_word S m lc ls i1 i2 i3 i4) (f_Y10_word S m i1 i2 i3 i4) := by
  obtain ⟨a, b, r2, r3, l, T, col, h⟩ := h
  unfold p_Y10_word f_Y10_word
  rw [h.g0]
  simp only [Option.getD_some, ir_so]
  exact (k_enact h 12 i1 i2 i3 i4).w rfl (fun _ _ p => ⟨p.1, p.2.1.1, p.2.1.2, trivial⟩)
theorem k_lay (h : KI S m) (i1 : Int32) : kR S m (fun lc ls => p_Y10_lay S m lc ls i1) (f_Y10_lay S m i1) := by
  obtain ⟨a, b, r2, r3, l, T, col, h⟩ := h
  unfold p_Y10_lay f_Y10_lay
  rw [h.g0]
  simp only [Option.getD_some, ir_so]
  exact (k_enact h 13 i1 0 0 0).w rfl (fun _ _ p => ⟨p.1, p.2.1.1, p.2.1.2, trivial⟩)
theorem k_take (h : KI S m) (i1 : Int32) : kR S m (fun lc ls => p_Y10_take S m lc ls i1) (f_Y10_take S m i1) := by
  obtain ⟨a, b, r2, r3, l, T, col, h⟩ := h
  unfold p_Y10_take f_Y10_take
  rw [h.g0]
  simp only [Option.getD_some, ir_so]
  exact (k_enact h 14 i1 0 0 0).w rfl (fun _ _ p => ⟨p.1, p.2.1.1, p.2.1.2, trivial⟩)
theorem k_move (h : KI S m) (i1 : Int32) : kR S m (fun lc ls => p_Y10_move S m lc ls i1) (f_Y10_move S m i1) := by
  obtain ⟨a, b, r2, r3, l, T, col, h⟩ := h
  unfold p_Y10_move f_Y10_move
  rw [h.g0]
  simp only [Option.getD_some, ir_so]
  exact (k_enact h 15 i1 0 0 0).w rfl (fun _ _ p => ⟨p.1, p.2.1.1, p.2.1.2, trivial⟩)
theorem k_second (h : KI S m) (i1 : Int32) : kR S m (fun lc ls => p_Y10_second S m lc ls i1) (f_Y10_second S m i1) := by
  obtain ⟨a, b, r2, r3, l, T, col, h⟩ := h
  unfold p_Y10_second f_Y10_second
  rw [h.g0]
  simp only [Option.getD_some, ir_so]
  exact (k_enact h 16 i1 0 0 0).w rfl (fun _ _ p => ⟨p.1, p.2.1.1, p.2.1.2, trivial⟩)
theorem k_vote (h : KI S m) (i1 i2 : Int32) : kR S m (fun lc ls => p_Y10_vote S m lc ls i1 i2) (f_Y10_vote S m i1 i2) := by
  obtain ⟨a, b, r2, r3, l, T, col, h⟩ := h
  unfold p_Y10_vote f_Y10_vote
  rw [h.g0]
  simp only [Option.getD_some, ir_so]
  exact (k_enact h 17 i1 i2 0 0).w rfl (fun _ _ p => ⟨p.1, p.2.1.1, p.2.1.2, trivial⟩)
theorem k_withdraw (h : KI S m) (i1 : Int32) : kR S m (fun lc ls => p_Y10_withdraw S m lc ls i1) (f_Y10_withdraw S m i1) := by
  obtain ⟨a, b, r2, r3, l, T, col, h⟩ := h
  unfold p_Y10_withdraw f_Y10_withdraw
  rw [h.g0]
  simp only [Option.getD_some, ir_so]
  exact (k_enact h 18 i1 0 0 0).w rfl (fun _ _ p => ⟨p.1, p.2.1.1, p.2.1.2, trivial⟩)
theorem k_rule (h : KI S m) : kR S m (fun lc ls => p_Y10_rule S m lc ls) (f_Y10_rule S m) := by
  obtain ⟨a, b, r2, r3, l, T, col, h⟩ := h
  unfold p_Y10_rule f_Y10_rule
  rw [h.g0]
  simp only [Option.getD_some, ir_so]
  exact (k_enact h 19 0 0 0 0).w rfl (fun _ _ p => ⟨p.1, p.2.1.1, p.2.1.2, trivial⟩)
theorem k_appeal (h : KI S m) (i1 : Int32) : kR S m (fun lc ls => p_Y10_appeal S m lc ls i1) (f_Y10_appeal S m i1) := by
  obtain ⟨a, b, r2, r3, l, T, col, h⟩ := h
  unfold p_Y10_appeal f_Y10_appeal
  rw [h.g0]
  simp only [Option.getD_some, ir_so]
  exact (k_enact h 20 i1 0 0 0).w rfl (fun _ _ p => ⟨p.1, p.2.1.1, p.2.1.2, trivial⟩)
theorem k_told (h : KI S m) : kR S m (fun lc ls => p_Y10_told S m lc ls) (f_Y10_told S m) := by
  obtain ⟨a, b, r2, r3, l, T, col, h⟩ := h
  unfold p_Y10_told f_Y10_told
  rw [h.g0]
  simp only [Option.getD_some, ir_so]
  exact (k_enact h 21 0 0 0 0).w rfl (fun _ _ p => ⟨p.1, p.2.1.1, p.2.1.2, trivial⟩)
theorem k_adjourn (h : KI S m) : kR S m (fun lc ls => p_Y10_adjourn S m lc ls) (f_Y10_adjourn S m) := by
  obtain ⟨a, b, r2, r3, l, T, col, h⟩ := h
  unfold p_Y10_adjourn f_Y10_adjourn
  rw [h.g0]
  simp only [Option.getD_some, ir_so]
  exact (k_enact h 22 0 0 0 0).w rfl (fun _ _ p => ⟨p.1, p.2.1.1, p.2.1.2, trivial⟩)
end
end
section
/-! ===== the other calls ===== -/
theorem kp_why {S : Cst} {x : Nat} (h : wfS S) (k : iK S x 7) : p_Y10_why S x := by
  unfold p_Y10_why
  repeat' (first | with_reducible (first | exact trivial | assumption | exact nB0 | exact nB1 | refine And.intro ?_ ?_ | refine iteI (fun _ => ?_) (fun _ => ?_) | refine ir_k ?_ | refine g0_0 h ?_ | exact g5_1 h (by assumption) | exact g0_1 h (by assumption) | refine g5_1 h (ir_k (g0_2 h ?_)) | refine g0_1 h (ir_k (g7_0 h ?_)) | refine g0_1 h (ir_k (g7_1 h ?_)) | refine g5_1 h ?_ | refine g0_2 h ?_ | refine g0_3 h ?_ | exact g7_4 h (by assumption) | refine g0_4 h ?_ | refine g0_5 h ?_ | refine g0_6 h ?_ | refine g1_1 h ?_ | refine g1_7 h ?_ | refine g2_2 h ?_ | refine g3_12 h ?_ | refine g3_13 h ?_ | refine g4_0 h ?_ | refine g6_0 h ?_ | refine g7_0 h ?_ | refine g7_1 h ?_ | exact ix_lt (by assumption) (by assumption) | exact ix_ge (by assumption) (by assumption) | exact ix_l1 (by assumption) (by assumption) | refine i_at h ?_ (by assumption) | refine i_top h ?_ (by assumption) | refine i_motion h ?_ (by assumption) | refine i_place h ?_ (by assumption) | refine i_first h ?_ (by assumption) | exact rk_ir (by assumption) (by assumption) | refine t_at h ?_ _ | refine t_top h ?_ | refine t_motion h ?_ | refine t_place h ?_ _ | refine t_first h ?_ | refine y_has h ?_ _ | refine y_isThere h ?_ _ | exact y_hasFloor _ _ _ | exact y_hasQuorum _ _ | refine y_voteOf h ?_ _ | refine y_isMajority h ?_ _ _ _ | exact y_isFull _ _ | refine y_ledAt h ?_ _ _ | exact y_mNeeds _ _ | exact y_amends _ _ | refine y_canBeAbout ?_ | refine y_mFact h ?_ _ | refine y_at h ?_ _ | refine y_top h ?_ | exact y_empty _ _ | refine y_motion h ?_ | refine y_wordAt h ?_ _ | refine y_kind h ?_ | refine y_plWord h ?_ _ | refine y_plFact h ?_ _ | exact y_sizeWith _ _ _ _ _ | refine y_placeAt h ?_ _ | refine y_free h ?_ | refine y_first h ?_ | refine y_wordOf h ?_ _ _ | refine y_tally h ?_ ?_ _ | refine y_rank h ?_ | refine y_needs h ?_ | refine y_outcome h ?_ ?_ _ _ | refine y_aAbsent h ?_ _ | refine y_aSecond h ?_ ?_ _ | refine y_aVote h ?_ ?_ _ _ | refine y_aWithdraw h ?_ ?_ _ | refine y_aRule h ?_ ?_ | refine y_aAppeal h ?_ ?_ _ | refine y_outOfRank h ?_ ?_ ?_ | refine y_tooLong h ?_ ?_ ?_ | refine y_lacks h ?_ ?_ ?_ | refine y_offSub h ?_ ?_ | refine y_aMove h ?_ _ | refine y_aSpan h ?_ _ _ | exact y_isWord _ _ | refine y_aWord h ?_ _ _ _ _ | refine y_aLay h ?_ _ | refine y_aTake h ?_ _ | refine y_aThere h ?_ _ | refine y_aSetting h ?_ _ | refine y_aFloor h ?_ _ | refine y_aDebate h ?_ _ | refine y_aOnFloor h ?_ _ _ _ | refine y_aOnPaper h ?_ _ _ _ _ _ | refine y_aOnMotion h ?_ _ _ _ | refine y_against h ?_ _ _ _ _ _) | split)
theorem kp_pending {S : Cst} {x : Nat} (h : wfS S) (k : iK S x 7) (a b : Int32) : p_Y10_pending S x a b := by
  unfold p_Y10_pending
  simp only [q_Y10_pending_25]
  repeat' (first | with_reducible (first | exact trivial | assumption | exact nB0 | exact nB1 | refine And.intro ?_ ?_ | refine iteI (fun _ => ?_) (fun _ => ?_) | refine ir_k ?_ | refine g0_0 h ?_ | exact g5_1 h (by assumption) | exact g0_1 h (by assumption) | refine g5_1 h (ir_k (g0_2 h ?_)) | refine g0_1 h (ir_k (g7_0 h ?_)) | refine g0_1 h (ir_k (g7_1 h ?_)) | refine g5_1 h ?_ | refine g0_2 h ?_ | refine g0_3 h ?_ | exact g7_4 h (by assumption) | refine g0_4 h ?_ | refine g0_5 h ?_ | refine g0_6 h ?_ | refine g1_1 h ?_ | refine g1_7 h ?_ | refine g2_2 h ?_ | refine g3_12 h ?_ | refine g3_13 h ?_ | refine g4_0 h ?_ | refine g6_0 h ?_ | refine g7_0 h ?_ | refine g7_1 h ?_ | exact ix_lt (by assumption) (by assumption) | exact ix_ge (by assumption) (by assumption) | exact ix_l1 (by assumption) (by assumption) | refine i_at h ?_ (by assumption) | refine i_top h ?_ (by assumption) | refine i_motion h ?_ (by assumption) | refine i_place h ?_ (by assumption) | refine i_first h ?_ (by assumption) | exact rk_ir (by assumption) (by assumption) | refine t_at h ?_ _ | refine t_top h ?_ | refine t_motion h ?_ | refine t_place h ?_ _ | refine t_first h ?_ | refine y_has h ?_ _ | refine y_isThere h ?_ _ | exact y_hasFloor _ _ _ | exact y_hasQuorum _ _ | refine y_voteOf h ?_ _ | refine y_isMajority h ?_ _ _ _ | exact y_isFull _ _ | refine y_ledAt h ?_ _ _ | exact y_mNeeds _ _ | exact y_amends _ _ | refine y_canBeAbout ?_ | refine y_mFact h ?_ _ | refine y_at h ?_ _ | refine y_top h ?_ | exact y_empty _ _ | refine y_motion h ?_ | refine y_wordAt h ?_ _ | refine y_kind h ?_ | refine y_plWord h ?_ _ | refine y_plFact h ?_ _ | exact y_sizeWith _ _ _ _ _ | refine y_placeAt h ?_ _ | refine y_free h ?_ | refine y_first h ?_ | refine y_wordOf h ?_ _ _ | refine y_tally h ?_ ?_ _ | refine y_rank h ?_ | refine y_needs h ?_ | refine y_outcome h ?_ ?_ _ _ | refine y_aAbsent h ?_ _ | refine y_aSecond h ?_ ?_ _ | refine y_aVote h ?_ ?_ _ _ | refine y_aWithdraw h ?_ ?_ _ | refine y_aRule h ?_ ?_ | refine y_aAppeal h ?_ ?_ _ | refine y_outOfRank h ?_ ?_ ?_ | refine y_tooLong h ?_ ?_ ?_ | refine y_lacks h ?_ ?_ ?_ | refine y_offSub h ?_ ?_ | refine y_aMove h ?_ _ | refine y_aSpan h ?_ _ _ | exact y_isWord _ _ | refine y_aWord h ?_ _ _ _ _ | refine y_aLay h ?_ _ | refine y_aTake h ?_ _ | refine y_aThere h ?_ _ | refine y_aSetting h ?_ _ | refine y_aFloor h ?_ _ | refine y_aDebate h ?_ _ | refine y_aOnFloor h ?_ _ _ _ | refine y_aOnPaper h ?_ _ _ _ _ _ | refine y_aOnMotion h ?_ _ _ _ | refine y_against h ?_ _ _ _ _ _) | split)
theorem kp_text {S : Cst} {x : Nat} (h : wfS S) (k : iK S x 7) (a b : Int32) : p_Y10_text S x a b := by
  unfold p_Y10_text
  repeat' (first | with_reducible (first | exact trivial | assumption | exact nB0 | exact nB1 | refine And.intro ?_ ?_ | refine iteI (fun _ => ?_) (fun _ => ?_) | refine ir_k ?_ | refine g0_0 h ?_ | exact g5_1 h (by assumption) | exact g0_1 h (by assumption) | refine g5_1 h (ir_k (g0_2 h ?_)) | refine g0_1 h (ir_k (g7_0 h ?_)) | refine g0_1 h (ir_k (g7_1 h ?_)) | refine g5_1 h ?_ | refine g0_2 h ?_ | refine g0_3 h ?_ | exact g7_4 h (by assumption) | refine g0_4 h ?_ | refine g0_5 h ?_ | refine g0_6 h ?_ | refine g1_1 h ?_ | refine g1_7 h ?_ | refine g2_2 h ?_ | refine g3_12 h ?_ | refine g3_13 h ?_ | refine g4_0 h ?_ | refine g6_0 h ?_ | refine g7_0 h ?_ | refine g7_1 h ?_ | exact ix_lt (by assumption) (by assumption) | exact ix_ge (by assumption) (by assumption) | exact ix_l1 (by assumption) (by assumption) | refine i_at h ?_ (by assumption) | refine i_top h ?_ (by assumption) | refine i_motion h ?_ (by assumption) | refine i_place h ?_ (by assumption) | refine i_first h ?_ (by assumption) | exact rk_ir (by assumption) (by assumption) | refine t_at h ?_ _ | refine t_top h ?_ | refine t_motion h ?_ | refine t_place h ?_ _ | refine t_first h ?_ | refine y_has h ?_ _ | refine y_isThere h ?_ _ | exact y_hasFloor _ _ _ | exact y_hasQuorum _ _ | refine y_voteOf h ?_ _ | refine y_isMajority h ?_ _ _ _ | exact y_isFull _ _ | refine y_ledAt h ?_ _ _ | exact y_mNeeds _ _ | exact y_amends _ _ | refine y_canBeAbout ?_ | refine y_mFact h ?_ _ | refine y_at h ?_ _ | refine y_top h ?_ | exact y_empty _ _ | refine y_motion h ?_ | refine y_wordAt h ?_ _ | refine y_kind h ?_ | refine y_plWord h ?_ _ | refine y_plFact h ?_ _ | exact y_sizeWith _ _ _ _ _ | refine y_placeAt h ?_ _ | refine y_free h ?_ | refine y_first h ?_ | refine y_wordOf h ?_ _ _ | refine y_tally h ?_ ?_ _ | refine y_rank h ?_ | refine y_needs h ?_ | refine y_outcome h ?_ ?_ _ _ | refine y_aAbsent h ?_ _ | refine y_aSecond h ?_ ?_ _ | refine y_aVote h ?_ ?_ _ _ | refine y_aWithdraw h ?_ ?_ _ | refine y_aRule h ?_ ?_ | refine y_aAppeal h ?_ ?_ _ | refine y_outOfRank h ?_ ?_ ?_ | refine y_tooLong h ?_ ?_ ?_ | refine y_lacks h ?_ ?_ ?_ | refine y_offSub h ?_ ?_ | refine y_aMove h ?_ _ | refine y_aSpan h ?_ _ _ | exact y_isWord _ _ | refine y_aWord h ?_ _ _ _ _ | refine y_aLay h ?_ _ | refine y_aTake h ?_ _ | refine y_aThere h ?_ _ | refine y_aSetting h ?_ _ | refine y_aFloor h ?_ _ | refine y_aDebate h ?_ _ | refine y_aOnFloor h ?_ _ _ _ | refine y_aOnPaper h ?_ _ _ _ _ _ | refine y_aOnMotion h ?_ _ _ _ | refine y_against h ?_ _ _ _ _ _) | split)
theorem kp_ballot {S : Cst} {x : Nat} (h : wfS S) (k : iK S x 7) (a : Int32) : p_Y10_ballot S x a := by
  unfold p_Y10_ballot
  simp only [q_Y10_ballot_24]
  repeat' (first | with_reducible (first | exact trivial | assumption | exact nB0 | exact nB1 | refine And.intro ?_ ?_ | refine iteI (fun _ => ?_) (fun _ => ?_) | refine ir_k ?_ | refine g0_0 h ?_ | exact g5_1 h (by assumption) | exact g0_1 h (by assumption) | refine g5_1 h (ir_k (g0_2 h ?_)) | refine g0_1 h (ir_k (g7_0 h ?_)) | refine g0_1 h (ir_k (g7_1 h ?_)) | refine g5_1 h ?_ | refine g0_2 h ?_ | refine g0_3 h ?_ | exact g7_4 h (by assumption) | refine g0_4 h ?_ | refine g0_5 h ?_ | refine g0_6 h ?_ | refine g1_1 h ?_ | refine g1_7 h ?_ | refine g2_2 h ?_ | refine g3_12 h ?_ | refine g3_13 h ?_ | refine g4_0 h ?_ | refine g6_0 h ?_ | refine g7_0 h ?_ | refine g7_1 h ?_ | exact ix_lt (by assumption) (by assumption) | exact ix_ge (by assumption) (by assumption) | exact ix_l1 (by assumption) (by assumption) | refine i_at h ?_ (by assumption) | refine i_top h ?_ (by assumption) | refine i_motion h ?_ (by assumption) | refine i_place h ?_ (by assumption) | refine i_first h ?_ (by assumption) | exact rk_ir (by assumption) (by assumption) | refine t_at h ?_ _ | refine t_top h ?_ | refine t_motion h ?_ | refine t_place h ?_ _ | refine t_first h ?_ | refine y_has h ?_ _ | refine y_isThere h ?_ _ | exact y_hasFloor _ _ _ | exact y_hasQuorum _ _ | refine y_voteOf h ?_ _ | refine y_isMajority h ?_ _ _ _ | exact y_isFull _ _ | refine y_ledAt h ?_ _ _ | exact y_mNeeds _ _ | exact y_amends _ _ | refine y_canBeAbout ?_ | refine y_mFact h ?_ _ | refine y_at h ?_ _ | refine y_top h ?_ | exact y_empty _ _ | refine y_motion h ?_ | refine y_wordAt h ?_ _ | refine y_kind h ?_ | refine y_plWord h ?_ _ | refine y_plFact h ?_ _ | exact y_sizeWith _ _ _ _ _ | refine y_placeAt h ?_ _ | refine y_free h ?_ | refine y_first h ?_ | refine y_wordOf h ?_ _ _ | refine y_tally h ?_ ?_ _ | refine y_rank h ?_ | refine y_needs h ?_ | refine y_outcome h ?_ ?_ _ _ | refine y_aAbsent h ?_ _ | refine y_aSecond h ?_ ?_ _ | refine y_aVote h ?_ ?_ _ _ | refine y_aWithdraw h ?_ ?_ _ | refine y_aRule h ?_ ?_ | refine y_aAppeal h ?_ ?_ _ | refine y_outOfRank h ?_ ?_ ?_ | refine y_tooLong h ?_ ?_ ?_ | refine y_lacks h ?_ ?_ ?_ | refine y_offSub h ?_ ?_ | refine y_aMove h ?_ _ | refine y_aSpan h ?_ _ _ | exact y_isWord _ _ | refine y_aWord h ?_ _ _ _ _ | refine y_aLay h ?_ _ | refine y_aTake h ?_ _ | refine y_aThere h ?_ _ | refine y_aSetting h ?_ _ | refine y_aFloor h ?_ _ | refine y_aDebate h ?_ _ | refine y_aOnFloor h ?_ _ _ _ | refine y_aOnPaper h ?_ _ _ _ _ _ | refine y_aOnMotion h ?_ _ _ _ | refine y_against h ?_ _ _ _ _ _) | split)
theorem kp_desk {S : Cst} {x : Nat} (h : wfS S) (k : iK S x 7) (a b : Int32) : p_Y10_desk S x a b := by
  unfold p_Y10_desk
  simp only [q_Y10_desk_22]
  repeat' (first | with_reducible (first | exact trivial | assumption | exact nB0 | exact nB1 | refine And.intro ?_ ?_ | refine iteI (fun _ => ?_) (fun _ => ?_) | refine ir_k ?_ | refine g0_0 h ?_ | exact g5_1 h (by assumption) | exact g0_1 h (by assumption) | refine g5_1 h (ir_k (g0_2 h ?_)) | refine g0_1 h (ir_k (g7_0 h ?_)) | refine g0_1 h (ir_k (g7_1 h ?_)) | refine g5_1 h ?_ | refine g0_2 h ?_ | refine g0_3 h ?_ | exact g7_4 h (by assumption) | refine g0_4 h ?_ | refine g0_5 h ?_ | refine g0_6 h ?_ | refine g1_1 h ?_ | refine g1_7 h ?_ | refine g2_2 h ?_ | refine g3_12 h ?_ | refine g3_13 h ?_ | refine g4_0 h ?_ | refine g6_0 h ?_ | refine g7_0 h ?_ | refine g7_1 h ?_ | exact ix_lt (by assumption) (by assumption) | exact ix_ge (by assumption) (by assumption) | exact ix_l1 (by assumption) (by assumption) | refine i_at h ?_ (by assumption) | refine i_top h ?_ (by assumption) | refine i_motion h ?_ (by assumption) | refine i_place h ?_ (by assumption) | refine i_first h ?_ (by assumption) | exact rk_ir (by assumption) (by assumption) | refine t_at h ?_ _ | refine t_top h ?_ | refine t_motion h ?_ | refine t_place h ?_ _ | refine t_first h ?_ | refine y_has h ?_ _ | refine y_isThere h ?_ _ | exact y_hasFloor _ _ _ | exact y_hasQuorum _ _ | refine y_voteOf h ?_ _ | refine y_isMajority h ?_ _ _ _ | exact y_isFull _ _ | refine y_ledAt h ?_ _ _ | exact y_mNeeds _ _ | exact y_amends _ _ | refine y_canBeAbout ?_ | refine y_mFact h ?_ _ | refine y_at h ?_ _ | refine y_top h ?_ | exact y_empty _ _ | refine y_motion h ?_ | refine y_wordAt h ?_ _ | refine y_kind h ?_ | refine y_plWord h ?_ _ | refine y_plFact h ?_ _ | exact y_sizeWith _ _ _ _ _ | refine y_placeAt h ?_ _ | refine y_free h ?_ | refine y_first h ?_ | refine y_wordOf h ?_ _ _ | refine y_tally h ?_ ?_ _ | refine y_rank h ?_ | refine y_needs h ?_ | refine y_outcome h ?_ ?_ _ _ | refine y_aAbsent h ?_ _ | refine y_aSecond h ?_ ?_ _ | refine y_aVote h ?_ ?_ _ _ | refine y_aWithdraw h ?_ ?_ _ | refine y_aRule h ?_ ?_ | refine y_aAppeal h ?_ ?_ _ | refine y_outOfRank h ?_ ?_ ?_ | refine y_tooLong h ?_ ?_ ?_ | refine y_lacks h ?_ ?_ ?_ | refine y_offSub h ?_ ?_ | refine y_aMove h ?_ _ | refine y_aSpan h ?_ _ _ | exact y_isWord _ _ | refine y_aWord h ?_ _ _ _ _ | refine y_aLay h ?_ _ | refine y_aTake h ?_ _ | refine y_aThere h ?_ _ | refine y_aSetting h ?_ _ | refine y_aFloor h ?_ _ | refine y_aDebate h ?_ _ | refine y_aOnFloor h ?_ _ _ _ | refine y_aOnPaper h ?_ _ _ _ _ _ | refine y_aOnMotion h ?_ _ _ _ | refine y_against h ?_ _ _ _ _ _) | split)
theorem kp_lying {S : Cst} {x : Nat} (h : wfS S) (k : iK S x 7) (a b : Int32) : p_Y10_lying S x a b := by
  unfold p_Y10_lying
  simp only [q_Y10_lying_22]
  repeat' (first | with_reducible (first | exact trivial | assumption | exact nB0 | exact nB1 | refine And.intro ?_ ?_ | refine iteI (fun _ => ?_) (fun _ => ?_) | refine ir_k ?_ | refine g0_0 h ?_ | exact g5_1 h (by assumption) | exact g0_1 h (by assumption) | refine g5_1 h (ir_k (g0_2 h ?_)) | refine g0_1 h (ir_k (g7_0 h ?_)) | refine g0_1 h (ir_k (g7_1 h ?_)) | refine g5_1 h ?_ | refine g0_2 h ?_ | refine g0_3 h ?_ | exact g7_4 h (by assumption) | refine g0_4 h ?_ | refine g0_5 h ?_ | refine g0_6 h ?_ | refine g1_1 h ?_ | refine g1_7 h ?_ | refine g2_2 h ?_ | refine g3_12 h ?_ | refine g3_13 h ?_ | refine g4_0 h ?_ | refine g6_0 h ?_ | refine g7_0 h ?_ | refine g7_1 h ?_ | exact ix_lt (by assumption) (by assumption) | exact ix_ge (by assumption) (by assumption) | exact ix_l1 (by assumption) (by assumption) | refine i_at h ?_ (by assumption) | refine i_top h ?_ (by assumption) | refine i_motion h ?_ (by assumption) | refine i_place h ?_ (by assumption) | refine i_first h ?_ (by assumption) | exact rk_ir (by assumption) (by assumption) | refine t_at h ?_ _ | refine t_top h ?_ | refine t_motion h ?_ | refine t_place h ?_ _ | refine t_first h ?_ | refine y_has h ?_ _ | refine y_isThere h ?_ _ | exact y_hasFloor _ _ _ | exact y_hasQuorum _ _ | refine y_voteOf h ?_ _ | refine y_isMajority h ?_ _ _ _ | exact y_isFull _ _ | refine y_ledAt h ?_ _ _ | exact y_mNeeds _ _ | exact y_amends _ _ | refine y_canBeAbout ?_ | refine y_mFact h ?_ _ | refine y_at h ?_ _ | refine y_top h ?_ | exact y_empty _ _ | refine y_motion h ?_ | refine y_wordAt h ?_ _ | refine y_kind h ?_ | refine y_plWord h ?_ _ | refine y_plFact h ?_ _ | exact y_sizeWith _ _ _ _ _ | refine y_placeAt h ?_ _ | refine y_free h ?_ | refine y_first h ?_ | refine y_wordOf h ?_ _ _ | refine y_tally h ?_ ?_ _ | refine y_rank h ?_ | refine y_needs h ?_ | refine y_outcome h ?_ ?_ _ _ | refine y_aAbsent h ?_ _ | refine y_aSecond h ?_ ?_ _ | refine y_aVote h ?_ ?_ _ _ | refine y_aWithdraw h ?_ ?_ _ | refine y_aRule h ?_ ?_ | refine y_aAppeal h ?_ ?_ _ | refine y_outOfRank h ?_ ?_ ?_ | refine y_tooLong h ?_ ?_ ?_ | refine y_lacks h ?_ ?_ ?_ | refine y_offSub h ?_ ?_ | refine y_aMove h ?_ _ | refine y_aSpan h ?_ _ _ | exact y_isWord _ _ | refine y_aWord h ?_ _ _ _ _ | refine y_aLay h ?_ _ | refine y_aTake h ?_ _ | refine y_aThere h ?_ _ | refine y_aSetting h ?_ _ | refine y_aFloor h ?_ _ | refine y_aDebate h ?_ _ | refine y_aOnFloor h ?_ _ _ _ | refine y_aOnPaper h ?_ _ _ _ _ _ | refine y_aOnMotion h ?_ _ _ _ | refine y_against h ?_ _ _ _ _ _) | split)
theorem kp_result {S : Cst} {x : Nat} (h : wfS S) (k : iK S x 7) (a b : Int32) : p_Y10_result S x a b := by
  unfold p_Y10_result
  repeat' (first | with_reducible (first | exact trivial | assumption | exact nB0 | exact nB1 | refine And.intro ?_ ?_ | refine iteI (fun _ => ?_) (fun _ => ?_) | refine ir_k ?_ | refine g0_0 h ?_ | exact g5_1 h (by assumption) | exact g0_1 h (by assumption) | refine g5_1 h (ir_k (g0_2 h ?_)) | refine g0_1 h (ir_k (g7_0 h ?_)) | refine g0_1 h (ir_k (g7_1 h ?_)) | refine g5_1 h ?_ | refine g0_2 h ?_ | refine g0_3 h ?_ | exact g7_4 h (by assumption) | refine g0_4 h ?_ | refine g0_5 h ?_ | refine g0_6 h ?_ | refine g1_1 h ?_ | refine g1_7 h ?_ | refine g2_2 h ?_ | refine g3_12 h ?_ | refine g3_13 h ?_ | refine g4_0 h ?_ | refine g6_0 h ?_ | refine g7_0 h ?_ | refine g7_1 h ?_ | exact ix_lt (by assumption) (by assumption) | exact ix_ge (by assumption) (by assumption) | exact ix_l1 (by assumption) (by assumption) | refine i_at h ?_ (by assumption) | refine i_top h ?_ (by assumption) | refine i_motion h ?_ (by assumption) | refine i_place h ?_ (by assumption) | refine i_first h ?_ (by assumption) | exact rk_ir (by assumption) (by assumption) | refine t_at h ?_ _ | refine t_top h ?_ | refine t_motion h ?_ | refine t_place h ?_ _ | refine t_first h ?_ | refine y_has h ?_ _ | refine y_isThere h ?_ _ | exact y_hasFloor _ _ _ | exact y_hasQuorum _ _ | refine y_voteOf h ?_ _ | refine y_isMajority h ?_ _ _ _ | exact y_isFull _ _ | refine y_ledAt h ?_ _ _ | exact y_mNeeds _ _ | exact y_amends _ _ | refine y_canBeAbout ?_ | refine y_mFact h ?_ _ | refine y_at h ?_ _ | refine y_top h ?_ | exact y_empty _ _ | refine y_motion h ?_ | refine y_wordAt h ?_ _ | refine y_kind h ?_ | refine y_plWord h ?_ _ | refine y_plFact h ?_ _ | exact y_sizeWith _ _ _ _ _ | refine y_placeAt h ?_ _ | refine y_free h ?_ | refine y_first h ?_ | refine y_wordOf h ?_ _ _ | refine y_tally h ?_ ?_ _ | refine y_rank h ?_ | refine y_needs h ?_ | refine y_outcome h ?_ ?_ _ _ | refine y_aAbsent h ?_ _ | refine y_aSecond h ?_ ?_ _ | refine y_aVote h ?_ ?_ _ _ | refine y_aWithdraw h ?_ ?_ _ | refine y_aRule h ?_ ?_ | refine y_aAppeal h ?_ ?_ _ | refine y_outOfRank h ?_ ?_ ?_ | refine y_tooLong h ?_ ?_ ?_ | refine y_lacks h ?_ ?_ ?_ | refine y_offSub h ?_ ?_ | refine y_aMove h ?_ _ | refine y_aSpan h ?_ _ _ | exact y_isWord _ _ | refine y_aWord h ?_ _ _ _ _ | refine y_aLay h ?_ _ | refine y_aTake h ?_ _ | refine y_aThere h ?_ _ | refine y_aSetting h ?_ _ | refine y_aFloor h ?_ _ | refine y_aDebate h ?_ _ | refine y_aOnFloor h ?_ _ _ _ | refine y_aOnPaper h ?_ _ _ _ _ _ | refine y_aOnMotion h ?_ _ _ _ | refine y_against h ?_ _ _ _ _ _) | split)
theorem kp_count {S : Cst} {x : Nat} (h : wfS S) (k : iK S x 7) (a : Int32) : p_Y10_count S x a := by
  unfold p_Y10_count
  simp only [q_Y10_count_202]
  repeat' (first | with_reducible (first | exact trivial | assumption | exact nB0 | exact nB1 | refine And.intro ?_ ?_ | refine iteI (fun _ => ?_) (fun _ => ?_) | refine ir_k ?_ | refine g0_0 h ?_ | exact g5_1 h (by assumption) | exact g0_1 h (by assumption) | refine g5_1 h (ir_k (g0_2 h ?_)) | refine g0_1 h (ir_k (g7_0 h ?_)) | refine g0_1 h (ir_k (g7_1 h ?_)) | refine g5_1 h ?_ | refine g0_2 h ?_ | refine g0_3 h ?_ | exact g7_4 h (by assumption) | refine g0_4 h ?_ | refine g0_5 h ?_ | refine g0_6 h ?_ | refine g1_1 h ?_ | refine g1_7 h ?_ | refine g2_2 h ?_ | refine g3_12 h ?_ | refine g3_13 h ?_ | refine g4_0 h ?_ | refine g6_0 h ?_ | refine g7_0 h ?_ | refine g7_1 h ?_ | exact ix_lt (by assumption) (by assumption) | exact ix_ge (by assumption) (by assumption) | exact ix_l1 (by assumption) (by assumption) | refine i_at h ?_ (by assumption) | refine i_top h ?_ (by assumption) | refine i_motion h ?_ (by assumption) | refine i_place h ?_ (by assumption) | refine i_first h ?_ (by assumption) | exact rk_ir (by assumption) (by assumption) | refine t_at h ?_ _ | refine t_top h ?_ | refine t_motion h ?_ | refine t_place h ?_ _ | refine t_first h ?_ | refine y_has h ?_ _ | refine y_isThere h ?_ _ | exact y_hasFloor _ _ _ | exact y_hasQuorum _ _ | refine y_voteOf h ?_ _ | refine y_isMajority h ?_ _ _ _ | exact y_isFull _ _ | refine y_ledAt h ?_ _ _ | exact y_mNeeds _ _ | exact y_amends _ _ | refine y_canBeAbout ?_ | refine y_mFact h ?_ _ | refine y_at h ?_ _ | refine y_top h ?_ | exact y_empty _ _ | refine y_motion h ?_ | refine y_wordAt h ?_ _ | refine y_kind h ?_ | refine y_plWord h ?_ _ | refine y_plFact h ?_ _ | exact y_sizeWith _ _ _ _ _ | refine y_placeAt h ?_ _ | refine y_free h ?_ | refine y_first h ?_ | refine y_wordOf h ?_ _ _ | refine y_tally h ?_ ?_ _ | refine y_rank h ?_ | refine y_needs h ?_ | refine y_outcome h ?_ ?_ _ _ | refine y_aAbsent h ?_ _ | refine y_aSecond h ?_ ?_ _ | refine y_aVote h ?_ ?_ _ _ | refine y_aWithdraw h ?_ ?_ _ | refine y_aRule h ?_ ?_ | refine y_aAppeal h ?_ ?_ _ | refine y_outOfRank h ?_ ?_ ?_ | refine y_tooLong h ?_ ?_ ?_ | refine y_lacks h ?_ ?_ ?_ | refine y_offSub h ?_ ?_ | refine y_aMove h ?_ _ | refine y_aSpan h ?_ _ _ | exact y_isWord _ _ | refine y_aWord h ?_ _ _ _ _ | refine y_aLay h ?_ _ | refine y_aTake h ?_ _ | refine y_aThere h ?_ _ | refine y_aSetting h ?_ _ | refine y_aFloor h ?_ _ | refine y_aDebate h ?_ _ | refine y_aOnFloor h ?_ _ _ _ | refine y_aOnPaper h ?_ _ _ _ _ _ | refine y_aOnMotion h ?_ _ _ _ | refine y_against h ?_ _ _ _ _ _) | split)
theorem kp_seat {S : Cst} {x : Nat} (h : wfS S) (k : iK S x 7) (a : Int32) : p_Y10_seat S x a := by
  unfold p_Y10_seat
  simp only [q_Y10_seat_35]
  repeat' (first | with_reducible (first | exact trivial | assumption | exact nB0 | exact nB1 | refine And.intro ?_ ?_ | refine iteI (fun _ => ?_) (fun _ => ?_) | refine ir_k ?_ | refine g0_0 h ?_ | exact g5_1 h (by assumption) | exact g0_1 h (by assumption) | refine g5_1 h (ir_k (g0_2 h ?_)) | refine g0_1 h (ir_k (g7_0 h ?_)) | refine g0_1 h (ir_k (g7_1 h ?_)) | refine g5_1 h ?_ | refine g0_2 h ?_ | refine g0_3 h ?_ | exact g7_4 h (by assumption) | refine g0_4 h ?_ | refine g0_5 h ?_ | refine g0_6 h ?_ | refine g1_1 h ?_ | refine g1_7 h ?_ | refine g2_2 h ?_ | refine g3_12 h ?_ | refine g3_13 h ?_ | refine g4_0 h ?_ | refine g6_0 h ?_ | refine g7_0 h ?_ | refine g7_1 h ?_ | exact ix_lt (by assumption) (by assumption) | exact ix_ge (by assumption) (by assumption) | exact ix_l1 (by assumption) (by assumption) | refine i_at h ?_ (by assumption) | refine i_top h ?_ (by assumption) | refine i_motion h ?_ (by assumption) | refine i_place h ?_ (by assumption) | refine i_first h ?_ (by assumption) | exact rk_ir (by assumption) (by assumption) | refine t_at h ?_ _ | refine t_top h ?_ | refine t_motion h ?_ | refine t_place h ?_ _ | refine t_first h ?_ | refine y_has h ?_ _ | refine y_isThere h ?_ _ | exact y_hasFloor _ _ _ | exact y_hasQuorum _ _ | refine y_voteOf h ?_ _ | refine y_isMajority h ?_ _ _ _ | exact y_isFull _ _ | refine y_ledAt h ?_ _ _ | exact y_mNeeds _ _ | exact y_amends _ _ | refine y_canBeAbout ?_ | refine y_mFact h ?_ _ | refine y_at h ?_ _ | refine y_top h ?_ | exact y_empty _ _ | refine y_motion h ?_ | refine y_wordAt h ?_ _ | refine y_kind h ?_ | refine y_plWord h ?_ _ | refine y_plFact h ?_ _ | exact y_sizeWith _ _ _ _ _ | refine y_placeAt h ?_ _ | refine y_free h ?_ | refine y_first h ?_ | refine y_wordOf h ?_ _ _ | refine y_tally h ?_ ?_ _ | refine y_rank h ?_ | refine y_needs h ?_ | refine y_outcome h ?_ ?_ _ _ | refine y_aAbsent h ?_ _ | refine y_aSecond h ?_ ?_ _ | refine y_aVote h ?_ ?_ _ _ | refine y_aWithdraw h ?_ ?_ _ | refine y_aRule h ?_ ?_ | refine y_aAppeal h ?_ ?_ _ | refine y_outOfRank h ?_ ?_ ?_ | refine y_tooLong h ?_ ?_ ?_ | refine y_lacks h ?_ ?_ ?_ | refine y_offSub h ?_ ?_ | refine y_aMove h ?_ _ | refine y_aSpan h ?_ _ _ | exact y_isWord _ _ | refine y_aWord h ?_ _ _ _ _ | refine y_aLay h ?_ _ | refine y_aTake h ?_ _ | refine y_aThere h ?_ _ | refine y_aSetting h ?_ _ | refine y_aFloor h ?_ _ | refine y_aDebate h ?_ _ | refine y_aOnFloor h ?_ _ _ _ | refine y_aOnPaper h ?_ _ _ _ _ _ | refine y_aOnMotion h ?_ _ _ _ | refine y_against h ?_ _ _ _ _ _) | split)
theorem kp_journal {S : Cst} {x : Nat} (h : wfS S) (k : iK S x 7) (a b : Int32) : p_Y10_journal S x a b := by
  unfold p_Y10_journal
  simp only [q_Y10_journal_21]
  repeat' (first | with_reducible (first | exact trivial | assumption | exact nB0 | exact nB1 | refine And.intro ?_ ?_ | refine iteI (fun _ => ?_) (fun _ => ?_) | refine ir_k ?_ | refine g0_0 h ?_ | exact g5_1 h (by assumption) | exact g0_1 h (by assumption) | refine g5_1 h (ir_k (g0_2 h ?_)) | refine g0_1 h (ir_k (g7_0 h ?_)) | refine g0_1 h (ir_k (g7_1 h ?_)) | refine g5_1 h ?_ | refine g0_2 h ?_ | refine g0_3 h ?_ | exact g7_4 h (by assumption) | refine g0_4 h ?_ | refine g0_5 h ?_ | refine g0_6 h ?_ | refine g1_1 h ?_ | refine g1_7 h ?_ | refine g2_2 h ?_ | refine g3_12 h ?_ | refine g3_13 h ?_ | refine g4_0 h ?_ | refine g6_0 h ?_ | refine g7_0 h ?_ | refine g7_1 h ?_ | exact ix_lt (by assumption) (by assumption) | exact ix_ge (by assumption) (by assumption) | exact ix_l1 (by assumption) (by assumption) | refine i_at h ?_ (by assumption) | refine i_top h ?_ (by assumption) | refine i_motion h ?_ (by assumption) | refine i_place h ?_ (by assumption) | refine i_first h ?_ (by assumption) | exact rk_ir (by assumption) (by assumption) | refine t_at h ?_ _ | refine t_top h ?_ | refine t_motion h ?_ | refine t_place h ?_ _ | refine t_first h ?_ | refine y_has h ?_ _ | refine y_isThere h ?_ _ | exact y_hasFloor _ _ _ | exact y_hasQuorum _ _ | refine y_voteOf h ?_ _ | refine y_isMajority h ?_ _ _ _ | exact y_isFull _ _ | refine y_ledAt h ?_ _ _ | exact y_mNeeds _ _ | exact y_amends _ _ | refine y_canBeAbout ?_ | refine y_mFact h ?_ _ | refine y_at h ?_ _ | refine y_top h ?_ | exact y_empty _ _ | refine y_motion h ?_ | refine y_wordAt h ?_ _ | refine y_kind h ?_ | refine y_plWord h ?_ _ | refine y_plFact h ?_ _ | exact y_sizeWith _ _ _ _ _ | refine y_placeAt h ?_ _ | refine y_free h ?_ | refine y_first h ?_ | refine y_wordOf h ?_ _ _ | refine y_tally h ?_ ?_ _ | refine y_rank h ?_ | refine y_needs h ?_ | refine y_outcome h ?_ ?_ _ _ | refine y_aAbsent h ?_ _ | refine y_aSecond h ?_ ?_ _ | refine y_aVote h ?_ ?_ _ _ | refine y_aWithdraw h ?_ ?_ _ | refine y_aRule h ?_ ?_ | refine y_aAppeal h ?_ ?_ _ | refine y_outOfRank h ?_ ?_ ?_ | refine y_tooLong h ?_ ?_ ?_ | refine y_lacks h ?_ ?_ ?_ | refine y_offSub h ?_ ?_ | refine y_aMove h ?_ _ | refine y_aSpan h ?_ _ _ | exact y_isWord _ _ | refine y_aWord h ?_ _ _ _ _ | refine y_aLay h ?_ _ | refine y_aTake h ?_ _ | refine y_aThere h ?_ _ | refine y_aSetting h ?_ _ | refine y_aFloor h ?_ _ | refine y_aDebate h ?_ _ | refine y_aOnFloor h ?_ _ _ _ | refine y_aOnPaper h ?_ _ _ _ _ _ | refine y_aOnMotion h ?_ _ _ _ | refine y_against h ?_ _ _ _ _ _) | split)
end
section
/-! ===== seats, order, before, again, check, tell, strike, image, back ===== -/
section
variable {m a b l x : Nat} {r2 r3 : Option Nat} {A A' : List Nat} {S S1 S2 S3 : Cst} {T T1 T2 : Nat → List Nat} {col c1 c2 : Nat → Nat}
theorem bm.tA {p : Prop} {f : Int32 × Cst} (h : bm x S T col c1 S1 p f) : am x S T col S1 (fun _ _ => p) f := by
  obtain ⟨hp, v, S3, T3, e, as, en⟩ := h
  exact ⟨v, S3, T3, c1, e, fun _ _ _ _ => hp, as, en⟩
theorem e2' : (200 : Int32).toInt = 200 := by decide
theorem k_seats (h : KI S m) (n : Int32) : kR S m (fun _ _ => p_Y10_seats S m n) (f_Y10_seats S m n) := by
  obtain ⟨a, b, r2, r3, l, T, col, h⟩ := h
  unfold p_Y10_seats f_Y10_seats q_Y10_seats_12 b_Y10_seats_12 q_Y10_seats_23a b_Y10_seats_23a
  rw [h.g0]
  simp only [Option.getD_some, ir_so]
  by_cases c1 : n < 1
  · simp only [if_pos c1]
    exact ⟨_, S, rfl, fun _ _ _ _ => trivial, KJ.i h, eM.rf m S⟩
  · simp only [if_neg c1]
    by_cases c2 : n ≤ 200
    · simp only [if_pos c2]
      have c1 := mt iLt.mpr c1
      have c2 := iLe.mp c2
      rw [i1] at c1
      rw [e2'] at c2
      obtain ⟨v, S2, e, p, k, g⟩ := KJ.kr h (KJ.ma h) (y_abegin (h.as (KJ.ma h)).1 (n := n) ⟨by omega, by omega⟩).tA
      rw [e]
      exact ⟨n, S2, rfl, fun lc ls A B => ⟨KJ.ka h, p lc ls A B, trivial⟩, k, g⟩
    · simp only [if_neg c2]
      exact ⟨_, S, rfl, fun _ _ _ _ => trivial, KJ.i h, eM.rf m S⟩
theorem k_order (h : KI S m) (s : Int32) : kR S m (fun _ _ => p_Y10_order S m s) (f_Y10_order S m s) := by
  obtain ⟨a, b, r2, r3, l, T, col, h⟩ := h
  have pg := y_against h.ci.wf (KJ.ka h) 15 s 0 0 0
  unfold p_Y10_order f_Y10_order q_Y10_order_17a b_Y10_order_17a q_Y10_order_35 b_Y10_order_35
  rw [h.g0]
  simp only [Option.getD_some, ir_so]
  have u := (QU.rf (h.as (KJ.ma h)).1).aI 9 (f_Y8_against S a 15 s 0 0 0)
  have k2 : KJ m a b r2 r3 l (siC S a 9 (f_Y8_against S a 15 s 0 0 0)) T col := h.step (KJ.ma h) u.1 ((h.as (KJ.ma h)).2.kp h.ci (KJ.ka h) u.2.1 (fun _ _ _ => rfl))
  simp only [k2.g0, Option.getD_some, ir_so]
  split
  · exact ⟨1, _, rfl, fun _ _ _ _ => ⟨KJ.ka h, pg, KJ.ka h, KJ.ka k2, trivial⟩, KJ.i k2, h.r6s (KJ.ma h) u.1 u.2.2.n⟩
  · exact ⟨0, _, rfl, fun _ _ _ _ => ⟨KJ.ka h, pg, KJ.ka h, KJ.ka k2, trivial⟩, KJ.i k2, h.r6s (KJ.ma h) u.1 u.2.2.n⟩
theorem before_lp (e mm i : Int32) : ∀ (n : Nat) (Sk : Cst) (Tk : Nat → List Nat) (ck : Nat → Nat) (k : Int32), KJ m a b r2 r3 l Sk Tk ck → 0 ≤ k.toInt → k.toInt ≤ e.toInt → e.toInt ≤ 600 → e.toInt - k.toInt < n → kR Sk m (fun lc ls => lq_Y10_before_49 m lc ls n Sk e mm i (some (a + 7)) k) (lp_Y10_before_49 m n Sk e mm i (some (a + 7)) k) := by
  intro n
  induction n with
  | zero => intro Sk Tk ck k h h1 h2 h3 h4; omega
  | succ n ih =>
    intro Sk Tk ck k h h1 h2 h3 h4
    have wa := h.ci.wf.w0 (KJ.ka h)
    have k7 := wa.1.2.2.2.2.1
    rw [lp_Y10_before_49]
    simp only [lq_Y10_before_49]
    unfold ps_Y10_before_49 st_Y10_before_49
    rw [h.g1]
    simp only [Option.getD_some, ir_so]
    by_cases c : e ≤ k
    · simp only [if_pos c]
      exact ⟨_, Sk, rfl, fun _ _ _ _ => ⟨⟨KJ.kb h, y_wordOf h.ci.wf (KJ.kb h) mm i, trivial⟩, trivial⟩, KJ.i h, eM.rf m Sk⟩
    · simp only [if_neg c]
      have c := mt iLe.mpr c
      have pa := fun j => y_ledAt h.ci.wf k7 k j
      obtain ⟨v, S2, T2, c2, f, p, k2, en⟩ := h.ham (KJ.mb h) (y_enact (h.as (KJ.mb h)) (f_Y3_at Sk (a + 7) k 0) (f_Y3_at Sk (a + 7) k 1) (f_Y3_at Sk (a + 7) k 2) (f_Y3_at Sk (a + 7) k 3) (f_Y3_at Sk (a + 7) k 4))
      rw [f]
      have e1 := iAdd (x := k) (y := 1) (by rw [i1]; omega) (by rw [i1]; omega)
      rw [i1] at e1
      obtain ⟨v3, S3, f3, p3, k3, en3⟩ := ih S2 T2 c2 (k + 1) k2 (by omega) (by omega) h3 (by omega)
      unfold b_Y10_before_102a q_Y10_before_102a
      exact ⟨v3, S3, f3, fun lc ls A B => ⟨⟨k7, pa 0, k7, pa 1, k7, pa 2, k7, pa 3, k7, pa 4, KJ.kb h, ⟨⟨en.1.1, Nat.le_trans en3.1.1 A⟩, en.1.2, Nat.le_trans en3.1.2 B⟩, p _ _ (Nat.le_refl _) (Nat.le_refl _), fun z y => by cases y; exact k7.1, trivial⟩, p3 lc ls A B⟩, k3, en.tr en3⟩
/-- the other assembly begun, with as many seats -/
theorem k_trial (h : KJ m a b r2 r3 l S T col) : p_Y0_begin S b (giC S (a + 37) 0) ∧ ∃ v S2 T2 c2, f_Y0_begin S b (giC S (a + 37) 0) = (v, S2) ∧ KJ m a b r2 r3 l S2 T2 c2 ∧ eM m S S2 := by
  have w1 := h.ci.wf.w1 (h.ci.wf.w0 (KJ.ka h)).1.1
  obtain ⟨hp, v, S3, T3, e, as, en⟩ := y_abegin (h.as (KJ.mb h)).1 (n := giC S (a + 37) 0) w1.2.2
  exact ⟨hp, v, S3, T3, col, e, h.step (KJ.mb h) as.1 as.2, h.r6s (KJ.mb h) as.1 en⟩
theorem k_before (h : KI S m) (e mm i : Int32) : kR S m (fun lc ls => p_Y10_before S m lc ls e mm i) (f_Y10_before S m e mm i) := by
  obtain ⟨a, b, r2, r3, l, T, col, h⟩ := h
  have wa := h.ci.wf.w0 (KJ.ka h)
  have w7 := (h.ci.wf.w2 wa.1.2.2.2.2.1).1.2.2
  unfold rg at w7
  unfold p_Y10_before f_Y10_before q_Y10_before_18 b_Y10_before_18 q_Y10_before_46a b_Y10_before_46a
  rw [h.g0, h.g1]
  simp only [Option.getD_some, ir_so]
  rw [wa.2.1.1, wa.2.1.2.2.2.2.1]
  simp only [Option.getD_some, ir_so]
  by_cases c1 : e < 0
  · simp only [if_pos c1]
    exact ⟨_, S, rfl, fun _ _ _ _ => trivial, KJ.i h, eM.rf m S⟩
  · simp only [if_neg c1]
    by_cases c2 : e ≤ giC S (a + 7) 3
    · simp only [if_pos c2]
      have c1 := mt iLt.mpr c1
      have c2 := iLe.mp c2
      rw [i0] at c1
      obtain ⟨p1, v, S2, T2, c2', f, k2, en⟩ := k_trial h
      rw [f]
      obtain ⟨v3, S3, f3, p3, k3, en3⟩ := before_lp e mm i 100000 S2 T2 c2' 0 k2 (by rw [i0]; omega) (by rw [i0]; omega) (by omega) (by rw [i0]; omega)
      exact ⟨v3, S3, f3, fun lc ls A B => ⟨KJ.ka h, wa.1.2.2.2.2.1, KJ.ka h, KJ.ka h, wa.1.1, KJ.kb h, p1, p3 lc ls A B⟩, k3, en.tr en3⟩
    · simp only [if_neg c2]
      exact ⟨_, S, rfl, fun _ _ _ _ => ⟨KJ.ka h, wa.1.2.2.2.2.1, trivial⟩, KJ.i h, eM.rf m S⟩
theorem again_lp : ∀ (n : Nat) (Sk : Cst) (Tk : Nat → List Nat) (ck : Nat → Nat) (k : Int32), KJ m a b r2 r3 l Sk Tk ck → 0 ≤ k.toInt → k.toInt ≤ 600 → 600 - k.toInt < n → kR Sk m (fun lc ls => lq_Y10_again_27 m lc ls n Sk (some (a + 7)) k) (lp_Y10_again_27 m n Sk (some (a + 7)) k) := by
  intro n
  induction n with
  | zero => intro Sk Tk ck k h h1 h2 h3; omega
  | succ n ih =>
    intro Sk Tk ck k h h1 h2 h3
    have wa := h.ci.wf.w0 (KJ.ka h)
    have k7 := wa.1.2.2.2.2.1
    have w7 := (h.ci.wf.w2 k7).1.2.2
    unfold rg at w7
    rw [lp_Y10_again_27]
    simp only [lq_Y10_again_27]
    unfold ps_Y10_again_27 st_Y10_again_27
    rw [h.g1]
    simp only [Option.getD_some, ir_so]
    by_cases c : giC Sk (a + 7) 3 ≤ k
    · simp only [if_pos c]
      exact ⟨_, Sk, rfl, fun _ _ _ _ => ⟨⟨k7, trivial⟩, trivial⟩, KJ.i h, eM.rf m Sk⟩
    · simp only [if_neg c]
      have c := mt iLe.mpr c
      have pa := fun j => y_ledAt h.ci.wf k7 k j
      obtain ⟨v, S2, T2, c2, f, p, k2, en⟩ := h.ham (KJ.mb h) (y_enact (h.as (KJ.mb h)) (f_Y3_at Sk (a + 7) k 0) (f_Y3_at Sk (a + 7) k 1) (f_Y3_at Sk (a + 7) k 2) (f_Y3_at Sk (a + 7) k 3) (f_Y3_at Sk (a + 7) k 4))
      rw [f]
      have wb := k2.ci.wf.w0 (KJ.kb k2)
      have wa2 := k2.ci.wf.w0 (KJ.ka k2)
      have k72 := wa2.1.2.2.2.2.1
      have pa2 := fun j => y_ledAt k2.ci.wf k72 k j
      have e1 := iAdd (x := k) (y := 1) (by rw [i1]; omega) (by rw [i1]; omega)
      rw [i1] at e1
      unfold b_Y10_again_72a q_Y10_again_72a b_Y10_again_103 q_Y10_again_103
      simp only
      simp only [k2.g1, Option.getD_some, ir_so, wb.2.1.2.1]
      by_cases d : v = f_Y3_at S2 (a + 7) k 5
      · simp only [if_pos d]
        by_cases d2 : giC S2 (b + 1) 1 = f_Y3_at S2 (a + 7) k 6
        · simp only [if_pos d2]
          obtain ⟨v3, S3, f3, p3, k3, en3⟩ := ih S2 T2 c2 (k + 1) k2 (by omega) (by omega) (by omega)
          exact ⟨v3, S3, f3, fun lc ls A B => ⟨⟨k7, k7, pa 0, k7, pa 1, k7, pa 2, k7, pa 3, k7, pa 4, KJ.kb h, ⟨⟨en.1.1, Nat.le_trans en3.1.1 A⟩, en.1.2, Nat.le_trans en3.1.2 B⟩, p _ _ (Nat.le_refl _) (Nat.le_refl _), fun z y => by cases y; exact k7.1, k72, pa2 5, KJ.kb k2, wb.1.2.1, k72, pa2 6, trivial⟩, p3 lc ls A B⟩, k3, en.tr en3⟩
        · simp only [if_neg d2]
          exact ⟨k, S2, rfl, fun lc ls A B => ⟨⟨k7, k7, pa 0, k7, pa 1, k7, pa 2, k7, pa 3, k7, pa 4, KJ.kb h, ⟨⟨en.1.1, A⟩, en.1.2, B⟩, p _ _ (Nat.le_refl _) (Nat.le_refl _), fun z y => by cases y; exact k7.1, k72, pa2 5, KJ.kb k2, wb.1.2.1, k72, pa2 6, trivial⟩, trivial⟩, KJ.i k2, en⟩
      · simp only [if_neg d]
        exact ⟨k, S2, rfl, fun lc ls A B => ⟨⟨k7, k7, pa 0, k7, pa 1, k7, pa 2, k7, pa 3, k7, pa 4, KJ.kb h, ⟨⟨en.1.1, A⟩, en.1.2, B⟩, p _ _ (Nat.le_refl _) (Nat.le_refl _), fun z y => by cases y; exact k7.1, k72, pa2 5, trivial⟩, trivial⟩, KJ.i k2, en⟩
theorem k_again (h : KI S m) : kR S m (fun lc ls => p_Y10_again S m lc ls) (f_Y10_again S m) := by
  obtain ⟨a, b, r2, r3, l, T, col, h⟩ := h
  have wa := h.ci.wf.w0 (KJ.ka h)
  unfold p_Y10_again f_Y10_again q_Y10_again_25a b_Y10_again_25a
  rw [h.g0, h.g1]
  simp only [Option.getD_some, ir_so]
  rw [wa.2.1.1, wa.2.1.2.2.2.2.1]
  simp only [Option.getD_some, ir_so]
  obtain ⟨p1, v, S2, T2, c2', f, k2, en⟩ := k_trial h
  rw [f]
  obtain ⟨v3, S3, f3, p3, k3, en3⟩ := again_lp 100000 S2 T2 c2' 0 k2 (by rw [i0]; omega) (by rw [i0]; omega) (by rw [i0]; omega)
  exact ⟨v3, S3, f3, fun lc ls A B => ⟨KJ.ka h, KJ.ka h, wa.1.1, KJ.kb h, p1, p3 lc ls A B⟩, k3, en.tr en3⟩
theorem tab_b (j : Nat) : 0 ≤ (tabN j).toInt ∧ (tabN j).toInt ≤ 4 := by
  by_cases c : j < 23
  · have : ∀ i : Fin 23, 0 ≤ (tabN i.val).toInt ∧ (tabN i.val).toInt ≤ 4 := by decide
    exact this ⟨j, c⟩
  · have e : tabN j = 0 := by
      unfold tabN
      rw [List.getD_eq_getElem?_getD, List.getElem?_eq_none (by simp; omega)]
      rfl
    rw [e]
    decide
theorem e5 : (5 : Int32).toInt = 5 := by decide
theorem cb_lq (wf : wfS S) (km : iK S m 7) (i j : Int32) : ∀ (n : Nat) (k : Int32), 0 ≤ k.toInt → k.toInt ≤ 5 → 5 - k.toInt < n → lq_Y10_canBeDone_33 S m n i j k := by
  intro n
  induction n with
  | zero => intro k h1 h2 h3; omega
  | succ n ih =>
    intro k h1 h2 h3
    rw [lq_Y10_canBeDone_33]
    unfold ps_Y10_canBeDone_33 st_Y10_canBeDone_33
    by_cases c : 5 ≤ k
    · simp only [if_pos c]
      exact ⟨trivial, trivial⟩
    · simp only [if_neg c]
      have c := mt iLe.mpr c
      rw [e5] at c
      have e1 := iAdd (x := k) (y := 1) (by rw [i1]; omega) (by rw [i1]; omega)
      rw [i1] at e1
      have kl := g7_4 wf km
      refine ⟨⟨kl, y_ledAt wf (ir_k kl) i k, by split <;> trivial⟩, ?_⟩
      by_cases d : f_Y3_at S ((grC S m 4).getD 0) i k = 0
      · simp only [if_pos d]
        exact ih (k + 1) (by omega) (by omega) (by omega)
      · simp only [if_neg d]
theorem y_canBeDone (wf : wfS S) (km : iK S m 7) (i : Int32) : p_Y10_canBeDone S m i := by
  have kl := g7_4 wf km
  have e23 : (23 : Int32).toInt = 23 := by decide
  unfold p_Y10_canBeDone q_Y10_canBeDone_23
  refine ⟨kl, y_ledAt wf (ir_k kl) i 0, iteI (fun _ => trivial) (fun c1 => iteI (fun c2 => ?_) (fun _ => trivial))⟩
  generalize f_Y3_at S ((grC S m 4).getD 0) i 0 = v at c1 c2 ⊢
  have c1 := mt iLt.mpr c1
  have c2 := iLt.mp c2
  rw [i1] at c1
  rw [e23] at c2
  have tb := tab_b v.toNatClampNeg
  have e1 := iAdd (x := tabN v.toNatClampNeg) (y := 1) (by rw [i1]; omega) (by rw [i1]; omega)
  rw [i1] at e1
  exact ⟨vIn (by omega) (by omega), cb_lq wf km i v 100000 _ (by omega) (by omega) (by omega)⟩
theorem check_lp : ∀ (n : Nat) (Sk : Cst) (Tk : Nat → List Nat) (ck : Nat → Nat) (k : Int32), KJ m a b r2 r3 l Sk Tk ck → 0 ≤ k.toInt → k.toInt ≤ 600 → 600 - k.toInt < n → kR Sk m (fun lc ls => lq_Y10_check_19 m lc ls n Sk k) (lp_Y10_check_19 m n Sk k) := by
  intro n
  induction n with
  | zero => intro Sk Tk ck k h h1 h2 h3; omega
  | succ n ih =>
    intro Sk Tk ck k h h1 h2 h3
    have kl := h.kl
    have wl := (h.ci.wf.w2 kl).1.2.2
    unfold rg at wl
    have pd := y_canBeDone h.ci.wf h.km k
    rw [lp_Y10_check_19]
    simp only [lq_Y10_check_19]
    unfold ps_Y10_check_19 st_Y10_check_19 b_Y10_check_52 q_Y10_check_52
    rw [h.g1, h.g4]
    simp only [Option.getD_some, ir_so]
    by_cases c : giC Sk l 3 ≤ k
    · simp only [if_pos c]
      exact ⟨_, Sk, rfl, fun _ _ _ _ => ⟨⟨kl, trivial⟩, trivial⟩, KJ.i h, eM.rf m Sk⟩
    · simp only [if_neg c]
      have c := mt iLe.mpr c
      have pa := fun j => y_ledAt h.ci.wf kl k j
      by_cases d : f_Y3_at Sk l k 5 < 0
      · simp only [if_pos d]
        exact ⟨_, Sk, rfl, fun _ _ _ _ => ⟨⟨kl, kl, pa 5, trivial⟩, trivial⟩, KJ.i h, eM.rf m Sk⟩
      · simp only [if_neg d]
        by_cases d2 : f_Y10_canBeDone Sk m k = 0
        · simp only [if_pos d2]
          exact ⟨_, Sk, rfl, fun _ _ _ _ => ⟨⟨kl, kl, pa 5, pd, trivial⟩, trivial⟩, KJ.i h, eM.rf m Sk⟩
        · simp only [if_neg d2]
          obtain ⟨v, S2, T2, c2, f, p, k2, en⟩ := h.ham (KJ.mb h) (y_enact (h.as (KJ.mb h)) (f_Y3_at Sk l k 0) (f_Y3_at Sk l k 1) (f_Y3_at Sk l k 2) (f_Y3_at Sk l k 3) (f_Y3_at Sk l k 4))
          rw [f]
          have e1 := iAdd (x := k) (y := 1) (by rw [i1]; omega) (by rw [i1]; omega)
          rw [i1] at e1
          unfold b_Y10_check_106a q_Y10_check_106a
          by_cases d3 : v = f_Y3_at Sk l k 5
          · simp only [if_pos d3]
            obtain ⟨v3, S3, f3, p3, k3, en3⟩ := ih S2 T2 c2 (k + 1) k2 (by omega) (by omega) (by omega)
            exact ⟨v3, S3, f3, fun lc ls A B => ⟨⟨kl, kl, pa 5, pd, kl, pa 0, kl, pa 1, kl, pa 2, kl, pa 3, kl, pa 4, KJ.kb h, ⟨⟨en.1.1, Nat.le_trans en3.1.1 A⟩, en.1.2, Nat.le_trans en3.1.2 B⟩, p _ _ (Nat.le_refl _) (Nat.le_refl _), trivial⟩, p3 lc ls A B⟩, k3, en.tr en3⟩
          · simp only [if_neg d3]
            exact ⟨k, S2, rfl, fun lc ls A B => ⟨⟨kl, kl, pa 5, pd, kl, pa 0, kl, pa 1, kl, pa 2, kl, pa 3, kl, pa 4, KJ.kb h, ⟨⟨en.1.1, A⟩, en.1.2, B⟩, p _ _ (Nat.le_refl _) (Nat.le_refl _), trivial⟩, trivial⟩, KJ.i k2, en⟩
theorem k_check (h : KI S m) : kR S m (fun lc ls => p_Y10_check S m lc ls) (f_Y10_check S m) := by
  obtain ⟨a, b, r2, r3, l, T, col, h⟩ := h
  have wa := h.ci.wf.w0 (KJ.ka h)
  unfold p_Y10_check f_Y10_check q_Y10_check_17a b_Y10_check_17a
  rw [h.g0, h.g1]
  simp only [Option.getD_some, ir_so]
  rw [wa.2.1.1]
  simp only [Option.getD_some, ir_so]
  obtain ⟨p1, v, S2, T2, c2', f, k2, en⟩ := k_trial h
  rw [f]
  obtain ⟨v3, S3, f3, p3, k3, en3⟩ := check_lp 100000 S2 T2 c2' 0 k2 (by rw [i0]; omega) (by rw [i0]; omega) (by rw [i0]; omega)
  exact ⟨v3, S3, f3, fun lc ls A B => ⟨KJ.ka h, wa.1.1, KJ.kb h, p1, p3 lc ls A B⟩, k3, en.tr en3⟩
end
end
section
/-! ===== tell, strike, image, back ===== -/
section
variable {m a b l x : Nat} {r2 r3 : Option Nat} {A A' : List Nat} {S S1 S2 S3 : Cst} {T T1 T2 : Nat → List Nat} {col c1 c2 : Nat → Nat}
/-- the row's ledger moved on -/
theorem KG.row (h : KG m a b r2 r3 l A S T col) (g : LSt noE T [] l S col S2 c2) : KG m a b r2 r3 l A S2 T c2 := by
  have kz := (h.ci.wf.w2 h.kl).2.1.2
  have cz := h.ci.c2 l h.kl
  have fr : ∀ x, x ∈ A → ∀ q, q < S.1 → col q = x → S2.2.2 q = S.2.2 q := fun x mx q a e => g.2.2.2.1 q a (fun z => (h.2.2.2.2.1 x mx).2.2.2.2 (by rw [← z]; exact e)) (fun z => (h.2.2.2.2.1 x mx).2.2.2.2 (by rw [← cz, ← z]; exact e))
  have em : S2.2.2 m = S.2.2 m := g.2.2.2.1 m h.km.1 (fun z => by have := h.km.2; rw [z, h.kl.2] at this; omega) (fun z => by have := h.km.2; rw [z, kz.2] at this; omega)
  have gm : ∀ k, grC S2 m k = grC S m k := fun k => by unfold grC; rw [em]
  have O := fun z (mz : z ∈ A) => oth_g h.ci (h.2.2.2.2.1 z mz).1 g.2.1 (fr z mz) (fun _ _ _ => rfl) (h.2.2.2.2.1 z mz).2.1
  refine ⟨g.1, ⟨h.km.n g.2.1, h.kl.n g.2.1, by rw [g.2.2.1 m h.km.1]; exact h.2.1.2.2.1, by rw [g.2.2.1 l h.kl.1]; exact h.2.1.2.2.2⟩, ?_, h.2.2.2.1, fun z mz => ?_, ?_, ?_⟩
  · simp only [gm]
    exact h.2.2.1
  · have hz := h.2.2.2.2.1 z mz
    exact ⟨hz.1.n g.2.1, (O z mz).1, hz.2.2.1, by rw [g.2.2.1 m h.km.1]; exact hz.2.2.2.1, by rw [g.2.2.1 l h.kl.1]; exact hz.2.2.2.2⟩
  · rw [smL_cg A (fun z mz => (O z mz).2.2.1)]
    have := h.2.2.2.2.2.1
    have := g.2.2.2.2.2.2.1
    omega
  · rw [smL_cg A (fun z mz => (O z mz).2.2.2)]
    have := h.2.2.2.2.2.2
    have := g.2.2.2.2.2.2.2
    omega
theorem k_strike (h : KI S m) : kW S m (fun _ _ => p_Y10_strike S m) (f_Y10_strike S m) := by
  obtain ⟨a, b, r2, r3, l, T, col, h⟩ := h
  have g := LSt.n h.ci h.kl (v := 0) ⟨by rw [i0]; omega, by rw [i0]; omega⟩
  unfold p_Y10_strike f_Y10_strike
  simp only [h.g4, Option.getD_some, ir_so]
  exact ⟨_, _, rfl, fun _ _ _ _ => ⟨h.kl, h.kl, trivial⟩, KJ.i (h.row g), g.2.1⟩
theorem r6_strike (h : KI S m) : (f_Y10_strike S m).1 = rw6 S m ∧ rw6 (f_Y10_strike S m).2 m = 0 := by
  obtain ⟨a, b, r2, r3, l, T, col, h⟩ := h
  have g := LSt.n h.ci h.kl (v := 0) ⟨by rw [i0]; omega, by rw [i0]; omega⟩
  have h2 := h.row g
  unfold f_Y10_strike rw6
  refine ⟨rfl, ?_⟩
  simp only [h.g4, Option.getD_some]
  rw [h2.g4, Option.getD_some, gi_si, if_pos ⟨rfl, rfl⟩]
theorem kw_r (h : KG m a b r2 r3 l A S T col) (c v : Int32) : iR S (grC S m 4) 2 ∧ p_Y3_write S ((grC S m 4).getD 0) c v ∧ ∃ S2, f_Y3_write S ((grC S m 4).getD 0) c v = (0, S2) ∧ LSt noE T [] l S col S2 col ∧ giC S2 l 3 = giC S l 3 := by
  obtain ⟨p, S2, f, g, e⟩ := w_write h.ci h.kl c v
  rw [h.g4]
  exact ⟨ir_so.mpr h.kl, p, S2, f, g, e⟩
/-- what tell answers, and the row's size behind it -/
theorem k_tell2 (h : KJ m a b r2 r3 l S T col) (i0' i1' i2 i3 i4 i5 : Int32) : ∃ v S2 c2, f_Y10_tell S m i0' i1' i2 i3 i4 i5 = (v, S2) ∧ (∀ lc ls, S2.1 ≤ lc → S2.2.1 ≤ ls → p_Y10_tell S m lc ls i0' i1' i2 i3 i4 i5) ∧ KJ m a b r2 r3 l S2 T c2 ∧ eN S S2 ∧ (giC S l 3 < 600 → v = giC S l 3 + 1 ∧ giC S2 l 3 = giC S l 3 + 1) ∧ (¬ giC S l 3 < 600 → v = -10 ∧ S2 = S) := by
  have w := h.ci.wf.w2 h.kl
  unfold f_Y10_tell p_Y10_tell
  simp only [h.g4, Option.getD_some, ir_so]
  rw [isF, w.1.2.1]
  by_cases c : giC S l 3 < 600
  · simp only [if_pos c, if_true]
    obtain ⟨S2, c2, f, p, g, eg⟩ := w_open h.ci h.kl
    rw [if_pos c] at eg
    have h2 := h.row g
    obtain ⟨j0, p0, S3, f0, g0, s0⟩ := kw_r h2 0 i0'
    have h3 := h2.row g0
    obtain ⟨j1, p1, S4, f1, g1, s1⟩ := kw_r h3 1 i1'
    have h4 := h3.row g1
    obtain ⟨j2, p2, S5, f2, g2, s2⟩ := kw_r h4 2 i2
    have h5 := h4.row g2
    obtain ⟨j3, p3, S6, f3, g3, s3⟩ := kw_r h5 3 i3
    have h6 := h5.row g3
    obtain ⟨j4, p4, S7, f4, g4, s4⟩ := kw_r h6 4 i4
    have h7 := h6.row g4
    obtain ⟨j5, p5, S8, f5, g5, s5⟩ := kw_r h7 5 i5
    have h8 := h7.row g5
    have G := ((((g0.tr g1).tr g2).tr g3).tr g4).tr g5
    unfold b_Y10_tell_20a q_Y10_tell_20a b_Y10_tell_29a q_Y10_tell_29a b_Y10_tell_38a q_Y10_tell_38a b_Y10_tell_47a q_Y10_tell_47a b_Y10_tell_57a q_Y10_tell_57a b_Y10_tell_67a q_Y10_tell_67a b_Y10_tell_77a q_Y10_tell_77a
    rw [f]
    simp only [f0, f1, f2, f3, f4, f5]
    have e8 : giC S8 l 3 = giC S l 3 + 1 := by rw [s5, s4, s3, s2, s1, s0, eg]
    refine ⟨_, S8, c2, rfl, fun lc ls A B => ⟨h.kl, y_isFull _ _, h.kl, ⟨⟨g.2.1.1.1, Nat.le_trans G.2.1.1.1 A⟩, g.2.1.1.2, Nat.le_trans G.2.1.1.2 B⟩, p _ _ (Nat.le_refl _) (Nat.le_refl _), j0, p0, j1, p1, j2, p2, j3, p3, j4, p4, j5, p5, ?_, trivial⟩, h8, g.2.1.tr G.2.1, fun _ => ⟨?_, e8⟩, fun n => absurd c n⟩
    · rw [h8.g4]
      exact ir_so.mpr h8.kl
    · rw [h8.g4, Option.getD_some]
      exact e8
  · have e1 : ¬ ((1 : Int32) = 0) := by decide
    simp only [if_neg c, if_neg e1]
    exact ⟨-10, S, col, rfl, fun _ _ _ _ => ⟨h.kl, y_isFull _ _, trivial⟩, h, eN.rf S, fun n => absurd n c, fun _ => ⟨rfl, rfl⟩⟩
theorem k_tell (h : KI S m) (i0' i1' i2 i3 i4 i5 : Int32) : kW S m (fun lc ls => p_Y10_tell S m lc ls i0' i1' i2 i3 i4 i5) (f_Y10_tell S m i0' i1' i2 i3 i4 i5) := by
  obtain ⟨a, b, r2, r3, l, T, col, h⟩ := h
  obtain ⟨v, S2, c2, f, p, k, g, _⟩ := k_tell2 h i0' i1' i2 i3 i4 i5
  exact ⟨v, S2, f, p, KJ.i k, g⟩
theorem r6_tell (h : KI S m) (i0' i1' i2 i3 i4 i5 : Int32) : (rw6 S m < 600 → (f_Y10_tell S m i0' i1' i2 i3 i4 i5).1 = rw6 S m + 1 ∧ rw6 (f_Y10_tell S m i0' i1' i2 i3 i4 i5).2 m = rw6 S m + 1) ∧ (¬ rw6 S m < 600 → (f_Y10_tell S m i0' i1' i2 i3 i4 i5).1 = -10 ∧ rw6 (f_Y10_tell S m i0' i1' i2 i3 i4 i5).2 m = rw6 S m) := by
  obtain ⟨a, b, r2, r3, l, T, col, h⟩ := h
  obtain ⟨v, S2, c2, f, p, k, g, q1, q2⟩ := k_tell2 h i0' i1' i2 i3 i4 i5
  rw [f]
  have e1 : rw6 S m = giC S l 3 := by unfold rw6; rw [h.g4, Option.getD_some]
  have e2 : rw6 S2 m = giC S2 l 3 := by unfold rw6; rw [k.g4, Option.getD_some]
  dsimp only
  rw [e1, e2]
  refine ⟨q1, fun z => ?_⟩
  obtain ⟨x1, x2⟩ := q2 z
  rw [x2]
  exact ⟨x1, rfl⟩
/-- an image's field set -/
theorem CI.m7 {E : Nat → Prop} {F : List Nat} (h : CI E S T F col) {c f : Nat} (k : iK S m 7) (hf : f = 2 ∨ f = 3) (kc : iK S c 0) : CI E (srC S m f (some c)) T F col := by
  refine ⟨wf_sr h.wf ?_, h.tz, fun c q m => ⟨ik_sr.mpr (h.tk c q m).1, (h.tk c q m).2⟩, h.td, h.tn, ⟨h.tf.1, fun q m => ⟨ik_sr.mpr (h.tf.2 q m).1, (h.tf.2 q m).2⟩⟩, fun Q e kQ => ?_, fun y ky => ?_, fun y ky => h.c0 y (ik_sr.mp ky), fun q kq => h.c3 q (ik_sr.mp kq), fun z kz => ?_⟩
  · refine ⟨fun w y => by cases y; exact kc.1, ?_, ?_, ?_, ?_, ?_, ?_, ?_, fun _ => ⟨hf, Or.inr ⟨c, rfl, kc⟩⟩, ?_, ?_⟩ <;> (rw [k.2]; intro z; omega)
  · have kQ := ik_sr.mp kQ
    have w := h.tp Q e kQ
    rw [gi_sr]
    refine ⟨w.1, w.2.1, fun i hi => ?_⟩
    rw [gr_sr, if_neg (fun z => by have := (h.wf.w4 kQ).1.1.2; rw [z.1, k.2] at this; omega)]
    exact w.2.2 i hi
  · have ky := ik_sr.mp ky
    rw [gr_sr, if_neg (fun z => by have := ky.2; rw [z.1, k.2] at this; omega)]
    exact (h.tc y ky).cg _ _ (fun z m => by rw [gr_sr, if_neg (fun w => by have := (h.tk y z m).1.2; rw [w.1, k.2] at this; omega)])
  · have kz := ik_sr.mp kz
    rw [gr_sr, if_neg (fun w => by have := kz.2; rw [w.1, k.2] at this; omega)]
    exact h.c2 z kz
theorem KG.set (h : KG m a b r2 r3 l A S T col) {c f : Nat} (hf : f = 2 ∨ f = 3) (hc : c ∈ A) : KG m a b (if f = 2 then some c else r2) (if f = 3 then some c else r3) l A (srC S m f (some c)) T col := by
  have kc := (h.2.2.2.2.1 c hc).1
  have en : eN S (srC S m f (some c)) := (eK.sr ..).n
  have O := fun z (mz : z ∈ A) => oth_g (S2 := srC S m f (some c)) h.ci (h.2.2.2.2.1 z mz).1 en (fun q _ e => ce_sr _ _ (fun y => (h.2.2.2.2.1 z mz).2.2.2.1 (by rw [← y]; exact e))) (fun _ _ _ => rfl) (h.2.2.2.2.1 z mz).2.1
  have el : (srC S m f (some c)).2.2 l = S.2.2 l := ce_sr _ _ (fun y => by have := h.kl.2; rw [y, h.km.2] at this; omega)
  have lc : lcl (srC S m f (some c)) l = lcl S l := by
    unfold lcl
    have e2 : grC (srC S m f (some c)) l 2 = grC S l 2 := by unfold grC; rw [el]
    rw [e2, ln_sr]
  have lp : psL (srC S m f (some c)) l = psL S l := by
    unfold psL
    rw [lc, gi_sr]
  refine ⟨h.ci.m7 h.km hf kc, ⟨ik_sr.mpr h.km, ik_sr.mpr h.kl, h.2.1.2.2⟩, ?_, h.2.2.2.1, fun z mz => ⟨ik_sr.mpr (h.2.2.2.2.1 z mz).1, (O z mz).1, (h.2.2.2.2.1 z mz).2.2⟩, ?_, ?_⟩
  · obtain ⟨g0, g1, g2, g3, g4⟩ := h.2.2.1
    rcases hf with rfl | rfl
    · simp [gr_sr, g0, g1, g3, g4]
    · simp [gr_sr, g0, g1, g2, g4]
  · rw [smL_cg A (fun z mz => (O z mz).2.2.1), lc]
    exact h.2.2.2.2.2.1
  · rw [smL_cg A (fun z mz => (O z mz).2.2.2), lp]
    exact h.2.2.2.2.2.2
theorem KG.pm (h : KG m a b r2 r3 l A S T col) (hn : A'.Nodup) (hm : ∀ x, x ∈ A' → x ∈ A) (hs : ∀ f : Nat → Nat, smL f A = smL f A') (hl : A.length = A'.length) : KG m a b r2 r3 l A' S T col := by
  refine ⟨h.ci, h.2.1, h.2.2.1, hn, fun x mx => h.2.2.2.2.1 x (hm x mx), ?_, ?_⟩
  · rw [← hs, ← hl]
    exact h.2.2.2.2.2.1
  · rw [← hs, ← hl]
    exact h.2.2.2.2.2.2
/-- an assembly made anew joins -/
theorem KG.mk (h : KG m a b r2 r3 l A S T col) : KG m a b r2 r3 l (S.1 :: A) (mkX0 S) T (cN S S.1 col) := by
  have ci := h.ci.mk0
  have c0 := clr_mk0 h.ci
  have en : eN S (mkX0 S) := eN.pu S _ _
  have cn : ∀ q, q < S.1 → cN S S.1 col q = col q := fun q a => cN_old a
  have na : ∀ z, z ∈ A → z ≠ S.1 := fun z mz e => by have := (h.2.2.2.2.1 z mz).1.1; omega
  have fr : ∀ q, q < S.1 → (mkX0 S).2.2 q = S.2.2 q := fun q a => puC_old a
  have O := fun z (mz : z ∈ A) => oth_g (S2 := mkX0 S) h.ci (h.2.2.2.2.1 z mz).1 en (fun q a _ => fr q a) (fun _ _ _ => rfl) (h.2.2.2.2.1 z mz).2.1
  have gm : ∀ k, grC (mkX0 S) m k = grC S m k := fun k => by unfold grC; rw [fr m h.km.1]
  have el := fr l h.kl.1
  have lc : lcl (mkX0 S) l = lcl S l := by
    unfold lcl
    have e2 : grC (mkX0 S) l 2 = grC S l 2 := by unfold grC; rw [el]
    rw [e2]
    exact (en.2 _ (h.ci.wf.w2 h.kl).2.1.2.1).2
  have lp : psL (mkX0 S) l = psL S l := by
    unfold psL
    have e0 : giC (mkX0 S) l 0 = giC S l 0 := by unfold giC; rw [el]
    rw [lc, e0]
  refine ⟨ci, ⟨h.km.n en, h.kl.n en, by rw [cn m h.km.1]; exact h.2.1.2.2.1, by rw [cn l h.kl.1]; exact h.2.1.2.2.2⟩, ?_, List.nodup_cons.mpr ⟨fun y => na _ y rfl, h.2.2.2.1⟩, fun z mz => ?_, ?_, ?_⟩
  · simp only [gm]
    exact h.2.2.1
  · rw [cn m h.km.1, cn l h.kl.1]
    rcases List.mem_cons.mp mz with e | mz
    · rw [e]
      have cm : col m ≠ S.1 ∧ col l ≠ S.1 := by
        have := h.km.1
        rw [h.2.1.2.2.1, h.2.1.2.2.2]
        exact ⟨by omega, by omega⟩
      exact ⟨m0_0, PI.clr c0.1, by rw [c0.2]; omega, cm.1, cm.2⟩
    · have hz := h.2.2.2.2.1 z mz
      exact ⟨hz.1.n en, (O z mz).1, hz.2.2.1, hz.2.2.2⟩
  · rw [smL, smL_cg A (fun z mz => (O z mz).2.2.1), lc, List.length_cons]
    have := h.2.2.2.2.2.1
    show S.1 + 40 ≤ _
    omega
  · rw [smL, smL_cg A (fun z mz => (O z mz).2.2.2), lp, List.length_cons]
    have := h.2.2.2.2.2.2
    show S.2.1 + 966 ≤ _
    omega
/-- an image's field set: the row stands -/
theorem sm6 (h : KG m a b r2 r3 l A S T col) {c f : Nat} (hf : f = 2 ∨ f = 3) : eM m S (srC S m f (some c)) := by
  have en : eN S (srC S m f (some c)) := (eK.sr ..).n
  refine ⟨en.1, en.2, ?_⟩
  unfold rw6
  rw [gr_sr, if_neg (fun z => by omega), gi_sr]
/-- an image of what there is: in place of an older one, or made anew -/
theorem k_img (h : KG m a b r2 r3 l A S T col) (ma : a ∈ A) {r : Option Nat} (hr : r = none ∨ ∃ c, r = some c ∧ c ∈ A ∧ c ≠ a) : ∃ c S2 T2 c2, f_Y10_imageOfNow S m r = (some c, S2) ∧ (∀ lc ls, S2.1 ≤ lc → S2.2.1 ≤ ls → p_Y10_imageOfNow S m lc ls r) ∧ KG m a b r2 r3 l (if r = none then c :: A else A) S2 T2 c2 ∧ (r = none → c = S.1) ∧ (∀ d, r = some d → c = d) ∧ eM m S S2 := by
  have key : ∀ {A : List Nat} {S : Cst} {T : Nat → List Nat} {col : Nat → Nat} (h : KG m a b r2 r3 l A S T col) (ma : a ∈ A) {c : Nat} (mc : c ∈ A) (nc : c ≠ a) (x1 : Option Nat) (vx : vR S x1), ∃ S2 T2 c2, b_Y10_imageOfNow_15 S m x1 (some c) = (some c, S2) ∧ (∀ lc ls, S2.1 ≤ lc → S2.2.1 ≤ ls → q_Y10_imageOfNow_15 S m lc ls x1 (some c)) ∧ KG m a b r2 r3 l A S2 T2 c2 ∧ eM m S S2 := by
    intro A S T col h ma c mc nc x1 vx
    have ka := (h.2.2.2.2.1 a ma).1
    have kc := (h.2.2.2.2.1 c mc).1
    obtain ⟨v, S2, T2, c2, f, p, k2, en⟩ := h.ham mc (y_abecome (h.as mc).1 ka (fun z => nc z.symm) (h.2.2.2.2.1 a ma).2.1)
    unfold b_Y10_imageOfNow_15 q_Y10_imageOfNow_15 b_Y10_imageOfNow_24a q_Y10_imageOfNow_24a
    simp only [h.g0, Option.getD_some, ir_so, f]
    exact ⟨S2, T2, c2, rfl, fun lc ls A B => ⟨kc, ka, ⟨⟨en.1.1, A⟩, en.1.2, B⟩, p _ _ (Nat.le_refl _) (Nat.le_refl _), fun z y => by cases y; exact kc.1, vx, trivial⟩, k2, en⟩
  unfold f_Y10_imageOfNow p_Y10_imageOfNow b_Y10_imageOfNow_11a q_Y10_imageOfNow_11a
  rcases hr with rfl | ⟨c, rfl, mc, nc⟩
  · simp only [if_true]
    have k1 := h.mk
    have en : eM m S (mkX0 S) := h.r6 (eN.pu S _ _) (puC_old h.km.1) (puC_old h.kl.1)
    have na : S.1 ≠ a := fun e => by have := (h.2.2.2.2.1 a ma).1.1; omega
    obtain ⟨S2, T2, c2, f, p, k2, en2⟩ := key k1 (List.mem_cons_of_mem _ ma) (List.mem_cons_self ..) na none (fun z y => by cases y)
    exact ⟨S.1, S2, T2, c2, f, fun lc ls A B => ⟨⟨h.ci.wf.1, Nat.le_trans en2.1.1 A, Nat.le_trans en2.1.2 B⟩, fun z y => (by cases y), p lc ls A B⟩, k2, fun _ => rfl, fun d y => (by cases y), en.tr en2⟩
  · simp only [reduceCtorEq, if_false]
    obtain ⟨S2, T2, c2, f, p, k2, en2⟩ := key h ma mc nc (some c) (fun z y => by cases y; exact (h.2.2.2.2.1 c mc).1.1)
    exact ⟨c, S2, T2, c2, f, p, k2, fun y => (by cases y), fun d y => (by cases y; rfl), en2⟩
theorem k_image (h : KI S m) (k : Int32) : kR S m (fun lc ls => p_Y10_image S m lc ls k) (f_Y10_image S m k) := by
  obtain ⟨a, b, r2, r3, l, T, col, h⟩ := h
  have hn := h.2.2.2.1
  have hsz : ∀ {S : Cst} {T : Nat → List Nat} {col : Nat → Nat} {r2 r3 : Option Nat}, KJ m a b r2 r3 l S T col → (∀ lc ls, q_Y10_image_42 S m lc ls k) ∧ ∃ v, b_Y10_image_42 S m k = (v, S) := by
    intro S T col r2 r3 h
    have wa := h.ci.wf.w0 (KJ.ka h)
    unfold b_Y10_image_42 q_Y10_image_42
    simp only [h.g0, Option.getD_some, ir_so, wa.2.1.2.2.2.2.1]
    exact ⟨fun _ _ => ⟨KJ.ka h, wa.1.2.2.2.2.1, trivial⟩, _, rfl⟩
  unfold p_Y10_image f_Y10_image b_Y10_image_13a q_Y10_image_13a b_Y10_image_33a q_Y10_image_33a
  rw [h.2.2.1.2.2.1, h.2.2.1.2.2.2.1]
  by_cases c1 : k = 0
  · simp only [if_pos c1]
    have hr : r2 = none ∨ ∃ c, r2 = some c ∧ c ∈ kA a b r2 r3 ∧ c ≠ a := by
      cases r2 with
      | none => exact Or.inl rfl
      | some c =>
        refine Or.inr ⟨c, rfl, ?_, fun z => ?_⟩
        · unfold kA
          simp
        · unfold kA at hn
          rw [z] at hn
          simp at hn
    obtain ⟨c, S2, T2, c2, f, p, k2, e1, e2, en⟩ := k_img h (KJ.ma h) hr
    have k3 : KJ m a b (some c) r3 l (srC S2 m 2 (some c)) T2 c2 := by
      cases r2 with
      | none =>
        rw [if_pos rfl] at k2
        have k4 := k2.set (c := c) (f := 2) (Or.inl rfl) (List.mem_cons_self ..)
        refine k4.pm ?_ (fun x mx => ?_) (fun f => ?_) ?_
        · have := k4.2.2.2.1
          unfold kA at this ⊢
          simp only [Option.toList_none, Option.toList_some, List.nil_append, List.nodup_cons, List.mem_cons, not_or, List.cons_append] at this ⊢
          obtain ⟨⟨x1, x2, x3⟩, ⟨y1, y2⟩, z1, z2⟩ := this
          exact ⟨⟨y1, fun e => x1 e.symm, y2⟩, ⟨fun e => x2 e.symm, z1⟩, x3, z2⟩
        · unfold kA at mx ⊢
          simp only [Option.toList_none, Option.toList_some, List.nil_append, List.mem_cons, List.cons_append] at mx ⊢
          rcases mx with e | e | e | e
          · exact Or.inr (Or.inl e)
          · exact Or.inr (Or.inr (Or.inl e))
          · exact Or.inl e
          · exact Or.inr (Or.inr (Or.inr e))
        · unfold kA
          simp only [Option.toList_none, Option.toList_some, List.nil_append, List.cons_append, smL]
          omega
        · unfold kA
          simp
      | some d =>
        have e := e2 d rfl
        subst e
        rw [if_neg (by simp)] at k2
        exact k2.set (c := c) (f := 2) (Or.inl rfl) (by unfold kA; simp)
    obtain ⟨q, v, e⟩ := hsz k3
    rw [f]
    exact ⟨v, _, e, fun lc ls A B => ⟨⟨⟨en.1.1, A⟩, en.1.2, B⟩, p _ _ (Nat.le_refl _) (Nat.le_refl _), q lc ls⟩, KJ.i k3, en.tr (sm6 k2 (f := 2) (Or.inl rfl))⟩
  · simp only [if_neg c1]
    by_cases c2' : k = 1
    · simp only [if_pos c2']
      have hr : r3 = none ∨ ∃ c, r3 = some c ∧ c ∈ kA a b r2 r3 ∧ c ≠ a := by
        cases r3 with
        | none => exact Or.inl rfl
        | some c =>
          refine Or.inr ⟨c, rfl, ?_, fun z => ?_⟩
          · unfold kA
            simp
          · unfold kA at hn
            rw [z] at hn
            simp at hn
      obtain ⟨c, S2, T2, c2, f, p, k2, e1, e2, en⟩ := k_img h (KJ.ma h) hr
      have k3 : KJ m a b r2 (some c) l (srC S2 m 3 (some c)) T2 c2 := by
        cases r3 with
        | none =>
          rw [if_pos rfl] at k2
          have k4 := k2.set (c := c) (f := 3) (Or.inr rfl) (List.mem_cons_self ..)
          refine k4.pm ?_ (fun x mx => ?_) (fun f => ?_) ?_
          · have := k4.2.2.2.1
            unfold kA at this ⊢
            cases r2 with
            | none =>
              simp only [Option.toList_none, Option.toList_some, List.nil_append, List.nodup_cons, List.mem_cons, not_or, List.cons_append, List.not_mem_nil, or_false, not_false_eq_true, List.nodup_nil, and_true, true_and] at this ⊢
              exact ⟨⟨this.2, fun e => this.1.1 e.symm⟩, fun e => this.1.2 e.symm⟩
            | some d =>
              simp only [Option.toList_none, Option.toList_some, List.nil_append, List.nodup_cons, List.mem_cons, not_or, List.cons_append, List.not_mem_nil, or_false, not_false_eq_true, List.nodup_nil, and_true, true_and, List.append_nil] at this ⊢
              obtain ⟨⟨x1, x2, x3⟩, ⟨y1, y2⟩, z1⟩ := this
              exact ⟨⟨y1, y2, fun e => x1 e.symm⟩, ⟨z1, fun e => x2 e.symm⟩, fun e => x3 e.symm⟩
          · unfold kA at mx ⊢
            cases r2 with
            | none =>
              simp only [Option.toList_none, Option.toList_some, List.nil_append, List.mem_cons, List.cons_append, List.not_mem_nil, or_false] at mx ⊢
              rcases mx with e | e | e
              · exact Or.inr (Or.inl e)
              · exact Or.inr (Or.inr e)
              · exact Or.inl e
            | some d =>
              simp only [Option.toList_none, Option.toList_some, List.nil_append, List.mem_cons, List.cons_append, List.not_mem_nil, or_false, List.append_nil] at mx ⊢
              rcases mx with e | e | e | e
              · exact Or.inr (Or.inl e)
              · exact Or.inr (Or.inr (Or.inl e))
              · exact Or.inr (Or.inr (Or.inr e))
              · exact Or.inl e
          · unfold kA
            cases r2 <;> simp only [Option.toList_none, Option.toList_some, List.nil_append, List.cons_append, smL] <;> omega
          · unfold kA
            cases r2 <;> simp
        | some d =>
          have e := e2 d rfl
          subst e
          rw [if_neg (by simp)] at k2
          exact k2.set (c := c) (f := 3) (Or.inr rfl) (by unfold kA; simp)
      obtain ⟨q, v, e⟩ := hsz k3
      rw [f]
      exact ⟨v, _, e, fun lc ls A B => ⟨⟨⟨en.1.1, A⟩, en.1.2, B⟩, p _ _ (Nat.le_refl _) (Nat.le_refl _), q lc ls⟩, KJ.i k3, en.tr (sm6 k2 (f := 3) (Or.inr rfl))⟩
    · simp only [if_neg c2']
      exact ⟨_, S, rfl, fun _ _ _ _ => trivial, KJ.i h, eM.rf m S⟩
theorem k_back (h : KI S m) (k : Int32) : kR S m (fun lc ls => p_Y10_back S m lc ls k) (f_Y10_back S m k) := by
  obtain ⟨a, b, r2, r3, l, T, col, h⟩ := h
  have hn := h.2.2.2.1
  have key : ∀ r, (r = r2 ∨ r = r3) → kR S m (fun lc ls => q_Y10_back_27 S m lc ls k r) (b_Y10_back_27 S m k r) := by
    intro r hr
    unfold b_Y10_back_27 q_Y10_back_27 b_Y10_back_43a q_Y10_back_43a
    cases r with
    | none =>
      simp only [if_true]
      exact ⟨_, S, rfl, fun _ _ _ _ => trivial, KJ.i h, eM.rf m S⟩
    | some c =>
      have hc : c ∈ kA a b r2 r3 ∧ c ≠ a := by
        unfold kA at hn ⊢
        rcases hr with hr | hr <;> rw [← hr] at hn ⊢
        · refine ⟨by simp, fun z => ?_⟩
          rw [z] at hn
          simp at hn
        · refine ⟨by simp, fun z => ?_⟩
          rw [z] at hn
          simp at hn
      have kc := (h.2.2.2.2.1 c hc.1).1
      simp only [reduceCtorEq, if_false, h.g0, Option.getD_some, ir_so]
      obtain ⟨v, S2, T2, c2, f, p, k2, en⟩ := h.ham (KJ.ma h) (y_abecome (h.as (KJ.ma h)).1 kc hc.2 (h.2.2.2.2.1 c hc.1).2.1)
      rw [f]
      have wa := k2.ci.wf.w0 (KJ.ka k2)
      simp only [k2.g0, Option.getD_some, ir_so, wa.2.1.2.2.2.2.1]
      exact ⟨_, S2, rfl, fun lc ls A B => ⟨KJ.ka h, kc, ⟨⟨en.1.1, A⟩, en.1.2, B⟩, p _ _ (Nat.le_refl _) (Nat.le_refl _), fun z y => (by cases y; exact kc.1), KJ.ka k2, wa.1.2.2.2.2.1, trivial⟩, KJ.i k2, en⟩
  unfold p_Y10_back f_Y10_back b_Y10_back_9 q_Y10_back_9
  rw [h.2.2.1.2.2.1, h.2.2.1.2.2.2.1]
  by_cases c1 : k < 0
  · simp only [if_pos c1]
    exact ⟨_, S, rfl, fun _ _ _ _ => trivial, KJ.i h, eM.rf m S⟩
  · simp only [if_neg c1]
    by_cases c2 : k ≤ 1
    · simp only [if_pos c2]
      by_cases c3 : k = 0
      · simp only [if_pos c3]
        exact key r2 (Or.inl rfl)
      · simp only [if_neg c3]
        exact key r3 (Or.inr rfl)
    · simp only [if_neg c2]
      exact ⟨_, S, rfl, fun _ _ _ _ => trivial, KJ.i h, eM.rf m S⟩
end
end
