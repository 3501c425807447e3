/-! ===== which acts are done; perform, enact ===== -/
section
variable {x : Nat} {S S1 S2 S3 : Cst} {T T1 T2 : Nat → List Nat} {F F1 : List Nat} {col c1 c2 : Nat → Nat}
def cA (S : Cst) (T : Nat → List Nat) (x : Nat) (act i : Int32) : Prop := (act = 13 → ∃ p : Nat, p < 8 ∧ i.toInt = p ∧ giC S (x + 13 + 3 * p) 0 = 0 ∧ giC S (x + 3) 0 ≠ 0 ∧ (nd S (T (x + 1)) → fcU S x 8 ≠ 1)) ∧ (act = 14 → ∃ p : Nat, p < 8 ∧ i.toInt = p ∧ giC S (x + 3) 0 = 0 ∧ giC S (x + 13 + 3 * p) 0 ≠ 0) ∧ (act = 15 → giC S (x + 3) 0 ≠ 0 ∧ ((∃ q, f_Y6_motion S (x + 3) = some q ∧ (T (x + 1)).length < 9 ∧ (nK (giC S q 2) → 1 ≤ fcU S x 8)) ∨ (f_Y6_motion S (x + 3) = none ∧ T (x + 1) = []))) ∧ (act = 19 → (T (x + 1)).length < 9)
theorem ag_49 {S : Cst} {x : Nat} {a b c d e r : Int32} (h : b_Y8_against_49 S x a b c d e r = 0) : r = 0 := by
  unfold b_Y8_against_49 b_Y8_against_69 b_Y8_against_71 at h
  split at h
  · next z => exact z
  · exact h
theorem em_0 {S : Cst} {q : Nat} (h : f_Y6_isEmpty S q = 0) : giC S q 0 ≠ 0 := by
  rw [em_f] at h
  intro z
  rw [if_pos z] at h
  exact absurd h (by decide)
theorem em_1 {S : Cst} {q : Nat} (h : ¬ f_Y6_isEmpty S q = 0) : giC S q 0 = 0 := by
  rw [em_f] at h
  by_cases z : giC S q 0 = 0
  · exact z
  · rw [if_neg z] at h
    exact absurd rfl h
theorem pa_i {S : Cst} {x : Nat} {i : Int32} (h : ¬ f_Y0_placeAt S x i = none) : ∃ p : Nat, p < 8 ∧ i.toInt = p := by
  unfold f_Y0_placeAt b_Y0_placeAt_10 b_Y0_placeAt_20 at h
  split at h
  · exact absurd rfl h
  · next c =>
    split at h
    · next d =>
      have c := mt iLt.mpr c
      have d := iLt.mp d
      rw [i0] at c
      rw [e8] at d
      have hn := iNat (x := i) (by omega)
      exact ⟨i.toNatClampNeg, by omega, by omega⟩
    · exact absurd rfl h
theorem ag_lay {S : Cst} {x : Nat} {i : Int32} (h : f_Y8_againstLay S x i = 0) : ¬ f_Y0_placeAt S x i = none ∧ f_Y6_isEmpty S ((grC S x 2).getD 0) = 0 ∧ ¬ f_Y6_isEmpty S ((f_Y0_placeAt S x i).getD 0) = 0 ∧ (f_Y0_freePlaces S x = 1 → f_Y5_needsPlace S ((grC S x 1).getD 0) = 0) := by
  unfold f_Y8_againstLay at h
  split at h
  · exact absurd h (by decide)
  · next c1 =>
    split at h
    · next c2 =>
      split at h
      · unfold b_Y8_againstLay_30 at h
        exact absurd h (by decide)
      · next c3 =>
        refine ⟨c1, c2, c3, ?_⟩
        have K : ∀ {p r : Option Nat}, b_Y8_againstLay_101 S x i p r = 0 → (f_Y0_freePlaces S x = 1 → f_Y5_needsPlace S ((grC S x 1).getD 0) = 0) := fun {p r} g e => by
          unfold b_Y8_againstLay_101 b_Y8_againstLay_124 b_Y8_againstLay_125 at g
          rw [if_pos e] at g
          split at g
          · next z => exact z
          · exact absurd g (by decide)
        split at h
        · exact K h
        · split at h
          · exact K h
          · split at h
            · split at h
              · unfold b_Y8_againstLay_82 at h
                exact absurd h (by decide)
              · unfold b_Y8_againstLay_79a b_Y8_againstLay_82 at h
                split at h
                · exact absurd h (by decide)
                · split at h
                  · exact K h
                  · exact absurd h (by decide)
            · exact K h
    · unfold b_Y8_againstLay_30 at h
      exact absurd h (by decide)
theorem ag_take {S : Cst} {x : Nat} {i : Int32} (h : f_Y8_againstTake S x i = 0) : ¬ f_Y0_placeAt S x i = none ∧ ¬ f_Y6_isEmpty S ((grC S x 2).getD 0) = 0 ∧ f_Y6_isEmpty S ((f_Y0_placeAt S x i).getD 0) = 0 := by
  unfold f_Y8_againstTake b_Y8_againstTake_30 b_Y8_againstTake_36 at h
  split at h
  · exact absurd h (by decide)
  · next c1 =>
    split at h
    · exact absurd h (by decide)
    · next c2 =>
      split at h
      · next c3 => exact ⟨c1, c2, c3⟩
      · exact absurd h (by decide)
theorem ag_move {S : Cst} {x : Nat} {i : Int32} (h : f_Y8_againstMove S x i = 0) : f_Y6_isEmpty S ((grC S x 2).getD 0) = 0 ∧ f_Y8_isOutOfRank S ((grC S x 1).getD 0) (f_Y6_motion S ((grC S x 2).getD 0)) (f_Y5_top S ((grC S x 1).getD 0)) = 0 ∧ (f_Y6_motion S ((grC S x 2).getD 0) = none ∨ f_Y8_lacksRoom S x (f_Y6_motion S ((grC S x 2).getD 0)) (f_Y5_top S ((grC S x 1).getD 0)) = 0) := by
  unfold f_Y8_againstMove at h
  split at h
  · next c1 =>
    refine ⟨c1, ?_⟩
    generalize f_Y6_motion S ((grC S x 2).getD 0) = m at h ⊢
    generalize f_Y5_top S ((grC S x 1).getD 0) = t at h ⊢
    have K14 : b_Y8_againstMove_114 S x i m t = 0 → f_Y8_lacksRoom S x m t = 0 := fun g => by
      unfold b_Y8_againstMove_114 b_Y8_againstMove_129 at g
      split at g
      · next z => exact z
      · exact absurd g (by decide)
    have K79 : b_Y8_againstMove_79 S x i m t = 0 → m = none ∨ f_Y8_lacksRoom S x m t = 0 := fun g => by
      unfold b_Y8_againstMove_79 at g
      split at g
      · exact absurd g (by decide)
      · split at g
        · next z => exact Or.inl z
        · split at g
          · exact Or.inr (K14 g)
          · split at g
            · exact Or.inr (K14 g)
            · exact absurd g (by decide)
    unfold b_Y8_againstMove_38a b_Y8_againstMove_77 at h
    split at h
    · next c2 =>
      refine ⟨c2, ?_⟩
      split at h
      · exact absurd h (by decide)
      · split at h
        · exact K79 h
        · split at h
          · exact absurd h (by decide)
          · split at h
            · exact absurd h (by decide)
            · exact K79 h
    · exact absurd h (by decide)
  · exact absurd h (by decide)
theorem ag_rank {S : Cst} {x : Nat} {t : Option Nat} (h : f_Y8_isOutOfRank S x none t = 0) : t = none := by
  unfold f_Y8_isOutOfRank b_Y8_isOutOfRank_12 b_Y8_isOutOfRank_21 at h
  rw [if_pos rfl] at h
  split at h
  · next z => exact z
  · exact absurd h (by decide)
theorem ag_room {S : Cst} {x q : Nat} {t : Option Nat} (h : f_Y8_lacksRoom S x (some q) t = 0) : giC S ((grC S x 1).getD 0) 1 < 9 ∧ (¬ f_Y4_needsPlace S q = 0 → ¬ f_Y0_freePlaces S x = 0) := by
  unfold f_Y8_lacksRoom b_Y8_lacksRoom_33 b_Y8_lacksRoom_61 b_Y8_lacksRoom_62 at h
  rw [Option.getD_some] at h
  split at h
  · next c =>
    refine ⟨c, fun n => ?_⟩
    rw [if_neg n] at h
    split at h
    · exact absurd h (by decide)
    · next z => exact z
  · exact absurd h (by decide)
theorem ag_rule {S : Cst} {x : Nat} {a : Int32} {b : Int32} (h : f_Y8_againstOnMotion S x 19 a b = 0) : giC S ((grC S x 1).getD 0) 1 < 9 := by
  unfold f_Y8_againstOnMotion at h
  rw [if_neg (by decide), if_neg (by decide), if_pos rfl] at h
  unfold b_Y8_againstOnMotion_58 at h
  split at h
  · exact absurd h (by decide)
  · unfold b_Y8_againstOnMotion_66 at h
    split at h
    · exact absurd h (by decide)
    · rw [if_neg (by decide), if_neg (by decide), if_neg (by decide), if_pos rfl] at h
      unfold f_Y8_againstRule b_Y8_againstRule_30 at h
      split at h
      · exact absurd h (by decide)
      · split at h
        · next z => exact z
        · exact absurd h (by decide)
theorem e9 : (9 : Int32).toInt = 9 := by decide
theorem against_c (a : AS x S T col S1 T1 c1) {act i b c d : Int32} (h : f_Y8_against S1 x act i b c d = 0) : cA S1 T1 x act i := by
  have ci := a.1.ci
  have k := a.1.k1
  have w0 := ci.wf.w0 k
  have wp := ci.tp (x + 1) (noE_n _) w0.1.2.1
  unfold f_Y8_against at h
  refine ⟨fun e => ?_, fun e => ?_, fun e => ?_, fun e => ?_⟩
  · rw [e, if_pos (by decide), if_neg (by decide)] at h
    have h := ag_49 h
    unfold f_Y8_againstOnPaper at h
    rw [if_neg (by decide), if_neg (by decide), if_neg (by decide), if_pos rfl] at h
    obtain ⟨g1, g2, g3, g4⟩ := ag_lay h
    obtain ⟨p, hp, hi⟩ := pa_i g1
    rw [pa_v ci.wf k hp hi, Option.getD_some] at g3
    rw [w0.2.1.2.2.1, Option.getD_some] at g2
    rw [w0.2.1.2.1, Option.getD_some] at g4
    refine ⟨p, hp, hi, em_1 g3, em_0 g2, fun n z => ?_⟩
    refine needs_v ci (noE_n _) w0.1.2.1 (g4 (iEq.mpr ?_)) n
    rw [free_v ci.wf k, i1, z]
    rfl
  · rw [e, if_pos (by decide), if_neg (by decide)] at h
    have h := ag_49 h
    unfold f_Y8_againstOnPaper at h
    rw [if_neg (by decide), if_neg (by decide), if_neg (by decide), if_neg (by decide), if_pos rfl] at h
    obtain ⟨g1, g2, g3⟩ := ag_take h
    obtain ⟨p, hp, hi⟩ := pa_i g1
    rw [pa_v ci.wf k hp hi, Option.getD_some] at g3
    rw [w0.2.1.2.2.1, Option.getD_some] at g2
    exact ⟨p, hp, hi, em_1 g2, em_0 g3⟩
  · rw [e, if_pos (by decide), if_pos (by decide)] at h
    have h := ag_49 h
    unfold f_Y8_againstOnMotion at h
    rw [if_pos rfl] at h
    obtain ⟨g1, g2, g3⟩ := ag_move h
    rw [w0.2.1.2.2.1, Option.getD_some] at g1
    rw [w0.2.1.2.2.1, w0.2.1.2.1, Option.getD_some, Option.getD_some] at g2 g3
    refine ⟨em_0 g1, ?_⟩
    cases m : f_Y6_motion S1 (x + 3) with
    | none =>
      rw [m] at g2
      exact Or.inr ⟨rfl, (tp_i ci (noE_n _) w0.1.2.1).1 (ag_rank g2)⟩
    | some q =>
      rw [m] at g3
      rcases g3 with g3 | g3
      · cases g3
      · obtain ⟨r1, r2⟩ := ag_room g3
        rw [w0.2.1.2.1, Option.getD_some] at r1
        have r1 := iLt.mp r1
        rw [e9] at r1
        refine Or.inl ⟨q, rfl, by omega, fun n => ?_⟩
        have nf := r2 (fun z => mN z n)
        have fv := free_v ci.wf k
        refine Nat.pos_of_ne_zero (fun z => nf (iEq.mpr ?_))
        rw [fv, z, i0]
        rfl
  · rw [e, if_pos (by decide), if_pos (by decide)] at h
    have h := ag_49 h
    have r := ag_rule h
    rw [w0.2.1.2.1, Option.getD_some] at r
    have r := iLt.mp r
    rw [e9] at r
    omega
theorem am.w {p p' : Nat → Nat → Prop} {f f' : Int32 × Cst} (m : am x S T col S1 p f) (hf : f' = f) (hp : ∀ lc ls, p lc ls → p' lc ls) : am x S T col S1 p' f' := by
  obtain ⟨v, S2, T2, c2, e, p, as, en⟩ := m
  exact ⟨v, S2, T2, c2, hf.trans e, fun lc ls A B => hp lc ls (p lc ls A B), as, en⟩
theorem am.z {p : Nat → Nat → Prop} {f : Int32 × Cst} (m : am x S T col S1 p f) {k : Prop} (hk : k) : am x S T col S1 (fun lc ls => ((S1.1 ≤ f.2.1 ∧ f.2.1 ≤ lc) ∧ (S1.2.1 ≤ f.2.2.1 ∧ f.2.2.1 ≤ ls)) ∧ p f.2.1 f.2.2.1 ∧ k) f := by
  obtain ⟨v, S2, T2, c2, e, p, as, en⟩ := m
  rw [e]
  exact ⟨v, S2, T2, c2, rfl, fun lc ls A B => ⟨⟨⟨en.1.1, A⟩, en.1.2, B⟩, p _ _ (Nat.le_refl _) (Nat.le_refl _), hk⟩, as, en⟩
theorem y_perform (a : AS x S T col S1 T1 c1) {act i1 i2 i3 i4 : Int32} (hc : cA S1 T1 x act i1) : am x S T col S1 (fun lc ls => p_Y1_perform S1 x lc ls act i1 i2 i3 i4) (f_Y1_perform S1 x act i1 i2 i3 i4) := by
  have h := a.1
  have w0 := h.ci.wf.w0 h.k1
  have u := QU.rf h
  have ht := tp_c h
  have hti := tp_i h.ci (noE_n _) w0.1.2.1
  have hm := mo_c h (show pl x (x + 3) from Or.inl rfl)
  have pt := y_top h.ci.wf w0.1.2.1
  have vt : vR S1 (f_Y5_top S1 (x + 1)) := fun z e => by
    rcases ht with y | ⟨q, y, k, _⟩
    · rw [y] at e
      cases e
    · rw [y] at e
      cases e
      exact k.1
  unfold p_Y1_perform f_Y1_perform
  rw [w0.2.1.1, w0.2.1.2.1]
  simp only [Option.getD_some, ir_so]
  refine am.w ?_ rfl (fun lc ls h => ⟨w0.1.2.1, pt, h⟩)
  by_cases a1 : act = 1
  · simp only [if_pos a1]
    exact (a.q (y_arrive h i1)).w rfl (fun _ _ p => ⟨w0.1.1, p, trivial⟩)
  simp only [if_neg a1]
  by_cases a2 : act = 2
  · simp only [if_pos a2]
    exact (a.q (y_leave h i1)).w rfl (fun _ _ p => ⟨w0.1.1, p, trivial⟩)
  simp only [if_neg a2]
  by_cases a3 : act = 3
  · simp only [if_pos a3]
    exact a.q (p := iK S1 (x + 37) 1 ∧ True) ⟨⟨w0.1.1, trivial⟩, _, _, rfl, u.hI 4 _ (by omega)⟩
  simp only [if_neg a3]
  by_cases a4 : act = 4
  · simp only [if_pos a4]
    exact (a.q (y_takeChair h i1)).w rfl (fun _ _ p => ⟨w0.1.1, p, trivial⟩)
  simp only [if_neg a4]
  by_cases a5 : act = 5
  · simp only [if_pos a5]
    exact (a.q (y_majority h i1 i2)).w rfl (fun _ _ p => ⟨w0.1.1, p, trivial⟩)
  simp only [if_neg a5]
  by_cases a6 : act = 6
  · simp only [if_pos a6]
    exact a.q (p := iK S1 (x + 37) 1 ∧ True) ⟨⟨w0.1.1, trivial⟩, _, _, rfl, u.hI 5 _ (by omega)⟩
  simp only [if_neg a6]
  by_cases a7 : act = 7
  · simp only [if_pos a7]
    exact (a.q (y_giveFloor h ht i1)).w rfl (fun _ _ p => ⟨w0.1.1, p, trivial⟩)
  simp only [if_neg a7]
  by_cases a8 : act = 8
  · simp only [if_pos a8]
    exact (a.q (y_cedeFloor h)).w rfl (fun _ _ p => ⟨w0.1.1, p, trivial⟩)
  simp only [if_neg a8]
  by_cases a9 : act = 9
  · simp only [if_pos a9]
    exact (a.q (y_speak h ht)).w rfl (fun _ _ p => ⟨p, trivial⟩)
  simp only [if_neg a9]
  by_cases a10 : act = 10
  · simp only [if_pos a10]
    exact ((y_draft a i1).z vt).w rfl (fun _ _ p => ⟨p.1, p.2.1, p.2.2, trivial⟩)
  simp only [if_neg a10]
  by_cases a11 : act = 11
  · simp only [if_pos a11]
    exact (a.q (y_setSpan h hm i1 i2)).w rfl (fun _ _ p => ⟨p, trivial⟩)
  simp only [if_neg a11]
  by_cases a12 : act = 12
  · simp only [if_pos a12]
    exact (a.q (y_addWords h hm i1 i2 i3 i4)).w rfl (fun _ _ p => ⟨p, trivial⟩)
  simp only [if_neg a12]
  by_cases a13 : act = 13
  · simp only [if_pos a13]
    obtain ⟨p, hp, hi, h1, h2, h3⟩ := hc.1 a13
    exact (y_lay a hp hi h1 h2 h3).w rfl (fun _ _ p => ⟨p, trivial⟩)
  simp only [if_neg a13]
  by_cases a14 : act = 14
  · simp only [if_pos a14]
    obtain ⟨p, hp, hi, h1, h2⟩ := hc.2.1 a14
    exact (y_take a hp hi h1 h2).w rfl (fun _ _ p => ⟨p, trivial⟩)
  simp only [if_neg a14]
  by_cases a15 : act = 15
  · simp only [if_pos a15]
    obtain ⟨h1, h2⟩ := hc.2.2.1 a15
    exact (y_bring a i1 h1 h2).w rfl (fun _ _ p => ⟨p, trivial⟩)
  simp only [if_neg a15]
  by_cases a16 : act = 16
  · simp only [if_pos a16]
    exact (a.q (y_support h ht i1)).w rfl (fun _ _ p => ⟨p, trivial⟩)
  simp only [if_neg a16]
  by_cases a17 : act = 17
  · simp only [if_pos a17]
    rcases ht with e | ⟨q, e, k, c⟩
    · rw [e]
      simp only [if_true]
      exact ⟨_, S1, T1, c1, rfl, fun _ _ _ _ => trivial, a, eN.rf _⟩
    · rw [e]
      simp only [reduceCtorEq, if_false, Option.getD_some, ir_so]
      exact (a.q (y_castVote h k c i1 i2)).w rfl (fun _ _ p => ⟨k, p, trivial⟩)
  simp only [if_neg a17]
  by_cases a18 : act = 18
  · simp only [if_pos a18]
    obtain ⟨p1, S2, T2, f1, f2, f3, _⟩ := y_dropA a
    rw [f1]
    have w2 := f2.1.ci.wf.w0 f2.1.k1
    refine ⟨_, S2, T2, c1, rfl, fun _ _ _ _ => ⟨w0.1.2.1, p1, ?_, trivial⟩, f2, f3.1⟩
    rw [w2.2.1.2.1]
    exact ir_so.mpr w2.1.2.1
  simp only [if_neg a18]
  by_cases a19 : act = 19
  · simp only [if_pos a19]
    exact ((y_ruling a (hc.2.2.2 a19)).z vt).w rfl (fun _ _ p => ⟨p.1, p.2.1, p.2.2, trivial⟩)
  simp only [if_neg a19]
  by_cases a20 : act = 20
  · simp only [if_pos a20]
    exact (a.q (y_support h ht i1)).w rfl (fun _ _ p => ⟨p, trivial⟩)
  simp only [if_neg a20]
  by_cases a21 : act = 21
  · simp only [if_pos a21]
    cases e : f_Y5_top S1 (x + 1) with
    | none =>
      simp only [if_true]
      exact ⟨_, S1, T1, c1, rfl, fun _ _ _ _ => trivial, a, eN.rf _⟩
    | some q =>
      simp only [reduceCtorEq, if_false]
      obtain ⟨l, hl⟩ := hti.2 q e
      have mq : q ∈ T1 (x + 1) := by rw [hl]; simp
      rw [e] at vt
      exact ((y_announce a mq).z vt).w rfl (fun _ _ p => ⟨p.1, p.2.1, p.2.2, trivial⟩)
  simp only [if_neg a21]
  by_cases a22 : act = 22
  · simp only [if_pos a22]
    exact (y_endSitting a).w rfl (fun _ _ p => ⟨p, trivial⟩)
  simp only [if_neg a22]
  exact ⟨_, S1, T1, c1, rfl, fun _ _ _ _ => trivial, a, eN.rf _⟩
/-- the entry in the minutes -/
theorem kw_m (h : CI noE S1 T1 F1 c1) (k : iK S1 x 0) (c v : Int32) : iR S1 (grC S1 x 4) 2 ∧ p_Y3_write S1 ((grC S1 x 4).getD 0) c v ∧ ∃ S2, f_Y3_write S1 ((grC S1 x 4).getD 0) c v = (0, S2) ∧ LSt noE T1 F1 (x + 7) S1 c1 S2 c1 := by
  have w := h.wf.w0 k
  obtain ⟨p, S2, f, g, _⟩ := w_write h w.1.2.2.2.2.1 c v
  rw [w.2.1.2.2.2.2.1]
  exact ⟨ir_so.mpr w.1.2.2.2.2.1, p, S2, f, g⟩
theorem en_39 (h : CI noE S1 T1 F1 c1) (k : iK S1 x 0) (a b c d e v : Int32) : ∃ S2 c2 r, b_Y0_enact_39a S1 x a b c d e v = (r, S2) ∧ (∀ lc ls, S2.1 ≤ lc → S2.2.1 ≤ ls → q_Y0_enact_39a S1 x lc ls a b c d e v) ∧ LSt noE T1 F1 (x + 7) S1 c1 S2 c2 := by
  have w := h.wf.w0 k
  obtain ⟨S2, c2, f, p, g, _⟩ := w_open h w.1.2.2.2.2.1
  have k2 := k.n g.2.1
  obtain ⟨i0', p0, S3, f0, g0⟩ := kw_m g.1 k2 0 a
  have k3 := k2.n g0.2.1
  obtain ⟨i1', p1, S4, f1, g1⟩ := kw_m g0.1 k3 1 b
  have k4 := k3.n g1.2.1
  obtain ⟨i2', p2, S5, f2, g2⟩ := kw_m g1.1 k4 2 c
  have k5 := k4.n g2.2.1
  obtain ⟨i3', p3, S6, f3, g3⟩ := kw_m g2.1 k5 3 d
  have k6 := k5.n g3.2.1
  obtain ⟨i4', p4, S7, f4, g4⟩ := kw_m g3.1 k6 4 e
  have k7 := k6.n g4.2.1
  obtain ⟨i5', p5, S8, f5, g5⟩ := kw_m g4.1 k7 5 v
  have k8 := k7.n g5.2.1
  have w8 := g5.1.wf.w0 k8
  obtain ⟨i6', p6, S9, f6, g6⟩ := kw_m g5.1 k8 6 (giC S8 ((grC S8 x 1).getD 0) 1)
  unfold b_Y0_enact_39a q_Y0_enact_39a b_Y0_enact_48a q_Y0_enact_48a b_Y0_enact_57a q_Y0_enact_57a b_Y0_enact_66a q_Y0_enact_66a b_Y0_enact_75a q_Y0_enact_75a b_Y0_enact_85a q_Y0_enact_85a b_Y0_enact_95a q_Y0_enact_95a b_Y0_enact_105a q_Y0_enact_105a b_Y0_enact_121a q_Y0_enact_121a
  rw [w.2.1.2.2.2.2.1, Option.getD_some, f]
  simp only [f0, f1, f2, f3, f4, f5, f6]
  have G := (((((g0.tr g1).tr g2).tr g3).tr g4).tr g5).tr g6
  refine ⟨S9, c2, _, rfl, fun lc ls A B => ⟨ir_so.mpr w.1.2.2.2.2.1, ⟨⟨g.2.1.1.1, Nat.le_trans G.2.1.1.1 A⟩, g.2.1.1.2, Nat.le_trans G.2.1.1.2 B⟩, p _ _ (Nat.le_refl _) (Nat.le_refl _), i0', p0, i1', p1, i2', p2, i3', p3, i4', p4, i5', p5, ?_, i6', p6, trivial⟩, g.tr G⟩
  rw [w8.2.1.2.1]
  exact ir_so.mpr w8.1.2.1
theorem y_enact (a : AS x S T col S1 T1 c1) (act i1 i2 i3 i4 : Int32) : am x S T col S1 (fun lc ls => p_Y0_enact S1 x lc ls act i1 i2 i3 i4) (f_Y0_enact S1 x act i1 i2 i3 i4) := by
  have h := a.1
  have u := (QU.rf h).aI 9 (f_Y8_against S1 x act i1 i2 i3 i4)
  have a2 : AS x S T col (siC S1 x 9 (f_Y8_against S1 x act i1 i2 i3 i4)) T1 c1 := ⟨u.1, a.2.kp h.ci h.k1 u.2.1 (fun _ _ _ => rfl)⟩
  have pg := y_against h.ci.wf h.k1 act i1 i2 i3 i4
  have e9' : giC (siC S1 x 9 (f_Y8_against S1 x act i1 i2 i3 i4)) x 9 = f_Y8_against S1 x act i1 i2 i3 i4 := by rw [gi_si, if_pos ⟨rfl, rfl⟩]
  unfold p_Y0_enact f_Y0_enact
  rw [e9']
  by_cases z : f_Y8_against S1 x act i1 i2 i3 i4 = 0
  · have C := against_c a z
    have hs : ∀ d, pl x d → giC (siC S1 x 9 (f_Y8_against S1 x act i1 i2 i3 i4)) d 0 = giC S1 d 0 := fun d od => u.2.1.2.1 d (od.lt h.ci h.k1).1 (od.lt h.ci h.k1).2
    have hf : fcU (siC S1 x 9 (f_Y8_against S1 x act i1 i2 i3 i4)) x 8 = fcU S1 x 8 := fcU_cg 8 (fun p hp => hs _ (Or.inr ⟨p, hp, rfl⟩))
    have hk : ∀ c q, q ∈ T1 c → giC (siC S1 x 9 (f_Y8_against S1 x act i1 i2 i3 i4)) q 2 = giC S1 q 2 := fun c q m => u.2.1.2.2 q (h.ci.tk c q m).1.1 (h.ci.tk c q m).1.2
    have o3 : pl x (x + 3) := Or.inl rfl
    have C2 : cA (siC S1 x 9 (f_Y8_against S1 x act i1 i2 i3 i4)) T1 x act i1 := by
      refine ⟨fun e => ?_, fun e => ?_, fun e => ?_, C.2.2.2⟩
      · obtain ⟨p, hp, hi, h1, h2, h3⟩ := C.1 e
        refine ⟨p, hp, hi, (hs _ (Or.inr ⟨p, hp, rfl⟩)).trans h1, fun y => h2 ((hs _ o3).symm.trans y), fun n => ?_⟩
        rw [hf]
        exact h3 (nd_sub (fun q m => ⟨m, hk _ q m⟩) n)
      · obtain ⟨p, hp, hi, h1, h2⟩ := C.2.1 e
        exact ⟨p, hp, hi, (hs _ o3).trans h1, fun y => h2 ((hs _ (Or.inr ⟨p, hp, rfl⟩)).symm.trans y)⟩
      · obtain ⟨h1, h2⟩ := C.2.2.1 e
        refine ⟨fun y => h1 ((hs _ o3).symm.trans y), ?_⟩
        have em : f_Y6_motion (siC S1 x 9 (f_Y8_against S1 x act i1 i2 i3 i4)) (x + 3) = f_Y6_motion S1 (x + 3) := by
          cases m : f_Y6_motion S1 (x + 3) with
          | none =>
            by_cases y : giC S1 (x + 3) 0 = 2
            · obtain ⟨m1, m2⟩ := mot_s h.ci h.k1 o3 (noE_n _) y
              refine (mot_s a2.1.ci a2.1.k1 o3 (noE_n _) ((hs _ o3).trans y)).1 ?_
              cases t : T1 (x + 3 + 1) with
              | nil => rfl
              | cons r l =>
                rw [m2 r l t] at m
                cases m
            · exact mot_n a2.1.ci a2.1.k1 o3 (fun w => y ((hs _ o3).symm.trans w))
          | some q =>
            obtain ⟨y, l, hl⟩ := mo_i h.ci h.k1 o3 m
            exact (mot_s a2.1.ci a2.1.k1 o3 (noE_n _) ((hs _ o3).trans y)).2 q l hl
        rw [em, hf]
        rcases h2 with ⟨q, e1, e2, e3⟩ | e1
        · obtain ⟨_, l, hl⟩ := mo_i h.ci h.k1 o3 e1
          refine Or.inl ⟨q, e1, e2, fun n => e3 ?_⟩
          rw [hk (x + 3 + 1) q (by rw [hl]; exact List.mem_cons_self ..)] at n
          exact n
        · exact Or.inr e1
    obtain ⟨v, S2, T2, c2, e, p, as, en⟩ := y_perform a2 (i2 := i2) (i3 := i3) (i4 := i4) C2
    obtain ⟨S3, c3, r, r1, r2, r3⟩ := en_39 as.1.ci as.1.k1 act i1 i2 i3 i4 v
    simp only [if_pos z]
    unfold b_Y0_enact_36a q_Y0_enact_36a
    rw [e]
    refine ⟨r, S3, T2, c3, r1, fun lc ls A B => ⟨pg, ⟨⟨en.1.1, Nat.le_trans r3.2.1.1.1 A⟩, en.1.2, Nat.le_trans r3.2.1.1.2 B⟩, p _ _ (Nat.le_refl _) (Nat.le_refl _), r2 lc ls A B⟩, as.led (Or.inl rfl) r3, u.2.2.n.tr (en.tr r3.2.1)⟩
  · simp only [if_neg z]
    exact ⟨_, _, T1, c1, rfl, fun _ _ _ _ => ⟨pg, trivial⟩, a2, u.2.2.n⟩
end
