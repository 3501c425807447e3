/-! ===== the laid ones follow: the class, in full ===== -/
section
variable {wF : Prop × (Nat → Int32) × Int32 × (Nat → Int32)} {x : Nat} {S S1 S2 S3 S4 : Cst} {T T1 T2 T3 : Nat → List Nat} {F F1 : List Nat} {col c1 c2 c3 : Nat → Nat}
/-- the place of a row -/
def plc (x : Nat) : Nat → Nat
  | 0 => x
  | 1 => x + 3
  | p + 2 => x + 13 + 3 * p
theorem plc_o {g : Nat} (h : 1 ≤ g ∧ g < 10) : pl x (plc x g) ∧ rP x g = plc x g + 1 := by
  match g, h with
  | 1, _ => exact ⟨Or.inl rfl, rfl⟩
  | p + 2, h => exact ⟨Or.inr ⟨p, by omega, rfl⟩, rfl⟩
/-- a motion lies alone at a row -/
def lM (S : Cst) (T : Nat → List Nat) (x g q : Nat) : Prop := (1 ≤ g ∧ g < 10) ∧ giC S (plc x g) 0 = 2 ∧ ∃ l, T (rP x g) = q :: l
theorem lM.mem {g q : Nat} (h : lM S1 T1 x g q) : q ∈ T1 (rP x g) := by
  obtain ⟨-, -, l, e⟩ := h
  rw [e]
  exact List.mem_cons_self ..
theorem mo_v (ci : CI noE S1 T1 [] c1) (kx : iK S1 x 0) {g : Nat} (hg : 1 ≤ g ∧ g < 10) : (∃ q, f_Y6_motion S1 (plc x g) = some q ∧ lM S1 T1 x g q) ∨ (f_Y6_motion S1 (plc x g) = none ∧ ∀ q, ¬ lM S1 T1 x g q) := by
  obtain ⟨o, e⟩ := plc_o (x := x) hg
  by_cases z : giC S1 (plc x g) 0 = 2
  · obtain ⟨m1, m2⟩ := mot_s ci kx o (noE_n _) z
    rw [← e] at m1 m2
    cases hT : T1 (rP x g) with
    | nil =>
      refine Or.inr ⟨m1 hT, fun q l => ?_⟩
      obtain ⟨-, -, l', e'⟩ := l
      rw [hT] at e'
      cases e'
    | cons q l => exact Or.inl ⟨q, m2 q l hT, hg, z, l, hT⟩
  · exact Or.inr ⟨mot_n ci kx o z, fun q l => z l.2.1⟩
/-- whether it follows, in the class; what becomes of it -/
def fcC (S : Cst) (mq z : Nat) (a : Int32) : Prop := giC S z 10 ≠ 0 ∧ f_Y4_amends S z ≠ 0 ∧ giC S z 1 = giC S mq 0 ∧ a < giC S z 9
def cC (S S' : Cst) (mq z : Nat) (a b w : Int32) : Prop :=
  (fcC S mq z a → giC S z 8 < b → giC S' z 8 = giC S z 8 ∧ giC S' z 9 = giC S z 9 ∧ giC S' z 11 = 1) ∧
  (fcC S mq z a → ¬ giC S z 8 < b → giC S' z 8 = giC S z 8 + (w - (b - a)) ∧ giC S' z 9 = giC S z 9 + (w - (b - a)) ∧ giC S' z 11 = giC S z 11) ∧
  (¬ fcC S mq z a → giC S' z 8 = giC S z 8 ∧ giC S' z 9 = giC S z 9 ∧ giC S' z 11 = giC S z 11)
theorem cC.l {mq z : Nat} {a b w : Int32} (h : cC S2 S4 mq z a b w) (e : ∀ k, giC S2 z k = giC S1 z k) (em : giC S2 mq 0 = giC S1 mq 0) : cC S1 S4 mq z a b w := by
  unfold cC fcC f_Y4_amends b_Y4_amends_16 b_Y4_amends_21 at h ⊢
  rw [e, e, e, e, e, e, em] at h
  exact h
theorem cC.r {mq z : Nat} {a b w : Int32} (h : cC S1 S2 mq z a b w) (e : ∀ k, giC S4 z k = giC S2 z k) : cC S1 S4 mq z a b w := by
  unfold cC at h ⊢
  rw [e, e, e]
  exact h
def k89 (k : Nat) : Prop := k ≠ 8 ∧ k ≠ 9 ∧ k ≠ 11
theorem aml_s {mq q g : Nat} (a b w i : Int32) (u : QU noE x S T [] col T1 [] c1 S1 S2) (hg : 1 ≤ g ∧ g < 10) : ∃ S3, b_Y7_amend_69a S2 x (some mq) (some q) a b w i (f_Y6_motion S2 (plc x g)) = Sum.inr (S3, some mq, some q, a, b, w, i + 1) ∧ QU noE x S T [] col T1 [] c1 S1 S3 ∧ (∀ z k, k89 k ∨ ¬ lM S2 T1 x g z → giC S3 z k = giC S2 z k) ∧ (∀ z k, grC S3 z k = grC S2 z k) ∧ (∀ z, lnC S3 z = lnC S2 z) ∧ (∀ z c, iK S3 z c → iK S2 z c) ∧ ∀ z, lM S2 T1 x g z → cC S2 S3 mq z a b w := by
  unfold b_Y7_amend_69a b_Y7_amend_114
  have same : ∀ z, (lM S2 T1 x g z → ¬ fcC S2 mq z a) → lM S2 T1 x g z → cC S2 S2 mq z a b w := fun z h l => ⟨fun y => absurd y (h l), fun y => absurd y (h l), fun _ => ⟨rfl, rfl, rfl⟩⟩
  rcases mo_v u.1.ci u.1.k1 hg with ⟨z, e, l⟩ | ⟨e, n⟩
  rotate_left
  · rw [e, if_pos rfl]
    exact ⟨S2, rfl, u, fun _ _ _ => rfl, fun _ _ => rfl, fun _ => rfl, fun _ _ h => h, fun z l => absurd l (n z)⟩
  have one : ∀ z', lM S2 T1 x g z' → z' = z := fun z' l' => by
    obtain ⟨-, -, L, e1⟩ := l
    obtain ⟨-, -, L', e2⟩ := l'
    rw [e1] at e2
    exact (List.cons.inj e2).1.symm
  have no : ¬ fcC S2 mq z a → ∀ z', lM S2 T1 x g z' → cC S2 S2 mq z' a b w := fun h z' l' => same z' (fun _ => by rw [one z' l']; exact h) l'
  rw [e, if_neg (by simp), Option.getD_some, Option.getD_some]
  by_cases y1 : giC S2 z 10 = 0
  · rw [if_pos y1]
    exact ⟨S2, rfl, u, fun _ _ _ => rfl, fun _ _ => rfl, fun _ => rfl, fun _ _ h => h, no (fun f => f.1 y1)⟩
  rw [if_neg y1]
  by_cases y2 : f_Y4_amends S2 z = 0
  · rw [if_pos y2]
    exact ⟨S2, rfl, u, fun _ _ _ => rfl, fun _ _ => rfl, fun _ => rfl, fun _ _ h => h, no (fun f => f.2.1 y2)⟩
  rw [if_neg y2]
  by_cases y3 : giC S2 z 1 = giC S2 mq 0
  rotate_left
  · rw [if_neg y3]
    exact ⟨S2, rfl, u, fun _ _ _ => rfl, fun _ _ => rfl, fun _ => rfl, fun _ _ h => h, no (fun f => y3 f.2.2.1)⟩
  rw [if_pos y3]
  have kz : iK S2 z 3 := (u.1.ci.tk _ z l.mem).1
  have cz : c1 z = x := by rw [(u.1.ci.tk _ z l.mem).2]; exact u.1.oc (rP_own hg.2).1
  unfold f_Y4_follow b_Y4_follow_53
  by_cases y4 : a < giC S2 z 9
  rotate_left
  · rw [if_neg y4]
    exact ⟨S2, rfl, u, fun _ _ _ => rfl, fun _ _ => rfl, fun _ => rfl, fun _ _ h => h, no (fun f => y4 f.2.2.2)⟩
  rw [if_pos y4]
  have ok : fcC S2 mq z a := ⟨y1, y2, y3, y4⟩
  by_cases y5 : giC S2 z 8 < b
  · rw [if_pos y5]
    refine ⟨_, rfl, u.mI kz cz 11 1 (by decide) (fun _ => bz1), fun z' k h => ?_, fun z' k => gr_si .., fun z' => ln_si .., fun z' c h => ik_si.mp h, fun z' l' => ?_⟩
    · rw [gi_si, if_neg (fun f => h.elim (fun k8 => k8.2.2 f.2) (fun n => n (by rw [f.1]; exact l)))]
    · rw [one z' l']
      refine ⟨fun _ _ => ⟨gi_o (by decide), gi_o (by decide), by rw [gi_si, if_pos ⟨rfl, rfl⟩]⟩, fun _ y => absurd y5 y, fun y => absurd ok y⟩
  · rw [if_neg y5]
    refine ⟨_, rfl, (u.mI kz cz 8 _ (by decide) (by omega)).mI (ik_si.mpr kz) cz 9 _ (by decide) (by omega), fun z' k h => ?_, fun z' k => by rw [gr_si, gr_si], fun z' => by rw [ln_si, ln_si], fun z' c h => ik_si.mp (ik_si.mp h), fun z' l' => ?_⟩
    · rw [gi_si, if_neg (fun f => h.elim (fun k8 => k8.2.1 f.2) (fun n => n (by rw [f.1]; exact l))), gi_si, if_neg (fun f => h.elim (fun k8 => k8.1 f.2) (fun n => n (by rw [f.1]; exact l)))]
    · rw [one z' l']
      refine ⟨fun _ y => absurd y y5, fun _ _ => ⟨?_, ?_, ?_⟩, fun y => absurd ok y⟩
      · rw [gi_si, if_neg (fun f => absurd f.2 (by decide)), gi_si, if_pos ⟨rfl, rfl⟩]
      · rw [gi_si, if_pos ⟨rfl, rfl⟩, gi_si, if_neg (fun f => absurd f.2 (by decide))]
      · rw [gi_si, if_neg (fun f => absurd f.2 (by decide)), gi_si, if_neg (fun f => absurd f.2 (by decide))]
theorem aml_v {mq q : Nat} (a b w : Int32) : ∀ (n : Nat) (S2 : Cst) (i : Int32) (gi : Nat), QU noE x S T [] col T1 [] c1 S1 S2 → (gi : Int) = i.toInt + 2 → -1 ≤ i.toInt → i.toInt ≤ 8 → 8 - i.toInt < n → ∃ S3, lp_Y7_amend_37 x n S2 (some mq) (some q) a b w i = (0, S3) ∧ QU noE x S T [] col T1 [] c1 S1 S3 ∧ (∀ z k, k89 k ∨ (∀ g, gi ≤ g → ¬ lM S2 T1 x g z) → giC S3 z k = giC S2 z k) ∧ (∀ z k, grC S3 z k = grC S2 z k) ∧ (∀ z, lnC S3 z = lnC S2 z) ∧ (∀ z c, iK S3 z c → iK S2 z c) ∧ ∀ g z, gi ≤ g → lM S2 T1 x g z → cC S2 S3 mq z a b w := by
  intro n
  induction n with
  | zero => intro S2 i gi u hg h1 h2 h3; omega
  | succ n ih =>
    intro S2 i gi u hg h1 h2 h3
    rw [lp_Y7_amend_37]
    unfold st_Y7_amend_37
    have w0 := u.w0
    by_cases c : 8 ≤ i
    · have c' := iLe.mp c
      rw [e8] at c'
      rw [if_pos c]
      exact ⟨S2, rfl, u, fun _ _ _ => rfl, fun _ _ => rfl, fun _ => rfl, fun _ _ h => h, fun g z hg' l => by have := l.1; omega⟩
    · have c' := mt iLe.mpr c
      rw [e8] at c'
      have e := iAdd (x := i) (y := 1) (by rw [i1]; omega) (by rw [i1]; omega)
      rw [i1] at e
      have hgi : 1 ≤ gi ∧ gi < 10 := by omega
      have nx : ∃ S3, (match b_Y7_amend_69a S2 x (some mq) (some q) a b w i (f_Y6_motion S2 (plc x gi)) with | Sum.inl r => r | Sum.inr q' => lp_Y7_amend_37 x n q'.1 q'.2.1 q'.2.2.1 q'.2.2.2.1 q'.2.2.2.2.1 q'.2.2.2.2.2.1 q'.2.2.2.2.2.2) = (0, S3) ∧ QU noE x S T [] col T1 [] c1 S1 S3 ∧ (∀ z k, k89 k ∨ (∀ g, gi ≤ g → ¬ lM S2 T1 x g z) → giC S3 z k = giC S2 z k) ∧ (∀ z k, grC S3 z k = grC S2 z k) ∧ (∀ z, lnC S3 z = lnC S2 z) ∧ (∀ z c, iK S3 z c → iK S2 z c) ∧ ∀ g z, gi ≤ g → lM S2 T1 x g z → cC S2 S3 mq z a b w := by
        obtain ⟨B, f1, u1, p1, p2, p3, p4, p5⟩ := aml_s (mq := mq) (q := q) a b w i u hgi
        rw [f1]
        obtain ⟨S3, f2, u2, q1, q2, q3, q4, q5⟩ := ih B (i + 1) (gi + 1) u1 (by omega) (by omega) (by omega) (by omega)
        have lm : ∀ g z, lM B T1 x g z ↔ lM S2 T1 x g z := fun g z => by
          unfold lM
          rw [p1 (plc x g) 0 (Or.inl ⟨by decide, by decide, by decide⟩)]
        have dis : ∀ g z, lM S2 T1 x g z → lM S2 T1 x gi z → g = gi := fun g z l l' => rP_inj (x := x) (u.1.ci.td _ _ z l.mem l'.mem)
        refine ⟨S3, f2, u2, fun z k h => ?_, fun z k => (q2 z k).trans (p2 z k), fun z => (q3 z).trans (p3 z), fun z c h => p4 z c (q4 z c h), fun g z hg' l => ?_⟩
        · rw [q1 z k (h.imp id (fun y g hg' l => y g (by omega) ((lm g z).mp l))), p1 z k (h.imp id (fun y => y gi (Nat.le_refl _)))]
        · by_cases y : g = gi
          · subst y
            refine (p5 z l).r (fun k => ?_)
            exact q1 z k (Or.inr (fun g' hg2 l2 => by have := dis g' z ((lm g' z).mp l2) l; omega))
          · have ez : ∀ k, giC B z k = giC S2 z k := fun k => p1 z k (Or.inr (fun l' => y (dis g z l l')))
            exact (q5 g z (by omega) ((lm g z).mpr l)).l ez (p1 mq 0 (Or.inl ⟨by decide, by decide, by decide⟩))
      rw [if_neg c]
      by_cases d : 0 ≤ i
      · have d' := iLe.mp d
        rw [i0] at d'
        have hn := iNat d'
        have dk := dk_ix u.1.ci.wf u.1.k1 (i := i.toNatClampNeg) (by omega)
        have eg : plc x gi = x + 13 + 3 * i.toNatClampNeg := by
          obtain ⟨p, rfl⟩ : ∃ p, gi = p + 2 := ⟨gi - 2, by omega⟩
          show x + 13 + 3 * p = _
          omega
        rw [if_pos d, dk.1, Option.getD_some]
        rw [eg] at nx
        exact nx
      · have d' := mt iLe.mpr d
        rw [i0] at d'
        have eg : plc x gi = x + 3 := by
          have : gi = 1 := by omega
          subst this
          rfl
        rw [if_neg d, w0.2.1.2.2.1, Option.getD_some]
        rw [eg] at nx
        exact nx
/-- the class's change, its text and those that follow -/
theorem amd_v (h : Sst noE x S T [] col S1 T1 [] c1) {mq q : Nat} (km : iK S1 mq 3) (cm : c1 mq = x) (kq : iK S1 q 3) (nq : mq ≠ q) (ha : 0 ≤ (giC S1 q 8).toInt ∧ (giC S1 q 8).toInt ≤ (giC S1 q 9).toInt ∧ (giC S1 q 9).toInt ≤ (giC S1 (mq + 1) 1).toInt) (hw : (giC S1 (mq + 1) 1).toInt ≤ 400) (hn : 0 ≤ (giC S1 (q + 1) 1).toInt ∧ (giC S1 (q + 1) 1).toInt ≤ 400) (hq : (giC S1 (mq + 1) 1).toInt + (giC S1 (q + 1) 1).toInt - ((giC S1 q 9).toInt - (giC S1 q 8).toInt) ≤ 400) : ∃ S2 S3, f_Y7_amend S1 x (some mq) (some q) = (0, S3) ∧ QU noE x S T [] col T1 [] c1 S1 S3 ∧
    ((giC S2 (mq + 1) 1).toInt = (giC S1 (mq + 1) 1).toInt + (giC S1 (q + 1) 1).toInt - ((giC S1 q 9).toInt - (giC S1 q 8).toInt) ∧ (∀ z k, z ≠ mq + 2 → (z ≠ mq + 1 ∨ k ≠ 1) → giC S2 z k = giC S1 z k) ∧ (∀ i : Nat, (i : Int) < (giC S1 q 8).toInt → giC S2 (mq + 2) i = giC S1 (mq + 2) i) ∧ (∀ i : Nat, (i : Int) < (giC S1 (q + 1) 1).toInt → giC S2 (mq + 2) ((giC S1 q 8).toNatClampNeg + i) = giC S1 (q + 2) i) ∧ ∀ i p : Nat, (giC S1 q 9).toInt ≤ i → (i : Int) < (giC S1 (mq + 1) 1).toInt → (p : Int) = i + ((giC S1 (q + 1) 1).toInt - ((giC S1 q 9).toInt - (giC S1 q 8).toInt)) → giC S2 (mq + 2) p = giC S1 (mq + 2) i) ∧
    ((∀ z k, k89 k ∨ (∀ g, ¬ lM S1 T1 x g z) → giC S3 z k = giC S2 z k) ∧ (∀ z k, grC S3 z k = grC S1 z k) ∧ (∀ z, lnC S3 z = lnC S1 z) ∧ (∀ z c, iK S3 z c → iK S1 z c) ∧ ∀ g z, lM S1 T1 x g z → cC S1 S3 mq z (giC S1 q 8) (giC S1 q 9) (giC S1 (q + 1) 1)) := by
  have wm := h.ci.wf.w3 km
  have wq := h.ci.wf.w3 kq
  have u := QU.rf h
  have em : (-1 : Int32).toInt = -1 := by decide
  have nt : mq + 1 ≠ q + 1 := by omega
  obtain ⟨S2, f1, u2, r1, r2, r3, r4, r5, r6, r7, r8⟩ := rep_v h wm.1.1 (u.mc km cm 1 (by omega)) (u.mc km cm 2 (by omega)) wq.1.1 nt (a := giC S1 q 8) (b := giC S1 q 9) ha hw hn hq
  have r2' : ∀ z k, z ≠ mq + 2 → (z ≠ mq + 1 ∨ k ≠ 1) → giC S2 z k = giC S1 z k := fun z k h1 h2 => r2 z k h1 h2
  obtain ⟨S3, f2, u3, q1, q2, q3, q4, q5⟩ := aml_v (mq := mq) (q := q) (giC S1 q 8) (giC S1 q 9) (giC S1 (q + 1) 1) 100000 S2 (-1) 1 u2 (by rw [em]; rfl) (by rw [em]; omega) (by rw [em]; omega) (by rw [em]; omega)
  have m1 : ∀ q', iK S1 q' 3 → ∀ k, giC S2 q' k = giC S1 q' k := fun q' k j => r2' q' j (ik_ne k (h.ci.wf.w6 wm.1.1).1.1 (by decide)) (Or.inl (ik_ne k wm.1.1 (by decide)))
  have lm : ∀ g z, lM S2 T1 x g z ↔ lM S1 T1 x g z := fun g z => by
    unfold lM
    by_cases hg : 1 ≤ g ∧ g < 10
    · have k5 := pl.lt h.ci h.k1 (plc_o (x := x) hg).1
      rw [r2' (plc x g) 0 (ik_ne k5 (h.ci.wf.w6 wm.1.1).1.1 (by decide)) (Or.inr (by decide))]
    · exact ⟨fun y => absurd y.1 hg, fun y => absurd y.1 hg⟩
  refine ⟨S2, S3, ?_, u3, ⟨r1, r2', r6, r7, r8⟩, fun z k hz => q1 z k (hz.imp id (fun y g _ l => y g ((lm g z).mp l))), fun z k => (q2 z k).trans (r3 z k), fun z => (q3 z).trans (r4 z), fun z c k => r5 z c (q4 z c k), fun g z l => ?_⟩
  · unfold f_Y7_amend b_Y7_amend_34a
    simp only [Option.getD_some]
    rw [wm.2.1.1, wq.2.1.1]
    simp only [Option.getD_some]
    rw [f1]
    exact f2
  · have kz : iK S1 z 3 := (h.ci.tk _ z l.mem).1
    exact (q5 g z l.1.1 ((lm g z).mpr l)).l (m1 z kz) (m1 mq km 0)
end
