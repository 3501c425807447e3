/-! ===== the deeds: motions go ===== -/
section
variable {wF : Prop × (Nat → Int32) × Int32 × (Nat → Int32)} {x : Nat} {S S1 S2 S3 : Cst} {T T1 T2 : Nat → List Nat} {col c1 : Nat → Nat} {H H2 H3 : HS} {N : Int} {D : Nat → Prop}
/-- what is still there lies where it lay -/
def rB (T1 T2 : Nat → List Nat) (x : Nat) (H H2 : HS) : Prop := ∀ g i, hL H2 g i → hL H g i ∧ hM H2 g i = hM H g i ∧ (hT H2 g ↔ hT H g) ∧ (T2 (rP x g)).getD i 0 = (T1 (rP x g)).getD i 0
theorem nR.sub (n : nR N S1 T1 x H) (w : wR S1 T1 x H) (sub : rB T1 T2 x H H2) (s : cH H2 H) (hm : mQ T1 x S1 S2) (h8 : giC S2 x 8 = giC S1 x 8) (e30 : H2.1 30 = H.1 30) : nR N S2 T2 x H2 := by
  obtain ⟨n1, n2, n3, n4⟩ := n
  have ee : ∀ g i, hL H2 g i → ∀ k, giC S2 ((T2 (rP x g)).getD i 0) k = giC S1 ((T1 (rP x g)).getD i 0) k := fun g i l k => by
    obtain ⟨l1, -, -, e⟩ := sub g i l
    rw [e]
    exact hm g l1.1 _ (gD_mem (w.mem l1)) 0 (by omega) k
  refine ⟨by rw [h8]; exact n1, fun g i l t => ?_, fun g i g' i' l t l' t' k0 e => ?_, fun j l t d k => ?_⟩
  · obtain ⟨l1, m1, t1, -⟩ := sub g i l
    rw [ee g i l, h8, m1, s.2 14 (by omega) (by omega), s.2 26 (by omega) (by omega)]
    exact n2 g i l1 (t1.mp t)
  · obtain ⟨l1, m1, t1, -⟩ := sub g i l
    obtain ⟨l2, m2, t2, -⟩ := sub g' i' l'
    rw [ee g i l, ee g' i' l'] at e
    rw [ee g i l] at k0
    exact n3 g i g' i' l1 (t1.mp t) l2 (t2.mp t') k0 e
  · obtain ⟨l1, m1, t1, -⟩ := sub j 0 l
    rw [m1, s.2 25 (by omega) (by omega)] at d
    rw [m1, s.2 14 (by omega) (by omega)] at k
    obtain ⟨q1, q2, q3, q4⟩ := n4 j l1 (mt t1.mpr t) d k
    rw [ee j 0 l, h8, m1, s.2 23 (by omega) (by omega), e30]
    refine ⟨q1, q2, fun g i lg tg => ?_, fun g lg tg => ?_⟩
    · obtain ⟨l2, m2, t2, -⟩ := sub g i lg
      rw [ee g i lg, m2, s.2 22 (by omega) (by omega)]
      exact q3 g i l2 (t2.mp tg)
    · obtain ⟨l2, m2, t2, -⟩ := sub g 0 lg
      rw [m2, s.2 22 (by omega) (by omega)]
      exact q4 g l2 (mt t2.mpr tg)
theorem oR.sub (o : oR S1 T1 x H) (w : wR S1 T1 x H) (sub : rB T1 T2 x H H2) (s : cH H2 H) (hm : mQ T1 x S1 S2) (hd : (H2.1 35 = 0 → giC S2 (x + 3) 0 = 0) ∧ (H2.1 35 ≠ 0 → giC S2 (x + 3) 0 = if H2.1 36 = 0 then 2 else 3)) (hp : ∀ p, p < 8 → (H2.2 34 p = 0 → giC S2 (x + 13 + 3 * p) 0 = 0) ∧ (H2.2 34 p ≠ 0 → giC S2 (x + 13 + 3 * p) 0 = if H2.2 37 p = 0 then (if H2.2 27 (hM H2 (p + 2) 0) = 0 then 2 else 1) else 3)) : oR S2 T2 x H2 := by
  refine ⟨hd, hp, fun g hg l t => ?_, fun g hg l t => ?_, fun g hg l t => ?_⟩
  · obtain ⟨l1, m1, t1, e1⟩ := sub g 0 l
    rw [e1, m1, s.2 25 (by omega) (by omega)]
    exact (hm g hg _ (gD_mem (w.mem l1)) 0 (by omega) 10).trans (o.2.2.1 g hg l1 (mt t1.mpr t))
  · obtain ⟨l1, m1, t1, e1⟩ := sub g 0 l
    rw [m1, s.2 25 (by omega) (by omega), s.2 26 (by omega) (by omega)]
    exact o.2.2.2.1 g hg l1 (mt t1.mpr t)
  · obtain ⟨l1, m1, t1, e1⟩ := sub g 0 l
    rw [m1, s.2 25 (by omega) (by omega), s.2 27 (by omega) (by omega)]
    exact o.2.2.2.2 g hg l1 (mt t1.mpr t)
theorem gF.mQ (g : gF S1 S2) (ci : CI noE S1 T1 [] c1) : mQ T1 x S1 S2 := fun _ _ q m => (g.x (D := fun _ => False)).mo4 ci.wf (ci.tk _ q m).1 (fun _ _ z => z)
/-- the top goes -/
theorem go_v (a : AS x S T col S1 T1 c1) (r : RR wF N S1 T1 x H) (h : RA H) (z : ¬ H.1 6 = 0) : ∃ S2 T2, f_Y0_dropTop S1 x (x + 1) = (0, S2) ∧ AS x S T col S2 T2 c1 ∧ RR wF N S2 T2 x (f_X11_goes H).2 ∧ gF S1 S2 ∧ T2 (x + 1) = (T1 (x + 1)).dropLast ∧ ∀ c, c ≠ x + 1 → c ≠ x → T2 c = T1 c := by
  obtain ⟨-, S2, T2, f1, f2, f3, e1, e2⟩ := y_dropA a
  refine ⟨S2, T2, f1, f2, ?_, f3, e1, e2⟩
  obtain ⟨hr, w, o, j, ⟨aa, sv⟩, n⟩ := r
  rw [goes_e]
  have p := pend_pos h z
  have b := h.2.1
  have e6 := iSub (x := H.1 6) (y := 1) (by rw [i1]; omega) (by rw [i1]; omega)
  rw [i1] at e6
  have len := rr_n w
  generalize (H.2 31 (H.1 6 - 1).toNatClampNeg).toNatClampNeg = t
  have s : cH (sI (sA H 13 t 0) 6 (H.1 6 - 1)) H := ⟨rfl, fun k h1 h2 => if_neg (by omega)⟩
  have g := f3.x (D := fun _ => False)
  have hm : mQ T1 x S1 S2 := f3.mQ a.ci
  have nF : ∀ q, ¬ (fun _ : Nat => False) q := fun _ z => z
  have hN1 : ∀ g, hN (sI (sA H 13 t 0) 6 (H.1 6 - 1)) (g + 1) = hN H (g + 1) := fun g => by
    match g with
    | 0 => rfl
    | p + 1 => rfl
  have hMs : ∀ g i, hM (sI (sA H 13 t 0) 6 (H.1 6 - 1)) g i = hM H g i := fun g i => by
    match g with
    | 0 => rfl
    | 1 => rfl
    | p + 2 => rfl
  have hTs : ∀ g, hT (sI (sA H 13 t 0) 6 (H.1 6 - 1)) g ↔ hT H g := fun g => by
    match g with
    | 0 => exact Iff.rfl
    | 1 => exact Iff.rfl
    | p + 2 => exact Iff.rfl
  have hN0 : hN (sI (sA H 13 t 0) 6 (H.1 6 - 1)) 0 = (H.1 6).toInt - 1 := e6
  have e1' : T2 (rP x 0) = (T1 (rP x 0)).dropLast := e1
  have eg : ∀ g, g + 1 < 10 → T2 (rP x (g + 1)) = T1 (rP x (g + 1)) := fun g hg => e2 _ (fun y => by have := rP_inj (x := x) (g := g + 1) (g' := 0) y; omega) (rP_own hg).2
  have sub : rB T1 T2 x H (sI (sA H 13 t 0) 6 (H.1 6 - 1)) := fun g i l => by
    match g with
    | 0 =>
      have l2 := l.2
      rw [hN0] at l2
      refine ⟨⟨by omega, by show (i : Int) < (H.1 6).toInt; omega⟩, hMs 0 i, hTs 0, ?_⟩
      rw [e1']
      exact gD_drop (by rw [List.length_dropLast]; show i < (T1 (x + 1)).length - 1; omega)
    | g + 1 =>
      refine ⟨⟨l.1, by rw [← hN1]; exact l.2⟩, hMs _ i, hTs _, by rw [eg g l.1]⟩
  refine ⟨hr.gx g a.ci a.k1 (nF (x + 37)) (nF (x + 38)) (nF (x + 39)) (fun k hk => ?_) ⟨rfl, rfl⟩, w.gx s (fun g' hg => ?_) hm, o.sub w sub s hm ?_ (fun p hp => ?_), j.gx g a.ci a.k1 (fun _ _ => ⟨not_false, not_false⟩) rfl rfl rfl rfl, ⟨aa.gx g a.ci a.k1 (nF x) (nF (x + 11)) (nF (x + 12)) rfl rfl rfl (Int.le_refl _) rfl, ⟨sv.1.gx g a.ci.wf (fun _ _ _ _ => not_false) (fun q k => ?_), sv.2⟩⟩, n.sub w sub s hm (g.2.1 x a.k1.1 (by rw [a.k1.2]; decide) (nF x) 8) rfl⟩
  · match k with
    | 0 => rfl
    | 1 => rfl
    | 2 => rfl
    | 3 => rfl
    | 4 => rfl
    | 5 => rfl
    | k + 6 => omega
  · match g' with
    | 0 =>
      rw [e1', hN0, List.length_dropLast]
      refine ⟨by show (((T1 (x + 1)).length - 1 : Nat) : Int) = _; omega, fun i hi => ⟨0, i, by omega, by omega, gD_drop (by rw [List.length_dropLast]; exact hi), hMs 0 i⟩⟩
    | g' + 1 =>
      rw [eg g' hg, hN1]
      exact ⟨(w _ hg).1, fun i hi => ⟨g' + 1, i, hg, hi, rfl, hMs _ i⟩⟩
  · have k5 := a.k5
    rw [g.2.1 _ k5.1 (by rw [k5.2]; decide) not_false 0]
    exact o.1
  · have k5 := (dk_ix a.ci.wf a.k1 hp).2
    rw [g.2.1 _ k5.1 (by rw [k5.2]; decide) not_false 0, hMs]
    exact o.2.1 p hp
  · exact f3.ik k
theorem ds_18 (a : AS x S T col S1 T1 c1) (r : RR wF N S1 T1 x H) (h : HA H) (i b c d : Int32) (z : ¬ H.1 6 = 0) : DS wF N x S T col (f_Y1_perform S1 x 18 i b c d) (f_X11_does H 18 i b c d) := by
  obtain ⟨S2, T2, f1, f2, f3, -, -, -⟩ := go_v a r h.1.ra z
  have e1 : f_Y1_perform S1 x 18 i b c d = (giC S2 ((grC S2 x 1).getD 0) 1, S2) := by
    unfold f_Y1_perform b_Y1_perform_268a
    rw [a.g1, Option.getD_some, f1]
    rfl
  have e2 : f_X11_does H 18 i b c d = ((f_X11_goes H).2.1 6, (f_X11_goes H).2) := rfl
  rw [e1, e2]
  refine ⟨S2, T2, c1, ?_, f2.1, f3⟩
  rw [f2.g1, Option.getD_some, rr_z f2 f3.2.1]
end
