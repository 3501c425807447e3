/-! ===== an act, in both ===== -/
section
variable {wF : Prop × (Nat → Int32) × Int32 × (Nat → Int32)} {x : Nat} {S S1 S2 S3 S4 : Cst} {T T1 T2 T3 : Nat → List Nat} {F F1 : List Nat} {col c1 c2 c3 : Nat → Nat} {H H2 G R : HS} {N N2 M M2 : Int} {z : (Nat → Int32) × Int32 × (Nat → Int32)}
/-- nothing known of the reason kept -/
theorem RR.lo (r : RR wF N S T x H) (w : Int32) : RR (False, wF.2) N S T x (sI H 10 w) := by
  obtain ⟨a, b, c, d, ⟨⟨e1, e2⟩, s⟩, n⟩ := r
  exact ⟨a, b, c, d, ⟨⟨⟨e1.1, fun f => f.elim⟩, e2⟩, s⟩, n⟩
theorem RR.lo0 (r : RR wF N S T x H) : RR (False, wF.2) N S T x H := by
  obtain ⟨a, b, c, d, ⟨⟨e1, e2⟩, s⟩, n⟩ := r
  exact ⟨a, b, c, d, ⟨⟨⟨e1.1, fun f => f.elim⟩, e2⟩, s⟩, n⟩
theorem RR.hi (r : RR (False, z) N S T x H) (e : giC S x 9 = H.1 10) : RR (True, z) N S T x H := by
  obtain ⟨a, b, c, d, ⟨⟨e1, e2⟩, s⟩, n⟩ := r
  exact ⟨a, b, c, d, ⟨⟨⟨e1.1, fun _ => e⟩, e2⟩, s⟩, n⟩
/-- the reason kept, in both -/
theorem RR.w9 (a : AS x S T col S1 T1 c1) (r : RR wF N S1 T1 x H) (v : Int32) : AS x S T col (siC S1 x 9 v) T1 c1 ∧ RR (True, wF.2) N (siC S1 x 9 v) T1 x (sI H 10 v) := by
  have u := (QU.rf a.1).aI 9 v
  have G : gX (fun z => z = x) S1 (siC S1 x 9 v) := gX.si S1 x 9 v
  have r0 := r.lo v
  have gx : ∀ k, k ≠ 9 → giC (siC S1 x 9 v) x k = giC S1 x k := fun k n => by rw [gi_si, if_neg (fun y => n y.2)]
  refine ⟨⟨u.1, a.2.kp a.ci a.k1 u.2.1 (fun _ _ _ => rfl)⟩, RR.hi (r0.fr a.ci a.k1 G rfl ⟨⟨rfl, rfl, rfl, rfl, rfl⟩, fun _ _ _ => rfl⟩ (fun q k j hj y => (mo_x a.ci a.k1 k hj).1 y) (fun d o y => ik_ne (pl.lt a.ci a.k1 o) a.k1 (by decide) y) (fun l hl => ⟨fun y => ?_, fun y => ?_⟩) (gx 8 (by decide)) (r0.1.gx G a.ci a.k1 (fun y => by omega) (fun y => by omega) (fun y => by omega) (fun _ _ => rfl) ⟨rfl, rfl⟩) ?_ ⟨rfl, rfl, rfl, rfl⟩) (by rw [gi_si, if_pos ⟨rfl, rfl⟩]; rfl)⟩
  · rcases hl with rfl | rfl <;> omega
  · exact ik_ne (zl_k a.ci a.k1 hl).2 a.k1 (by decide) y
  · obtain ⟨⟨e1, e2⟩, e3, e4, e5, e6⟩ := r0.2.2.2.2.1.1
    refine ⟨⟨(gx 7 (by decide)).trans e1, fun f => f.elim⟩, e3, fun y => ?_, fun y => ?_, fun i hi => ?_⟩
    · rw [gi_si, if_neg (fun y => by omega)]
      exact e4 y
    · rw [gi_si, if_neg (fun y => by omega)]
      exact e5 y
    · rw [gi_si, if_neg (fun y => by omega)]
      exact e6 i hi
/-- the reason does not hang on the one kept -/
theorem rz_10 (a : AS x S T col S1 T1 c1) (r : RR wF N S1 T1 x H) (h : HA H) (w act i b c d : Int32) (h1 : 1 ≤ act.toInt) (h2 : act.toInt ≤ 22) : rz (sI H 10 w) act i b c d = rz H act i b c d := by
  rw [← rs_all a r h act i b c d h1 h2, ← rs_all a (r.lo w) (ha_10 h w) act i b c d h1 h2]
theorem rz_0 {act i b c d : Int32} (e : rz H act i b c d = 0) : (f_X11_reason H act i b c d).1 = 0 ∧ H.1 7 ≠ 600 := by
  unfold rz at e
  by_cases z : (f_X11_reason H act i b c d).1 = 0
  · rw [if_pos z] at e
    refine ⟨z, fun y => ?_⟩
    rw [if_pos y] at e
    exact absurd e (by decide)
  · rw [if_neg z] at e
    exact absurd e z
theorem rz_n (H : HS) (act i b c d : Int32) : 0 ≤ (rz H act i b c d).toInt := by
  have n := nf_X11_reason H act i b c d
  unfold NN at n
  have n := iLe.mp n
  rw [i0] at n
  unfold rz
  split
  · split <;> decide
  · exact n
/-- piles are the state's -/
theorem T_eq (a : CI noE S1 T1 F c1) (b : CI noE S1 T2 F1 c2) {P : Nat} (k : iK S1 P 4) : T1 P = T2 P := by
  obtain ⟨a1, a2, a3⟩ := a.tp P (noE_n _) k
  obtain ⟨b1, b2, b3⟩ := b.tp P (noE_n _) k
  have l : (T1 P).length = (T2 P).length := by omega
  refine List.ext_getElem l (fun i h1 h2 => ?_)
  have e1 := a3 i h1
  have e2 := b3 i h2
  rw [e1] at e2
  have e := Option.some.inj e2
  rw [List.getD_eq_getElem?_getD, List.getD_eq_getElem?_getD, List.getElem?_eq_getElem h1, List.getElem?_eq_getElem h2] at e
  exact e
theorem rP_k (wf : wfS S1) (k : iK S1 x 0) {g : Nat} (hg : g < 10) : iK S1 (rP x g) 4 := by
  have w0 := wf.w0 k
  match g, hg with
  | 0, _ => exact w0.1.2.1
  | 1, _ => exact (wf.w5 w0.1.2.2.1).1
  | p + 2, hg => exact (wf.w5 (dk_ix wf k (show p < 8 by omega)).2).1
theorem RR.tP (r : RR wF N S1 T1 x H) (e : ∀ g, g < 10 → T2 (rP x g) = T1 (rP x g)) : RR wF N S1 T2 x H := by
  obtain ⟨a, b, ⟨c1, c2, c3, c4, c5⟩, d, f, n1, n2, n3, n4⟩ := r
  refine ⟨a, fun g hg => ?_, ⟨c1, c2, fun g hg l t => ?_, c4, c5⟩, d, f, n1, fun g i l t => ?_, fun g i g' i' l t l' t' => ?_, fun j l t y k => ?_⟩
  · rw [e g hg]
    exact b g hg
  · rw [e g hg]
    exact c3 g hg l t
  · rw [e g l.1]
    exact n2 g i l t
  · rw [e g l.1, e g' l'.1]
    exact n3 g i g' i' l t l' t'
  · obtain ⟨p1, p2, p3, p4⟩ := n4 j l t y k
    rw [e j l.1]
    refine ⟨p1, p2, fun g i l' t' => ?_, p4⟩
    rw [e g l'.1]
    exact p3 g i l' t'
/-- numbers beyond the act's are 0 -/
def nz (act i b c d : Int32) : Prop := (f_X12_numbers act ≤ 0 → i = 0) ∧ (f_X12_numbers act ≤ 1 → b = 0) ∧ (f_X12_numbers act ≤ 2 → c = 0) ∧ (f_X12_numbers act ≤ 3 → d = 0)
theorem n6 {y : Int32} (hy : 0 ≤ y.toInt ∧ y.toInt < 600) {j : Int32} (hj : 0 ≤ j.toInt ∧ j.toInt ≤ 5) : (6 * y).toNatClampNeg = 6 * y.toNatClampNeg ∧ ((6 * y) + j).toNatClampNeg = 6 * y.toNatClampNeg + j.toNatClampNeg := by
  have e6 : (6 : Int32).toInt = 6 := by decide
  have m := iMul (x := 6) (y := y) (n := 6 * y.toInt) (by rw [e6]) (by omega) (by omega)
  have a := iAdd (x := 6 * y) (y := j) (by rw [m]; omega) (by rw [m]; omega)
  rw [m] at a
  have k := iNat (x := (6 * y) + j) (by omega)
  have k0 := iNat (x := 6 * y) (by omega)
  have k1 := iNat hy.1
  have k2 := iNat hj.1
  exact ⟨by omega, by omega⟩
theorem a58_v (h7 : 0 ≤ (G.1 7).toInt ∧ (G.1 7).toInt < 600) {act i b c d : Int32} (z : nz act i b c d) (x6 v : Int32) : b_X11_act_a58 G act i b c d x6 v = (v, miH G act i b c d v) := by
  obtain ⟨z1, z2, z3, z4⟩ := z
  have e0 := (n6 h7 (j := 0) (by decide)).1
  have e1 := (n6 h7 (j := 1) (by decide)).2
  have e2 := (n6 h7 (j := 2) (by decide)).2
  have e3 := (n6 h7 (j := 3) (by decide)).2
  have e4 := (n6 h7 (j := 4) (by decide)).2
  have e5 := (n6 h7 (j := 5) (by decide)).2
  have m1 : (1 : Int32).toNatClampNeg = 1 := by decide
  have m2 : (2 : Int32).toNatClampNeg = 2 := by decide
  have m3 : (3 : Int32).toNatClampNeg = 3 := by decide
  have m4 : (4 : Int32).toNatClampNeg = 4 := by decide
  have m5 : (5 : Int32).toNatClampNeg = 5 := by decide
  rw [m1] at e1
  rw [m2] at e2
  rw [m3] at e3
  rw [m4] at e4
  rw [m5] at e5
  have l4 : ∀ (P : HS) (y0 y1 : Int32), b_X11_act_142 P act i b c d x6 v (6 * G.1 7) (f_X12_numbers act) y0 y1 = b_X11_act_163 (sA P 40 y1.toNatClampNeg y0) act i b c d x6 v (6 * G.1 7) (f_X12_numbers act) d ((6 * G.1 7) + 4) := fun P y0 y1 => by
    unfold b_X11_act_142
    by_cases q : f_X12_numbers act ≤ 3
    · rw [if_pos q, z4 q]
    · rw [if_neg q]
  have l3 : ∀ (P : HS) (y0 y1 : Int32), b_X11_act_121 P act i b c d x6 v (6 * G.1 7) (f_X12_numbers act) y0 y1 = b_X11_act_142 (sA P 40 y1.toNatClampNeg y0) act i b c d x6 v (6 * G.1 7) (f_X12_numbers act) c ((6 * G.1 7) + 3) := fun P y0 y1 => by
    unfold b_X11_act_121
    by_cases q : f_X12_numbers act ≤ 2
    · rw [if_pos q, z3 q]
    · rw [if_neg q]
  have l2 : ∀ (P : HS) (y0 y1 : Int32), b_X11_act_101 P act i b c d x6 v (6 * G.1 7) (f_X12_numbers act) y0 y1 = b_X11_act_121 (sA P 40 y1.toNatClampNeg y0) act i b c d x6 v (6 * G.1 7) (f_X12_numbers act) b ((6 * G.1 7) + 2) := fun P y0 y1 => by
    unfold b_X11_act_101
    by_cases q : f_X12_numbers act ≤ 1
    · rw [if_pos q, z2 q]
    · rw [if_neg q]
  have l1 : b_X11_act_a58 G act i b c d x6 v = b_X11_act_101 (sA G 40 (6 * (G.1 7)).toNatClampNeg act) act i b c d x6 v (6 * G.1 7) (f_X12_numbers act) i ((6 * G.1 7) + 1) := by
    unfold b_X11_act_a58
    by_cases q : f_X12_numbers act ≤ 0
    · rw [if_pos q, z1 q]
    · rw [if_neg q]
  rw [l1, l2, l3, l4]
  unfold b_X11_act_163
  rw [e0, e1, e2, e3, e4, e5]
  rfl
/-- an act, in both -/
theorem act_sim (a : AS x S T col S1 T1 c1) (r : RR wF N S1 T1 x H) (h : HA H) (eN : N = (H.1 7).toInt) {act i b c d : Int32} (h1 : 1 ≤ act.toInt) (h2 : act.toInt ≤ 22) (z : nz act i b c d) : ∃ S3 T3 c3, f_Y0_enact S1 x act i b c d = ((f_X11_act H act i b c d).1, S3) ∧ AS x S T col S3 T3 c3 ∧ (rz H act i b c d ≠ 0 → f_X11_act H act i b c d = (-(rz H act i b c d), sI H 10 (rz H act i b c d)) ∧ S3 = siC S1 x 9 (rz H act i b c d) ∧ T3 = T1 ∧ RR (True, wF.2) N S3 T3 x (sI H 10 (rz H act i b c d))) ∧ (rz H act i b c d = 0 → ∃ v D, f_X11_act H act i b c d = (v, miH D act i b c d v) ∧ (D.1 7 = H.1 7 ∧ (H.1 7).toInt < 600 ∧ D.1 0 = H.1 0 ∧ D.2 40 = H.2 40) ∧ RR (True, upd wF.2.1 (H.1 7).toNatClampNeg (D.1 6), wF.2.2.1, (miH D act i b c d v).2 40) (N + 1) S3 T3 x (miH D act i b c d v)) := by
  have e1 := rs_all a r h act i b c d h1 h2
  have hn := rz_n H act i b c d
  have e9 : giC (siC S1 x 9 (rz H act i b c d)) x 9 = rz H act i b c d := by rw [gi_si, if_pos ⟨rfl, rfl⟩]
  obtain ⟨a2, r2⟩ := r.w9 a (rz H act i b c d)
  by_cases q : rz H act i b c d = 0
  · obtain ⟨q1, q2⟩ := rz_0 q
    have q2' := mt iEq.mpr q2
    have e6 : (600 : Int32).toInt = 600 := by decide
    rw [e6] at q2'
    have h7 := h.2.1
    have q3 : (f_X11_reason (sI H 10 0) act i b c d).1 = 0 := (rz_0 ((rz_10 a r h 0 act i b c d h1 h2).trans q)).1
    rw [q] at a2 r2
    obtain ⟨S2, T2, c2, f2, s2, r3⟩ := ds_all a2 r2 (ha_10 h 0) eN (by show (H.1 7).toInt < 600; omega) act i b c d h1 h2 q3
    have D7 := (does_i h.1 h7.1 (by omega) ⟨h.2.2.1, by have := h.2.2.2; omega⟩ 0 act i b c d q1).2.2.1
    have D7 : (f_X11_does (sI H 10 0) act i b c d).2.1 7 = H.1 7 := D7
    have ea : f_X11_act H act i b c d = b_X11_act_a58 (f_X11_does (sI H 10 0) act i b c d).2 act i b c d 0 (f_X11_does (sI H 10 0) act i b c d).1 := by
      unfold f_X11_act b_X11_act_a11 b_X11_act_32
      rw [sf_X11_reason, q1, if_pos rfl, if_neg q2, if_pos (by decide)]
    rw [a58_v (by rw [D7]; omega) z] at ea
    have ec : f_Y0_enact S1 x act i b c d = b_Y0_enact_39a S2 x act i b c d (f_X11_does (sI H 10 0) act i b c d).1 := by
      unfold f_Y0_enact b_Y0_enact_36a
      rw [e1, e9, if_pos q, q, f2]
    generalize (f_X11_does (sI H 10 0) act i b c d).2 = D at *
    generalize (f_X11_does (sI H 10 0) act i b c d).1 = v at *
    obtain ⟨S3, c3, f3, g3, -, r4, -⟩ := min_v s2 r3 (by rw [D7]; omega) act i b c d v
    obtain ⟨v', S4, T4, c4, f4, -, a4, -⟩ := y_enact a act i b c d
    obtain ⟨-, rfl⟩ := Prod.mk.inj ((ec.trans f3).symm.trans f4)
    have k1 : D.1 0 = H.1 0 := r3.2.2.2.2.1.2.2.1.trans r2.2.2.2.2.1.2.2.1.symm
    have k2 : D.2 40 = H.2 40 := r3.2.2.2.2.1.2.2.2.trans r2.2.2.2.2.1.2.2.2.symm
    refine ⟨S3, T4, c4, ?_, a4, fun y => absurd q y, fun _ => ⟨v, D, ea, ⟨D7, by omega, k1, k2⟩, ?_⟩⟩
    · rw [ec, f3, ea]
    · rw [← D7]
      exact RR.tP r4 (fun g hg => T_eq a4.ci g3.1 (rP_k a4.ci.wf a4.k1 hg))
  · have q' := mt iEq.mpr q
    rw [i0] at q'
    have ea : f_X11_act H act i b c d = (-(rz H act i b c d), sI H 10 (rz H act i b c d)) := by
      have l : ∀ w, rz H act i b c d = w → b_X11_act_32 H act i b c d w = (-w, sI H 10 w) := fun w e => by
        unfold b_X11_act_32
        rw [if_neg (fun y => by have := iLe.mp y; rw [i0, ← e] at this; omega)]
      unfold f_X11_act b_X11_act_a11
      rw [sf_X11_reason]
      by_cases z1 : (f_X11_reason H act i b c d).1 = 0
      · rw [if_pos z1]
        by_cases z2 : H.1 7 = 600
        · have e : rz H act i b c d = 10 := by
            unfold rz
            rw [if_pos z1, if_pos z2]
          rw [if_pos z2, l 10 e, e]
        · exfalso
          apply q
          unfold rz
          rw [if_pos z1, if_neg z2]
      · have e : rz H act i b c d = (f_X11_reason H act i b c d).1 := by
          unfold rz
          rw [if_neg z1]
        rw [if_neg z1, l _ e, e]
    refine ⟨_, T1, c1, ?_, a2, fun _ => ⟨ea, rfl, rfl, r2⟩, fun y => absurd y q⟩
    rw [ea]
    unfold f_Y0_enact
    rw [e1, e9, if_neg q]
end
