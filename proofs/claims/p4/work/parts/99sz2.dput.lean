/-! ===== COMMIT, POSTPONE ===== -/
section
variable {wF : Prop × (Nat → Int32) × Int32 × (Nat → Int32)} {x : Nat} {S S1 S2 S3 S4 : Cst} {T T1 T2 T3 : Nat → List Nat} {F F1 : List Nat} {col c1 c2 c3 : Nat → Nat} {H H2 G R : HS} {N M M2 : Int} {v w3 w4 f25 f27 m : Int32} {p : Nat}
theorem car4_w (x1 x2 : Int32) : ∀ (n : Nat) (S : HS), 1 ≤ (S.1 6).toInt → (S.1 6).toInt ≤ 9 → (S.1 6).toInt < n + 1 → fpl S p → ∃ S' pp, lp_X11_carried_257 n S x1 x2 = b_X11_carried_a283 S' x1 x2 (S'.2 31 0) pp ∧ pp.toInt = p ∧ (∀ j, j ≠ 6 → S'.1 j = S.1 j) ∧ ∀ k, k ≠ 13 → S'.2 k = S.2 k := by
  intro n
  induction n with
  | zero => intro S h1 h9 h2; omega
  | succ n ih =>
    intro S h1 h9 h2 f
    rw [lp_X11_carried_257]
    unfold st_X11_carried_257 b_X11_carried_a269
    by_cases c : S.1 6 ≤ 1
    · rw [if_pos c]
      obtain ⟨a, b⟩ := free_W f
      rw [b, zn0]
      exact ⟨S, _, rfl, a, fun _ _ => rfl, fun _ _ => rfl⟩
    · rw [if_neg c]
      have c := mt iLe.mpr c
      rw [i1] at c
      have e6 := iSub (x := S.1 6) (y := 1) (by rw [i1]; omega) (by rw [i1]; omega)
      rw [i1] at e6
      have ge := goes_e S
      generalize (f_X11_goes S).2 = G at ge ⊢
      have g6 : G.1 6 = S.1 6 - 1 := by rw [ge]; rfl
      have g34 : G.2 34 = S.2 34 := by rw [ge]; rfl
      obtain ⟨S', pp, e, a, b, d⟩ := ih G (by rw [g6]; omega) (by rw [g6]; omega) (by rw [g6]; omega) (by unfold fpl; rw [g34]; exact f)
      refine ⟨S', pp, e, a, fun j y => ?_, fun k y => ?_⟩
      · rw [b j y, ge]
        exact if_neg y
      · rw [d k y, ge]
        exact if_neg y
/-- what a motion that is put upon a place alone leaves -/
def uR (H R : HS) (m : Int32) (p : Nat) (w3 w4 f25 f27 : Int32) : Prop :=
  (R.1 6 = 0 ∧ R.1 30 = H.1 30 + 1 ∧ ∀ j, j ≠ 6 → j ≠ 30 → R.1 j = H.1 j) ∧
  (R.2 33 = upd (H.2 33) (9 * p) m ∧ R.2 34 = upd (H.2 34) p 1 ∧ R.2 37 = upd (H.2 37) p 0) ∧
  (∀ k, k < 13 ∨ k = 14 ∨ k = 19 ∨ k = 20 ∨ k = 21 ∨ k = 23 ∨ k = 26 ∨ k = 28 ∨ k = 31 ∨ k = 32 ∨ k = 38 ∨ k = 40 ∨ k = 41 → R.2 k = H.2 k) ∧
  (∀ k i, 14 ≤ k → k ≤ 27 → i ≠ m.toNatClampNeg → R.2 k i = H.2 k i) ∧
  (R.2 15 m.toNatClampNeg = w3 ∧ R.2 16 m.toNatClampNeg = w4 ∧ R.2 17 m.toNatClampNeg = 0 ∧ R.2 18 m.toNatClampNeg = 0 ∧ R.2 24 m.toNatClampNeg = 0 ∧ R.2 25 m.toNatClampNeg = f25 ∧ R.2 27 m.toNatClampNeg = f27 ∧ R.2 22 m.toNatClampNeg = H.1 30 + 1) ∧
  (∀ s, s < 200 → R.2 29 (200 * m.toNatClampNeg + s) = 2) ∧ ∀ n i, n ≠ m.toNatClampNeg → i < 200 → R.2 29 (200 * n + i) = H.2 29 (200 * n + i)
/-- as far as the anew -/
theorem uR_0 (hm : 0 ≤ m.toInt ∧ m.toInt < 90) {S' : HS} (h1 : ∀ j, j ≠ 6 → S'.1 j = H.1 j) (h2 : ∀ k, k ≠ 13 → S'.2 k = H.2 k) : ∃ Z, (f_X11_anew (sI (sA (sA (sA S' 33 (9 * p) m) 34 p 1) 37 p (vp_nar .boolean 0)) 6 0) m).2 = Z ∧ uR H Z m p (H.2 15 m.toNatClampNeg) (H.2 16 m.toNatClampNeg) (H.2 25 m.toNatClampNeg) (H.2 27 m.toNatClampNeg) := by
  obtain ⟨D, hD⟩ : ∃ D, D = sI (sA (sA (sA S' 33 (9 * p) m) 34 p 1) 37 p (vp_nar .boolean 0)) 6 0 := ⟨_, rfl⟩
  rw [← hD]
  have d6 : D.1 6 = 0 := by rw [hD]; rfl
  have d1 : ∀ j, j ≠ 6 → D.1 j = H.1 j := fun j y => by
    rw [hD]
    show (if j = 6 then _ else S'.1 j) = _
    rw [if_neg y]
    exact h1 j y
  have d33 : D.2 33 = upd (H.2 33) (9 * p) m := by
    rw [hD, ← h2 33 (by decide)]
    rfl
  have d34 : D.2 34 = upd (H.2 34) p 1 := by
    rw [hD, ← h2 34 (by decide)]
    rfl
  have d37 : D.2 37 = upd (H.2 37) p 0 := by
    rw [hD, ← h2 37 (by decide)]
    rfl
  have d2 : ∀ k, k ≠ 13 → k ≠ 33 → k ≠ 34 → k ≠ 37 → D.2 k = H.2 k := fun k a b c d => by
    rw [hD]
    show (if k = 37 then _ else if k = 34 then _ else if k = 33 then _ else S'.2 k) = _
    rw [if_neg d, if_neg c, if_neg b]
    exact h2 k a
  clear hD
  obtain ⟨u, q1, q2, q3⟩ := anew_vv hm D
  rw [zn0] at q2 q3
  refine ⟨_, rfl, ?_⟩
  rw [q1]
  have o : ∀ k, k ≠ 29 → k ≠ 22 → k ≠ 17 → k ≠ 18 → k ≠ 24 → (sR (aN D m) 29 u).2 k = D.2 k := fun k a b c d e => by
    show (if k = 29 then u else if k = 24 then _ else if k = 18 then _ else if k = 17 then _ else if k = 22 then _ else D.2 k) = _
    rw [if_neg a, if_neg e, if_neg d, if_neg c, if_neg b]
  refine ⟨⟨?_, ?_, fun j a b => ?_⟩, ⟨?_, ?_, ?_⟩, fun k hk => ?_, fun k i a b n => ?_, ⟨?_, ?_, ?_, ?_, ?_, ?_, ?_, ?_⟩, fun s hs => ?_, fun n i hn hi => ?_⟩
  · exact d6
  · show D.1 30 + 1 = _
    rw [d1 30 (by decide)]
  · show (if j = 30 then _ else D.1 j) = _
    rw [if_neg b]
    exact d1 j a
  · rw [o 33 (by decide) (by decide) (by decide) (by decide) (by decide)]
    exact d33
  · rw [o 34 (by decide) (by decide) (by decide) (by decide) (by decide)]
    exact d34
  · rw [o 37 (by decide) (by decide) (by decide) (by decide) (by decide)]
    exact d37
  · rw [o k (by omega) (by omega) (by omega) (by omega) (by omega)]
    exact d2 k (by omega) (by omega) (by omega) (by omega)
  · have e : (sR (aN D m) 29 u).2 k i = D.2 k i := by
      by_cases y : k = 17 ∨ k = 18 ∨ k = 22 ∨ k = 24
      · rcases y with rfl | rfl | rfl | rfl <;> exact if_neg n
      · rw [o k (by omega) (by omega) (by omega) (by omega) (by omega)]
    rw [e, d2 k (by omega) (by omega) (by omega) (by omega)]
  · rw [o 15 (by decide) (by decide) (by decide) (by decide) (by decide), d2 15 (by decide) (by decide) (by decide) (by decide)]
  · rw [o 16 (by decide) (by decide) (by decide) (by decide) (by decide), d2 16 (by decide) (by decide) (by decide) (by decide)]
  · exact if_pos rfl
  · exact if_pos rfl
  · exact if_pos rfl
  · rw [o 25 (by decide) (by decide) (by decide) (by decide) (by decide), d2 25 (by decide) (by decide) (by decide) (by decide)]
  · rw [o 27 (by decide) (by decide) (by decide) (by decide) (by decide), d2 27 (by decide) (by decide) (by decide) (by decide)]
  · rw [← d1 30 (by decide)]
    exact if_pos rfl
  · exact q2 s (Nat.zero_le _) hs
  · have e : (sR (aN D m) 29 u).2 29 (200 * n + i) = (aN D m).2 29 (200 * n + i) := q3 _ (fun s _ hs y => hn (by omega))
    rw [e]
    show D.2 29 (200 * n + i) = _
    rw [d2 29 (by decide) (by decide) (by decide) (by decide)]
/-- flags -/
theorem uR.s {Z : HS} (h : uR H Z m p w3 w4 f25 f27) (a b : Int32) : uR H (sA (sA Z 25 m.toNatClampNeg a) 27 m.toNatClampNeg b) m p w3 w4 a b := by
  obtain ⟨a1, a2, a3, a4, ⟨b1, b2, b3, b4, b5, b6, b7, b8⟩, a5, a6⟩ := h
  have o : ∀ k, k ≠ 25 → k ≠ 27 → (sA (sA Z 25 m.toNatClampNeg a) 27 m.toNatClampNeg b).2 k = Z.2 k := fun k y z => by
    show (if k = 27 then _ else if k = 25 then _ else Z.2 k) = _
    rw [if_neg z, if_neg y]
  refine ⟨a1, ⟨a2.1, a2.2.1, a2.2.2⟩, fun k hk => (o k (by omega) (by omega)).trans (a3 k hk), fun k i y z n => ?_, ⟨b1, b2, b3, b4, b5, if_pos rfl, if_pos rfl, b8⟩, a5, a6⟩
  by_cases y1 : k = 25
  · subst y1
    exact (if_neg n).trans (a4 25 i y z n)
  · by_cases y2 : k = 27
    · subst y2
      exact (if_neg n).trans (a4 27 i y z n)
    · rw [o k y1 y2]
      exact a4 k i y z n
theorem uR.t {Z : HS} (h : uR H Z m p w3 w4 f25 f27) (a b : Int32) : uR H (sA (sA Z 15 m.toNatClampNeg a) 16 m.toNatClampNeg b) m p a b f25 f27 := by
  obtain ⟨a1, a2, a3, a4, ⟨b1, b2, b3, b4, b5, b6, b7, b8⟩, a5, a6⟩ := h
  have o : ∀ k, k ≠ 15 → k ≠ 16 → (sA (sA Z 15 m.toNatClampNeg a) 16 m.toNatClampNeg b).2 k = Z.2 k := fun k y z => by
    show (if k = 16 then _ else if k = 15 then _ else Z.2 k) = _
    rw [if_neg z, if_neg y]
  refine ⟨a1, ⟨a2.1, a2.2.1, a2.2.2⟩, fun k hk => (o k (by omega) (by omega)).trans (a3 k hk), fun k i y z n => ?_, ⟨if_pos rfl, if_pos rfl, b3, b4, b5, b6, b7, b8⟩, a5, a6⟩
  by_cases y1 : k = 15
  · subst y1
    exact (if_neg n).trans (a4 15 i y z n)
  · by_cases y2 : k = 16
    · subst y2
      exact (if_neg n).trans (a4 16 i y z n)
    · rw [o k y1 y2]
      exact a4 k i y z n
/-- the reference, whole -/
theorem car4_v (h : HI M H) (z6 : 1 ≤ (H.1 6).toInt) (f : fpl H p) (x1 : Int32) : (∃ R, (lp_X11_carried_257 100000 H x1 4).2 = R ∧ uR H R (H.2 31 0) p (-1) (-1) 0 1) ∧ ∃ R, (lp_X11_carried_257 100000 H x1 5).2 = R ∧ uR H R (H.2 31 0) p (H.2 15 (hM H 0 0)) (H.2 16 (hM H 0 0)) 1 0 := by
  have b6 := h.ra.2.1
  have l0 : hL H 0 0 := ⟨by omega, by show ((0 : Nat) : Int) < (H.1 6).toInt; omega⟩
  have w := h.1.2.1 0 0 l0
  have w : 0 ≤ (H.2 31 0).toInt ∧ (H.2 31 0).toInt < 90 := ⟨w.1, w.2.1⟩
  have p8 := f.1
  have main : ∀ x2 : Int32, ∃ Z, (lp_X11_carried_257 100000 H x1 x2).2 = (b_X11_carried_a322 Z x1 x2 (H.2 31 0) (Int32.ofNat p)).2 ∧ uR H Z (H.2 31 0) p (H.2 15 (hM H 0 0)) (H.2 16 (hM H 0 0)) (H.2 25 (hM H 0 0)) (H.2 27 (hM H 0 0)) := fun x2 => by
    obtain ⟨S', pp, e, ep, a, b⟩ := car4_w x1 x2 100000 H z6 b6.2 (by omega) f
    have kp := iNat (x := pp) (by omega)
    have e9 : (9 : Int32).toInt = 9 := by decide
    have e9p := iMul (x := 9) (y := pp) (n := 9 * pp.toInt) (by rw [e9]) (by omega) (by omega)
    have k9 := iNat (x := 9 * pp) (by omega)
    have epp : pp.toNatClampNeg = p := by omega
    have e9n : (9 * pp).toNatClampNeg = 9 * p := by omega
    obtain ⟨Z, e2, hz⟩ := uR_0 (p := p) w a b
    rw [e, b 31 (by decide)]
    unfold b_X11_carried_a283
    rw [epp, e9n, e2]
    exact ⟨Z, rfl, hz⟩
  refine ⟨?_, ?_⟩
  · obtain ⟨Z, e, hz⟩ := main 4
    rw [e]
    exact ⟨_, rfl, (hz.s 0 1).t (-1) (-1)⟩
  · obtain ⟨Z, e, hz⟩ := main 5
    rw [e]
    exact ⟨_, rfl, hz.s 1 0⟩
/-- the class's half: one motion, kept as a text, upon a place -/
theorem put_B (a : AS x S T col S1 T1 c1) (r : RR wF N S1 T1 x H) (h : HI M H) (bN : N ≤ 1000000) (fp : fpl H p) (z6 : 1 ≤ (H.1 6).toInt) {q0 : Nat} {l : List Nat} (tT : T1 (x + 1) = q0 :: l) (f3 : gF S1 S2) (f4 : T2 (x + 1) = []) (f5 : ∀ c, c ≠ x + 1 → c ≠ x → T2 c = T1 c) (g2 : Sst noE x S T [] col S3 T2 [q0] c1) (G3 : gX (dM q0) S2 S3) (n3 : S3.1 = S2.1) (kq : iK S3 q0 3) (u : uR H R (H.2 31 0) p w3 w4 f25 f27) (nb : (giC S3 q0 2 = 1 ∧ giC S3 q0 3 = w3 ∧ giC S3 q0 4 = w4 ∧ giC S3 q0 5 = 0 ∧ giC S3 q0 6 = 0) ∧ (giC S3 q0 7 = 0 ∧ giC S3 q0 8 = 0 ∧ giC S3 q0 9 = 0 ∧ giC S3 q0 11 = 0) ∧ giC S3 q0 10 = f25 ∧ (∀ s, s < 200 → giC S3 (q0 + 3) s = 0) ∧ (giC S3 q0 14).toInt = 0 ∧ ∀ j i, (j = 1 ∨ j = 2) → giC S3 (q0 + j) i = giC S2 (q0 + j) i) (hv : v = if f27 = 0 then 2 else 1) (hf : f27 ≠ 0 → f25 = 0) (hc2 : HC M2 R) : ∃ S4 T4, f_Y6_hold S3 (x + 13 + 3 * p) v (some q0) = (0, S4) ∧ Sst noE x S T [] col S4 T4 [] c1 ∧ RR wF (N + 1) S4 T4 x R := by
  obtain ⟨hp, z0, -⟩ := fp
  have o : pl x (x + 13 + 3 * p) := Or.inr ⟨p, hp, rfl⟩
  have b6 := h.ra.2.1
  have e0p : hN H (p + 2) = (H.2 34 p).toInt := rfl
  have eT0 : T1 (x + 13 + 3 * p + 1) = [] := by
    have l0 := (r.2.1 (p + 2) (by omega)).1
    rw [e0p, z0, i0, rP_p] at l0
    exact List.length_eq_zero_iff.mp (by omega)
  have eT2 : T2 (x + 13 + 3 * p + 1) = [] := by rw [f5 _ (by omega) (by omega)]; exact eT0
  obtain ⟨-, S4, t1, t2, t3, t4⟩ := y_hold g2 v o (noE_n _) (by rw [eT2]; decide)
  have n4 := n1_hold g2 v o (noE_n _) (by rw [eT2]; decide) t1
  have n2 : S2.1 = S1.1 := f3.2.2.2
  have kq4 : iK S4 q0 3 := kq.n t3.1
  have L0 : hL H 0 0 := ⟨by omega, by show ((0 : Nat) : Int) < (H.1 6).toInt; omega⟩
  have em : (H.2 31 0).toNatClampNeg = hM H 0 0 := rfl
  have eq0 : (T1 (rP x 0)).getD 0 0 = q0 := by
    show (T1 (x + 1)).getD 0 0 = q0
    rw [tT]
    rfl
  have kq1 : iK S1 q0 3 := a.m3 (c := x + 1) (by rw [tT]; exact List.mem_cons_self ..)
  have ci3 : CI noE S3 T2 [q0] c1 := g2.ci
  obtain ⟨⟨u6, u30, u1⟩, ⟨u33, u34, u37⟩, ur, uo, ⟨u15, u16, u17, u18, u24, u25, u27, u22⟩, u29, u29o⟩ := u
  rw [em] at uo u15 u16 u17 u18 u24 u25 u27 u22 u29 u29o
  have cq : ∀ j, j < 4 → ∀ i, giC S4 (q0 + j) i = giC S3 (q0 + j) i := t3.mo4 g2.ci.wf kq (fun j hj y => by
    obtain ⟨-, m3, -, -, -, -, m13⟩ := mo_x t2.ci t2.k1 kq4 hj
    exact m13 p hp y)
  have c0 : ∀ i, giC S4 q0 i = giC S3 q0 i := cq 0 (by omega)
  have G : gX (D5 x q0) S1 S4 := (f3.x (D := D5 x q0)).tr ((G3.mo (fun z y => Or.inl y)).tr (t3.mo (fun z y => Or.inr (by rw [y]; exact o))))
  obtain ⟨⟨K1, K2, K3, K4⟩, K8, Kc⟩ := frD (H2 := R) r a.ci a.k1 G t2.ci.wf (Or.inl kq4) (fun z k => Or.inr (ik_b (ik_b (ik_b k t3.1 n4) G3.1 n3) f3.1 n2)) (fun _ => by
    rw [c0, nb.2.2.2.2.1, vCn_0s 200 (fun s hs => (cq 3 (by omega) s).trans (nb.2.2.2.1 s hs))]
    rfl) (fun k h1 h2 => u1 k h2 (by omega)) (u1 39 (by decide) (by decide)) ⟨ur 11 (by omega), ur 12 (by omega), ur 38 (by omega), ur 40 (by omega), ur 41 (by omega)⟩
  have st : ∀ d, pl x d → giC S4 d 0 = if d = x + 13 + 3 * p then v else giC S1 d 0 := fun d od => by
    have k1 := od.lt a.ci a.k1
    have k3 := od.lt g2.ci g2.k1
    have k2' : d < S2.1 := by rw [n2]; exact k1.1
    have kd2 : kdC S2 d ≠ 4 := by rw [(f3.1.2 d k1.1).1, k1.2]; decide
    by_cases y : d = x + 13 + 3 * p
    · rw [if_pos y, y]
      exact t4
    · rw [if_neg y, t3.2.1 d k3.1 (by rw [k3.2]; decide) y, G3.2.1 d k2' kd2 (fun w => by
        obtain ⟨-, m3, -, -, -, -, m13⟩ := dM_x a.ci a.k1 kq1
        rcases od with od | ⟨p', hp', od⟩
        · exact m3 (by rw [← od]; exact w)
        · exact m13 p' hp' (by rw [← od]; exact w)), f3.2.1 d k1.1 (by rw [k1.2]; decide)]
  have rN0 : hN R 0 = 0 := by
    show (R.1 6).toInt = 0
    rw [u6]
    rfl
  have rNp : hN R (p + 2) = 1 := by
    show (R.2 34 p).toInt = 1
    rw [u34, upd_eq]
    rfl
  have rNo : ∀ g, g ≠ 0 → g ≠ p + 2 → hN R g = hN H g := fun g n1 n2 => by
    match g, n1 with
    | 1, _ => show (R.1 35).toInt = _; rw [u1 35 (by decide) (by decide)]; rfl
    | p' + 2, _ => show (R.2 34 p').toInt = (H.2 34 p').toInt; rw [u34, upd_ne (by omega)]
  have rMp : hM R (p + 2) 0 = hM H 0 0 := by
    show (R.2 33 (9 * p + 0)).toNatClampNeg = _
    rw [u33, Nat.add_zero, upd_eq]
    exact em
  have rMo : ∀ g i, g ≠ p + 2 → i < 9 → hM R g i = hM H g i := fun g i n hi => by
    unfold hM
    match g with
    | 0 => show (R.2 31 i).toNatClampNeg = _; rw [ur 31 (by omega)]; rfl
    | 1 => show (R.2 32 i).toNatClampNeg = _; rw [ur 32 (by omega)]; rfl
    | p' + 2 =>
      show (R.2 33 (9 * p' + i)).toNatClampNeg = (H.2 33 (9 * p' + i)).toNatClampNeg
      rw [u33, upd_ne (by omega)]
  have rTo : ∀ g, g ≠ p + 2 → (hT R g ↔ hT H g) := fun g n => by
    match g with
    | 0 => exact Iff.rfl
    | 1 => show R.1 36 ≠ 0 ↔ H.1 36 ≠ 0; rw [u1 36 (by decide) (by decide)]
    | p' + 2 =>
      show R.2 37 p' ≠ 0 ↔ H.2 37 p' ≠ 0
      rw [u37, upd_ne (by omega)]
  have rTp : ¬ hT R (p + 2) := fun y => y (by rw [u37, upd_eq])
  have eTp : tU T2 (x + 13 + 3 * p + 1) (T2 (x + 13 + 3 * p + 1) ++ [q0]) (rP x (p + 2)) = [q0] := by
    rw [rP_p, tU_at, eT2]
    rfl
  have eTz : tU T2 (x + 13 + 3 * p + 1) (T2 (x + 13 + 3 * p + 1) ++ [q0]) (rP x 0) = [] := by
    rw [tU_ne _ _ (by show x + 1 ≠ _; omega)]
    exact f4
  have eTo : ∀ g, g < 10 → g ≠ 0 → g ≠ p + 2 → tU T2 (x + 13 + 3 * p + 1) (T2 (x + 13 + 3 * p + 1) ++ [q0]) (rP x g) = T1 (rP x g) := fun g hg n1 n2 => by
    rw [tU_ne _ _ (show rP x g ≠ x + 13 + 3 * p + 1 from fun y => n2 (rP_inj (x := x) (g := g) (g' := p + 2) y))]
    exact f5 _ (fun y => n1 (rP_inj (x := x) (g := g) (g' := 0) y)) (rP_own hg).2
  have k14 : H.2 14 (hM H 0 0) = 1 := h.1.2.2.2.1 0 L0 trivial
  have ko : H.2 20 (hM H 0 0) = 0 ∧ H.2 21 (hM H 0 0) = 0 ∧ H.2 26 (hM H 0 0) = 0 := by
    have mu := (r.2.1 0 (by omega)).2 0 (r.2.1.mem L0)
    exact mu.2.2.2.2.2.2 (by rw [k14]; decide) (by rw [k14]; decide)
  have tx : giC S4 (q0 + 1) 1 = H.2 19 (hM H 0 0) ∧ ∀ i : Nat, (i : Int) < (H.2 19 (hM H 0 0)).toInt → giC S4 (q0 + 2) i = H.2 28 (400 * hM H 0 0 + i) := by
    have mu := ((r.2.1 0 (by omega)).2 0 (r.2.1.mem L0)).2.2.2.1
    rw [eq0] at mu
    have w3' := a.ci.wf.w3 kq1
    have k1 : iK S1 (q0 + 1) 6 := w3'.1.1
    have k2 : iK S1 (q0 + 2) 20 := (a.ci.wf.w6 k1).1.1
    refine ⟨?_, fun i hi => ?_⟩
    · rw [cq 1 (by omega), nb.2.2.2.2.2 1 _ (Or.inl rfl), f3.2.1 _ k1.1 (by rw [k1.2]; decide)]
      exact mu.1
    · rw [cq 2 (by omega), nb.2.2.2.2.2 2 _ (Or.inr rfl), f3.2.1 _ k2.1 (by rw [k2.2]; decide)]
      exact mu.2 i hi
  have n4' := r.2.2.2.2.2.2.2.2
  refine ⟨S4, _, t1, t2, r.ex (gs := p + 2) (is := 0) h.1 hc2 K1 K2 K3 K4 (u1 0 (by decide) (by decide)) (fun g hg => ?_) ?_ (fun p' hp' => ?_) ⟨by rw [K8]; exact Int.le_refl _, by rw [K8]; have := r.2.2.2.2.2.1.2; omega⟩ (fun s h1 h2 => by rw [u30, ageS ⟨h1, h2⟩ bN]; omega) (fun g i l n => ?_) (fun l => ?_) (fun l t => ?_) (fun l t => absurd t rTp) (fun l j lj t d k => ?_) (fun l t d k => ?_)⟩
  · by_cases y1 : g = 0
    · rw [y1, eTz, rN0]
      rfl
    · by_cases y2 : g = p + 2
      · rw [y2, eTp, rNp]
        rfl
      · rw [eTo g hg y1 y2, rNo g y1 y2]
        exact (r.2.1 g hg).1
  · rw [st _ (Or.inl rfl), if_neg (by omega), u1 35 (by decide) (by decide), u1 36 (by decide) (by decide)]
    exact r.2.2.1.1
  · rw [st _ (Or.inr ⟨p', hp', rfl⟩), u34, u37]
    by_cases y : p' = p
    · subst y
      rw [if_pos rfl, upd_eq, upd_eq, rMp, u27, if_pos rfl]
      exact ⟨fun w => absurd w (by decide), fun _ => hv⟩
    · rw [if_neg (by omega), upd_ne y, upd_ne y, rMo (p' + 2) 0 (by omega) (by omega)]
      refine ⟨(r.2.2.1.2.1 p' hp').1, fun w => ?_⟩
      have w' := mt iEq.mpr w
      rw [i0] at w'
      have b := (h.1.1 (p' + 2) (by omega)).1
      have e0 : hN H (p' + 2) = (H.2 34 p').toInt := rfl
      have l' : hL H (p' + 2) 0 := ⟨by omega, by omega⟩
      rw [uo 27 _ (by omega) (by omega) (fun y => by have := (h.1.d l' L0 y).1; omega)]
      exact (r.2.2.1.2.1 p' hp').2 w
  · have y1 : g ≠ 0 := fun y => by
      have := l.2
      rw [y, rN0] at this
      omega
    have y2 : g ≠ p + 2 := fun y => by
      have := l.2
      rw [y, rNp] at this
      exact n ⟨y, by omega⟩
    have l2 := l.2
    rw [rNo g y1 y2] at l2
    have b9 := (h.1.1 g l.1).2.1
    have l' : hL H g i := ⟨l.1, l2⟩
    have e := rMo g i y2 (by omega)
    have nm : hM H g i ≠ hM H 0 0 := fun y => y1 (h.1.d l' L0 y).1
    have nq : (T1 (rP x g)).getD i 0 ≠ q0 := fun y => by
      have := (q_uniq a.ci (r.2.1.mem l') (r.2.1.mem L0) (by rw [y, eq0])).1
      exact y1 (rP_inj this)
    have k := a.m3 (gD_mem (r.2.1.mem l'))
    refine ⟨g, i, l', e, rTo g y2, fun _ => id, by rw [eTo g l.1 y1 y2], Kc _ k nq, fun k h1 h2 => uo k _ (by omega) (by omega) nm, fun _ => uo 27 _ (by omega) (by omega) nm, fun n' _ => by rw [ur 28 (by omega)], fun n' hn => u29o _ _ nm hn⟩
  · rw [eTp, rMp]
    show mR S4 q0 R (hM H 0 0)
    have r14 : R.2 14 (hM H 0 0) = 1 := by rw [ur 14 (by omega)]; exact k14
    have r26 : R.2 26 (hM H 0 0) = 0 := by rw [ur 26 (by omega)]; exact ko.2.2
    have r20 : R.2 20 (hM H 0 0) = 0 := by rw [ur 20 (by omega)]; exact ko.1
    have r21 : R.2 21 (hM H 0 0) = 0 := by rw [ur 21 (by omega)]; exact ko.2.1
    obtain ⟨⟨a2, a3, a4, a5, a6⟩, ⟨a7, a8, a9, a11⟩, a10, av, a14, -⟩ := nb
    refine ⟨⟨by rw [c0, a2, r14], by rw [c0, a3, u15], by rw [c0, a4, u16], by rw [c0, a5, u17], by rw [c0, a6, u18]⟩, ⟨by rw [c0, a7, u24], by rw [c0, a11, r26]⟩, fun _ => ⟨by rw [c0, a8, r20], by rw [c0, a9, r21]⟩, ⟨by rw [ur 19 (by omega)]; exact tx.1, fun i hi => ?_⟩, fun s hs => Or.inl ⟨u29 s hs, (cq 3 (by omega) s).trans (av s hs)⟩, ⟨fun s hs _ => (cq 3 (by omega) s).trans (av s hs), ?_⟩, fun _ _ => ⟨r20, r21, r26⟩⟩
    · rw [ur 19 (by omega)] at hi
      rw [ur 28 (by omega)]
      exact tx.2 i hi
    · rw [c0, a14, vCn_0s 200 (fun s hs => (cq 3 (by omega) s).trans (av s hs))]
      rfl
  · rw [eTp, rMp, u25, u27, ur 26 (by omega)]
    exact ⟨(c0 10).trans nb.2.2.1, fun _ => ko.2.2, fun y => ⟨by omega, hf y⟩⟩
  · rw [rMp, u22]
    exact ageN (n4' j lj t d k).2.1 bN
  · rw [rMp, ur 14 (by omega), k14] at k
    rcases k with k | k <;> exact absurd k (by decide)
/-- COMMIT -/
theorem commit_B (a : AS x S T col S1 T1 c1) (r : RR wF N S1 T1 x H) (h : HI M H) (bN : N ≤ 1000000) (fp : fpl H p) (z6 : 1 ≤ (H.1 6).toInt) (u : uR H R (H.2 31 0) p (-1) (-1) 0 1) (hc2 : HC M2 R) : ∃ S4 T4, f_Y7_commit S1 x = (0, S4) ∧ Sst noE x S T [] col S4 T4 [] c1 ∧ RR wF (N + 1) S4 T4 x R := by
  have L0 : hL H 0 0 := ⟨by omega, by show ((0 : Nat) : Int) < (H.1 6).toInt; omega⟩
  have fr := (first_V a r fp).1
  obtain ⟨q0, l, tT⟩ : ∃ q0 l, T1 (x + 1) = q0 :: l := by
    have := r.2.1.mem L0
    cases t : T1 (x + 1) with
    | nil =>
      have t : T1 (rP x 0) = [] := t
      rw [t] at this
      exact absurd this (Nat.not_lt_zero _)
    | cons q0 l => exact ⟨q0, l, rfl⟩
  obtain ⟨-, S2, T2, f1, f2, f3, f4, f5⟩ := y_lowest noE_n a.1 tT
  have kq := (f2.ci.tf.2 q0 (List.mem_cons_self ..)).1
  have sv := r.2.2.2.2.1.2.1.gx (f3.x (D := fun _ => False)) a.ci.wf (fun _ _ _ _ y => y) (fun q k => ik_b k f3.1 f3.2.2.2)
  obtain ⟨S3, g1, g2, nm, n3, gt⟩ := keep_v f2 kq (f2.fc q0 (List.mem_cons_self ..)) 1 (sv q0 kq)
  obtain ⟨⟨m0, m1, m2, m3, m4, m5, m6⟩, ⟨m7, m8, m9, m10, m11⟩, mv, m14⟩ := nm
  obtain ⟨S4, T4, t1, t2, t3⟩ := put_B a r h bN fp z6 tT f3 f4 f5 g2.1 g2.2.1 n3 g2.2.2.1 u (v := 1) ⟨⟨m2, m3, m4, m5, m6⟩, ⟨m7, m8, m9, m11⟩, m10, mv, m14, gt⟩ (by decide) (fun _ => rfl) hc2
  refine ⟨S4, T4, ?_, t2, t3⟩
  unfold f_Y7_commit b_Y7_commit_9a b_Y7_commit_23a b_Y7_commit_29
  rw [fr, f1]
  simp only [reduceCtorEq, if_false, Option.getD_some]
  rw [g1]
  simp only
  rw [t1]
/-- POSTPONE -/
theorem postpone_B (a : AS x S T col S1 T1 c1) (r : RR wF N S1 T1 x H) (h : HI M H) (bN : N ≤ 1000000) (fp : fpl H p) (z6 : 1 ≤ (H.1 6).toInt) (u : uR H R (H.2 31 0) p (H.2 15 (hM H 0 0)) (H.2 16 (hM H 0 0)) 1 0) (hc2 : HC M2 R) : ∃ S4 T4, f_Y7_postpone S1 x = (0, S4) ∧ Sst noE x S T [] col S4 T4 [] c1 ∧ RR wF (N + 1) S4 T4 x R := by
  have L0 : hL H 0 0 := ⟨by omega, by show ((0 : Nat) : Int) < (H.1 6).toInt; omega⟩
  have fr := (first_V a r fp).1
  obtain ⟨q0, l, tT⟩ : ∃ q0 l, T1 (x + 1) = q0 :: l := by
    have := r.2.1.mem L0
    cases t : T1 (x + 1) with
    | nil =>
      have t : T1 (rP x 0) = [] := t
      rw [t] at this
      exact absurd this (Nat.not_lt_zero _)
    | cons q0 l => exact ⟨q0, l, rfl⟩
  have eq0 : (T1 (rP x 0)).getD 0 0 = q0 := by
    show (T1 (x + 1)).getD 0 0 = q0
    rw [tT]
    rfl
  obtain ⟨-, S2, T2, f1, f2, f3, f4, f5⟩ := y_lowest noE_n a.1 tT
  have kq := (f2.ci.tf.2 q0 (List.mem_cons_self ..)).1
  have kq1 : iK S1 q0 3 := a.m3 (c := x + 1) (by rw [tT]; exact List.mem_cons_self ..)
  have sv := r.2.2.2.2.1.2.1.gx (f3.x (D := fun _ => False)) a.ci.wf (fun _ _ _ _ y => y) (fun q k => ik_b k f3.1 f3.2.2.2)
  have mu := ((r.2.1 0 (by omega)).2 0 (r.2.1.mem L0)).1
  rw [eq0] at mu
  have gq : ∀ i, giC S2 q0 i = giC S1 q0 i := f3.2.1 q0 kq1.1 (by rw [kq1.2]; decide)
  have k14 : H.2 14 (hM H 0 0) = 1 := h.1.2.2.2.1 0 L0 trivial
  obtain ⟨S3, g1, g2, nm, n3, gt⟩ := keep_v f2 kq (f2.fc q0 (List.mem_cons_self ..)) (giC S2 q0 2) (sv q0 kq)
  have g5 := ((g2.si 3 (giC S2 q0 3) (by omega)).si 4 (giC S2 q0 4) (by omega)).si 10 1 (fun _ => bz1)
  have n5 : (siC (siC (siC S3 q0 3 (giC S2 q0 3)) q0 4 (giC S2 q0 4)) q0 10 1).1 = S2.1 := n3
  have e3 : giC S2 q0 3 = H.2 15 (hM H 0 0) := (gq 3).trans mu.2.1
  have e4 : giC S2 q0 4 = H.2 16 (hM H 0 0) := (gq 4).trans mu.2.2.1
  have e2 : giC S2 q0 2 = 1 := ((gq 2).trans mu.1).trans k14
  obtain ⟨⟨m0, m1, m2, m3, m4, m5, m6⟩, ⟨m7, m8, m9, m10, m11⟩, mv, m14⟩ := nm
  obtain ⟨X, hX⟩ : ∃ X, X = siC (siC (siC S3 q0 3 (giC S2 q0 3)) q0 4 (giC S2 q0 4)) q0 10 1 := ⟨_, rfl⟩
  have gX' : ∀ i, giC X q0 i = if i = 10 then 1 else if i = 4 then H.2 16 (hM H 0 0) else if i = 3 then H.2 15 (hM H 0 0) else giC S3 q0 i := fun i => by
    rw [hX, e3, e4]
    simp only [gi_si, true_and]
  have oX : ∀ j i, 0 < j → giC X (q0 + j) i = giC S3 (q0 + j) i := fun j i hj => by
    rw [hX]
    simp only [gi_si]
    rw [if_neg (fun y => by omega), if_neg (fun y => by omega), if_neg (fun y => by omega)]
  rw [← hX] at g5 n5
  have nb : (giC X q0 2 = 1 ∧ giC X q0 3 = H.2 15 (hM H 0 0) ∧ giC X q0 4 = H.2 16 (hM H 0 0) ∧ giC X q0 5 = 0 ∧ giC X q0 6 = 0) ∧ (giC X q0 7 = 0 ∧ giC X q0 8 = 0 ∧ giC X q0 9 = 0 ∧ giC X q0 11 = 0) ∧ giC X q0 10 = 1 ∧ (∀ s, s < 200 → giC X (q0 + 3) s = 0) ∧ (giC X q0 14).toInt = 0 ∧ ∀ j i, (j = 1 ∨ j = 2) → giC X (q0 + j) i = giC S2 (q0 + j) i := by
    refine ⟨⟨?_, ?_, ?_, ?_, ?_⟩, ⟨?_, ?_, ?_, ?_⟩, ?_, fun s hs => (oX 3 s (by omega)).trans (mv s hs), ?_, fun j i hj => (oX j i (by omega)).trans (gt j i hj)⟩
    · rw [gX' 2]; simp; exact m2.trans e2
    · rw [gX' 3]; simp
    · rw [gX' 4]; simp
    · rw [gX' 5]; simp; exact m5
    · rw [gX' 6]; simp; exact m6
    · rw [gX' 7]; simp; exact m7
    · rw [gX' 8]; simp; exact m8
    · rw [gX' 9]; simp; exact m9
    · rw [gX' 11]; simp; exact m11
    · rw [gX' 10]; simp
    · rw [gX' 14]; simp; exact m14
  obtain ⟨S4, T4, t1, t2, t3⟩ := put_B a r h bN fp z6 tT f3 f4 f5 g5.1 g5.2.1 n5 g5.2.2.1 u (v := 2) nb (by decide) (fun y => absurd rfl y) hc2
  refine ⟨S4, T4, ?_, t2, t3⟩
  unfold f_Y7_postpone b_Y7_postpone_9a b_Y7_postpone_37a b_Y7_postpone_59
  rw [fr, f1]
  simp only [reduceCtorEq, if_false, Option.getD_some]
  rw [g1]
  simp only
  rw [← hX, t1]
end
