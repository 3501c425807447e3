/-! ===== what was done is done again: minutes and the state they lead to ===== -/
section
variable {wF : Prop × (Nat → Int32) × Int32 × (Nat → Int32)} {E : Nat → Prop} {x y : Nat} {S S1 S2 S3 S4 Sk : Cst} {T T1 T2 T3 Tk : Nat → List Nat} {F F1 : List Nat} {col c1 c2 c3 ck : Nat → Nat} {H H2 G R : HS} {N N2 M M2 : Int} {P Q : Nat → Int32}
/-- a row's acts, done one after another -/
def fol (P : Nat → Int32) (G : HS) : Nat → HS
  | 0 => G
  | k + 1 => (f_X11_act (fol P G k) (P (6 * k)) (P (6 * k + 1)) (P (6 * k + 2)) (P (6 * k + 3)) (P (6 * k + 4))).2
/-- the entries are acts, with their numbers and no more -/
def EN (P : Nat → Int32) (e : Nat) : Prop := ∀ k, k < e → (1 ≤ (P (6 * k)).toInt ∧ (P (6 * k)).toInt ≤ 22) ∧ nz (P (6 * k)) (P (6 * k + 1)) (P (6 * k + 2)) (P (6 * k + 3)) (P (6 * k + 4))
theorem fol_cg {k : Nat} (h : ∀ i, i < 6 * k → P i = Q i) : ∀ j, j ≤ k → fol P G j = fol Q G j := by
  intro j
  induction j with
  | zero => intro _; rfl
  | succ j ih =>
    intro hj
    rw [fol, fol, ih (by omega), h _ (by omega), h _ (by omega), h _ (by omega), h _ (by omega), h _ (by omega)]
theorem fol_ha {n : Int32} (hn : 1 ≤ n.toInt ∧ n.toInt ≤ 200) (hb : HB G) : ∀ k, HA (fol P (f_X11_begin G n).2 k) := by
  intro k
  induction k with
  | zero => exact (begin_i hb hn).2.1
  | succ k ih => exact (act_i ih _ _ _ _ _).2
/-- minutes of a class's assembly, from n seats on -/
def JX (S : Cst) (T : Nat → List Nat) (x : Nat) (n : Int32) (e : Nat) (P z : Nat → Int32) : Prop :=
  ((1 ≤ n.toInt ∧ n.toInt ≤ 200) ∧ e ≤ 600 ∧ EN P e) ∧ ((giC S (x + 7) 3).toInt = e ∧ (∀ i j, i < e → j < 6 → giC S ((grC S (x + 7) 2).getD 0) (7 * i + j) = P (6 * i + j)) ∧ ∀ i, i < e → giC S ((grC S (x + 7) 2).getD 0) (7 * i + 6) = z i) ∧
  ∀ H0, HB H0 → (∀ k, k < e → (f_X11_act (fol P (f_X11_begin H0 n).2 k) (P (6 * k)) (P (6 * k + 1)) (P (6 * k + 2)) (P (6 * k + 3)) (P (6 * k + 4))).1 = P (6 * k + 5) ∧ (fol P (f_X11_begin H0 n).2 (k + 1)).1 6 = z k) ∧ RR (False, z, n, (fol P (f_X11_begin H0 n).2 e).2 40) e S T x (fol P (f_X11_begin H0 n).2 e)
theorem JX.cg {n : Int32} {e : Nat} {z : Nat → Int32} (h : JX S T x n e P z) (c : ∀ i, i < 6 * e → Q i = P i) : JX S T x n e Q z := by
  obtain ⟨⟨a1, a2, a3⟩, ⟨b1, b2, b3⟩, b⟩ := h
  refine ⟨⟨a1, a2, fun k hk => ?_⟩, ⟨b1, fun i j hi hj => by rw [c _ (by omega)]; exact b2 i j hi hj, b3⟩, fun H0 hb => ?_⟩
  · rw [c _ (by omega), c _ (by omega), c _ (by omega), c _ (by omega), c _ (by omega)]
    exact a3 k hk
  · have f := fun j hj => fol_cg (k := e) (P := Q) (Q := P) (G := (f_X11_begin H0 n).2) c j hj
    obtain ⟨p1, p2⟩ := b H0 hb
    refine ⟨fun k hk => ?_, ?_⟩
    · rw [f k (by omega), f (k + 1) (by omega), c _ (by omega), c _ (by omega), c _ (by omega), c _ (by omega), c _ (by omega), c _ (by omega)]
      exact p1 k hk
    · rw [f e (Nat.le_refl _)]
      exact p2
/-- it stands when another one moves -/
theorem JX.og {n : Int32} {e : Nat} {z : Nat → Int32} (h : JX S T y n e P z) (ci : CI noE S T [] col) (ky : iK S y 0) (en : eN S S2) (wf2 : wfS S2) (fr : ∀ q, q < S.1 → col q = y → S2.2.2 q = S.2.2 q) (ft : ∀ c, c < S.1 → col c = y → T2 c = T c) (sv2 : sV S2) : JX S2 T2 y n e P z := by
  obtain ⟨a, ⟨b1, b2, b3⟩, b⟩ := h
  have w0 := ci.wf.w0 ky
  have k7 : iK S (y + 7) 2 := w0.1.2.2.2.2.1
  have z7 := (ci.wf.w2 k7).2.1.2
  have c7 : col (y + 7) = y := ci.c0 y ky 7 (by omega)
  have e7 := fr _ k7.1 c7
  have ez := fr _ z7.1 ((ci.c2 _ k7).trans c7)
  have r7 : grC S2 (y + 7) 2 = grC S (y + 7) 2 := by unfold grC; rw [e7]
  have gz : ∀ k, giC S2 ((grC S (y + 7) 2).getD 0) k = giC S ((grC S (y + 7) 2).getD 0) k := fun k => by unfold giC; rw [ez]
  refine ⟨a, ⟨?_, fun i j hi hj => by rw [r7, gz]; exact b2 i j hi hj, fun i hi => by rw [r7, gz]; exact b3 i hi⟩, fun H0 hb => ⟨(b H0 hb).1, (b H0 hb).2.og ci ky en wf2 fr ft sv2⟩⟩
  unfold giC
  rw [e7]
  exact b1
theorem JX.tP {n : Int32} {e : Nat} {z : Nat → Int32} (h : JX S T y n e P z) (eT : ∀ g, g < 10 → T2 (rP y g) = T (rP y g)) : JX S T2 y n e P z :=
  ⟨h.1, h.2.1, fun H0 hb => ⟨(h.2.2 H0 hb).1, (h.2.2 H0 hb).2.tP eT⟩⟩
/-- the reason kept is nothing to it -/
theorem JX.w9 (a : AS x S T col S1 T1 c1) {n : Int32} {e : Nat} {z : Nat → Int32} (h : JX S1 T1 x n e P z) (v : Int32) : JX (siC S1 x 9 v) T1 x n e P z := by
  obtain ⟨p, ⟨b1, b2, b3⟩, b⟩ := h
  have k7 := a.w0.1.2.2.2.2.1
  have z7 := (a.ci.wf.w2 k7).2.1.2
  have nx : (grC S1 (x + 7) 2).getD 0 ≠ x := ik_ne z7 a.k1 (by decide)
  refine ⟨p, ⟨by rw [gi_si, if_neg (fun y => by omega)]; exact b1, fun i j hi hj => by rw [gr_si, gi_si, if_neg (fun y => nx y.1)]; exact b2 i j hi hj, fun i hi => by rw [gr_si, gi_si, if_neg (fun y => nx y.1)]; exact b3 i hi⟩, fun H0 hb => ⟨(b H0 hb).1, ?_⟩⟩
  have r := ((b H0 hb).2.w9 a v).2.lo ((fol P (f_X11_begin H0 n).2 e).1 10)
  rw [sI_bk] at r
  exact r
/-- an act more -/
theorem JX.act (a : AS x S T col S1 T1 c1) {n : Int32} {e : Nat} {z : Nat → Int32} (h : JX S1 T1 x n e (H.2 40) z) (r : RR (True, z, n, H.2 40) e S1 T1 x H) (hh : HA H) (e7 : (H.1 7).toInt = e) {act i b c d : Int32} (h1 : 1 ≤ act.toInt) (h2 : act.toInt ≤ 22) (hz : nz act i b c d) : ∃ S3 T3 c3, f_Y0_enact S1 x act i b c d = ((f_X11_act H act i b c d).1, S3) ∧ AS x S T col S3 T3 c3 ∧ ∃ e' z', (((f_X11_act H act i b c d).2.1 7).toInt = (e' : Nat)) ∧ (f_X11_act H act i b c d).2.1 0 = H.1 0 ∧ RR (True, z', n, (f_X11_act H act i b c d).2.2 40) e' S3 T3 x (f_X11_act H act i b c d).2 ∧ JX S3 T3 x n e' ((f_X11_act H act i b c d).2.2 40) z' := by
  obtain ⟨S3, T3, c3, f, a3, q0, q1⟩ := act_sim a r hh e7.symm h1 h2 hz
  refine ⟨S3, T3, c3, f, a3, ?_⟩
  by_cases q : rz H act i b c d = 0
  · obtain ⟨v, D, ea, ⟨D7, l6, D0, D40⟩, r3⟩ := q1 q
    have r3 : RR (True, upd z (H.1 7).toNatClampNeg (D.1 6), n, (miH D act i b c d v).2 40) ((e : Int) + 1) S3 T3 x (miH D act i b c d v) := r3
    have ne : (H.1 7).toNatClampNeg = e := by have := iNat (x := H.1 7) (by omega); omega
    have nD : (D.1 7).toNatClampNeg = e := by rw [D7]; exact ne
    rw [ne] at r3
    rw [ea] at f ⊢
    have em : (miH D act i b c d v).1 7 = D.1 7 + 1 := rfl
    have e1 := iAdd (x := D.1 7) (y := 1) (by rw [i1, D7]; omega) (by rw [i1, D7]; omega)
    rw [i1, D7] at e1
    have m0 : (miH D act i b c d v).1 0 = D.1 0 := rfl
    have mr : ∀ k, (miH D act i b c d v).2 40 k = if k = 6 * e + 5 then v else if k = 6 * e + 4 then d else if k = 6 * e + 3 then c else if k = 6 * e + 2 then b else if k = 6 * e + 1 then i else if k = 6 * e then act else H.2 40 k := fun k => by
      rw [miH_r, nD, D40]
    have old : ∀ k, k < 6 * e → (miH D act i b c d v).2 40 k = H.2 40 k := fun k hk => by
      rw [mr, if_neg (by omega), if_neg (by omega), if_neg (by omega), if_neg (by omega), if_neg (by omega), if_neg (by omega)]
    have w0 : (miH D act i b c d v).2 40 (6 * e) = act := by rw [mr, if_neg (by omega), if_neg (by omega), if_neg (by omega), if_neg (by omega), if_neg (by omega), if_pos rfl]
    have w1 : (miH D act i b c d v).2 40 (6 * e + 1) = i := by rw [mr, if_neg (by omega), if_neg (by omega), if_neg (by omega), if_neg (by omega), if_pos rfl]
    have w2 : (miH D act i b c d v).2 40 (6 * e + 2) = b := by rw [mr, if_neg (by omega), if_neg (by omega), if_neg (by omega), if_pos rfl]
    have w3 : (miH D act i b c d v).2 40 (6 * e + 3) = c := by rw [mr, if_neg (by omega), if_neg (by omega), if_pos rfl]
    have w4 : (miH D act i b c d v).2 40 (6 * e + 4) = d := by rw [mr, if_neg (by omega), if_pos rfl]
    have w5 : (miH D act i b c d v).2 40 (6 * e + 5) = v := by rw [mr, if_pos rfl]
    obtain ⟨⟨p1, p2, p3⟩, ⟨b1, b2, b3⟩, hb'⟩ := h
    have j := r3.2.2.2.1
    have r3' : RR (True, upd z e (D.1 6), n, (miH D act i b c d v).2 40) ((e + 1 : Nat) : Int) S3 T3 x (miH D act i b c d v) := r3
    refine ⟨e + 1, upd z e (D.1 6), by rw [em, D7, e1, e7]; omega, by rw [m0, D0], r3', ⟨p1, by omega, fun k hk => ?_⟩, ⟨?_, fun i' j' hi' hj' => ?_, fun i' hi' => ?_⟩, fun H0 hB => ?_⟩
    · by_cases y : k = e
      · rw [y, w0, w1, w2, w3, w4]
        exact ⟨⟨h1, h2⟩, hz⟩
      · rw [old _ (by omega), old _ (by omega), old _ (by omega), old _ (by omega), old _ (by omega)]
        exact p3 k (by omega)
    · rw [j.1.1, em, D7, e1, e7]
      omega
    · exact j.1.2.2 i' j' (by rw [em, D7, e1, e7]; omega) hj'
    · exact j.2.2.2.2.2.2.2.2 i' (by rw [em, D7, e1, e7]; omega)
    · obtain ⟨k1, k2⟩ := hb' H0 hB
      have fo := fun t ht => fol_cg (k := e) (P := (miH D act i b c d v).2 40) (Q := H.2 40) (G := (f_X11_begin H0 n).2) old t ht
      have hK := fol_ha (P := H.2 40) p1 hB e
      have g7 : ((fol (H.2 40) (f_X11_begin H0 n).2 e).1 7).toInt = e := by
        have t := k2.2.2.2.1.1.1
        rw [← t]
        exact b1
      obtain ⟨S3', T3', c3', f', a3', -, q1'⟩ := act_sim a k2 hK g7.symm h1 h2 hz
      have zr : rz (fol (H.2 40) (f_X11_begin H0 n).2 e) act i b c d = 0 := by
        rw [← rs_all a k2 hK act i b c d h1 h2, rs_all a r hh act i b c d h1 h2]
        exact q
      obtain ⟨v', D', ea', ⟨D7', -, D0', D40'⟩, r4⟩ := q1' zr
      rw [ea'] at f'
      obtain ⟨ev, rfl⟩ := Prod.mk.inj (f.symm.trans f')
      have ev : v = v' := ev
      have fe : fol ((miH D act i b c d v).2 40) (f_X11_begin H0 n).2 (e + 1) = miH D' act i b c d v' := by
        rw [fol, fo e (Nat.le_refl _), w0, w1, w2, w3, w4, ea']
      have n7' : (fol (H.2 40) (f_X11_begin H0 n).2 e).1 7 = D'.1 7 := D7'.symm
      have ne' : ((fol (H.2 40) (f_X11_begin H0 n).2 e).1 7).toNatClampNeg = e := by have := iNat (x := (fol (H.2 40) (f_X11_begin H0 n).2 e).1 7) (by omega); omega
      rw [ne'] at r4
      have em' : (miH D' act i b c d v').1 7 = D'.1 7 + 1 := rfl
      have e1' := iAdd (x := D'.1 7) (y := 1) (by rw [i1, D7']; omega) (by rw [i1, D7']; omega)
      rw [i1, D7', g7] at e1'
      have cell : D'.1 6 = D.1 6 := by
        have t1 := j.2.2.2.2.2.2.2.2 e (by rw [em, D7, e1, e7]; omega)
        have t2 := r4.2.2.2.1.2.2.2.2.2.2.2.2 e (by rw [em', D7', e1']; omega)
        have t1 : giC S3 ((grC S3 (x + 7) 2).getD 0) (7 * e + 6) = upd z e (D.1 6) e := t1
        have t2 : giC S3 ((grC S3 (x + 7) 2).getD 0) (7 * e + 6) = upd z e (D'.1 6) e := t2
        rw [upd_eq] at t1 t2
        exact t2.symm.trans t1
      refine ⟨fun k hk => ?_, ?_⟩
      · by_cases y : k = e
        · rw [y, fe, upd_eq, w0, w1, w2, w3, w4, w5, fo e (Nat.le_refl _), ea']
          exact ⟨ev.symm, cell⟩
        · rw [fo k (by omega), fo (k + 1) (by omega), upd_ne y, old _ (by omega), old _ (by omega), old _ (by omega), old _ (by omega), old _ (by omega), old _ (by omega)]
          exact k1 k (by omega)
      · rw [fe]
        have r5 := RR.tP (T2 := T3) r4.lo0 (fun g hg => (T_eq a3.ci a3'.ci (rP_k a3.ci.wf a3.k1 hg)))
        rw [cell] at r5
        exact r5
  · obtain ⟨ea, eS, eT, r3⟩ := q0 q
    rw [ea]
    subst eS
    subst eT
    exact ⟨e, z, e7, rfl, r3, h.w9 a _⟩
end
