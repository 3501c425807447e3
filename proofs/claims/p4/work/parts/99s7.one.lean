/-! ===== the house moved, one motion moved ===== -/
section
variable {wF : Prop × (Nat → Int32) × Int32 × (Nat → Int32)} {x : Nat} {S S1 S2 : Cst} {T T1 T2 : Nat → List Nat} {col c1 : Nat → Nat} {H H2 : HS} {N : Int}
theorem zl_k (ci : CI noE S1 T1 [] c1) (kx : iK S1 x 0) {l : Nat} (hl : l = x + 7 ∨ l = x + 9) : iK S1 l 2 ∧ iK S1 ((grC S1 l 2).getD 0) 20 := by
  have w := ci.wf.w0 kx
  have k : iK S1 l 2 := by
    rcases hl with rfl | rfl
    · exact w.1.2.2.2.2.1
    · exact w.1.2.2.2.2.2.1
  exact ⟨k, (ci.wf.w2 k).2.1.2⟩
/-- nothing but the house moved -/
theorem RR.hs (r : RR wF N S1 T1 x H) (ci : CI noE S1 T1 [] c1) (kx : iK S1 x 0) (hg : ∀ q k, q ≠ x + 37 → q ≠ x + 38 → q ≠ x + 39 → giC S2 q k = giC S1 q k) (hr : ∀ q k, grC S2 q k = grC S1 q k) (hl : ∀ q, lnC S2 q = lnC S1 q) (hk : ∀ q c, iK S2 q c → iK S1 q c) (s : sH H2 H) (e : H2.1 7 = H.1 7 ∧ H2.1 8 = H.1 8 ∧ H2.1 9 = H.1 9 ∧ H2.1 10 = H.1 10 ∧ H2.1 39 = H.1 39) (e2 : H2.2 38 = H.2 38 ∧ H2.2 40 = H.2 40 ∧ H2.2 41 = H.2 41) (hh : hR S2 x H2) : RR wF N S2 T1 x H2 := by
  obtain ⟨-, w, o, j, ⟨a, sv⟩, n⟩ := r
  have hm : mQ T1 x S1 S2 := fun g _ q m i hi k => by
    obtain ⟨p1, p2, p3⟩ := mo_h ci kx (ci.tk _ q m).1 hi
    exact hg _ k p1 p2 p3
  have jj := j
  obtain ⟨-, -, -, -, -, -, j4, j5, -⟩ := jj
  have w0 := ci.wf.w0 kx
  have k37 : iK S1 (x + 37) 1 := w0.1.1
  have k38 : iK S1 (x + 38) 21 := (ci.wf.w1 k37).1.1
  refine ⟨hh, w.cg s (fun _ _ => rfl) hm, o.cg w s (fun _ _ => rfl) hm (hg _ _ (by omega) (by omega) (by omega)) (fun p h => ?_), j.cg e.1 e.2.1 e2.2.1 e2.2.2 (fun l h => ⟨fun k => ?_, hr _ _, fun k => ?_⟩) hl (fun q k => hk q 6 k), ⟨a.cg (hg _ _ (by omega) (by omega) (by omega)) (hg _ _ (by omega) (by omega) (by omega)) (hg _ _ (by omega) (by omega) (by omega)) (fun k => hg _ _ (by omega) (by omega) (by omega)) e.2.2.1 e.2.2.2.1 e.2.2.2.2 (by rw [e.2.1]; omega) e2.1, fun q m => ?_, by rw [s.1.1]; exact sv.2.1, by rw [e2.2.1]; exact sv.2.2⟩, n.cg w s (fun _ _ => rfl) hm (hg _ _ (by omega) (by omega) (by omega))⟩
  · exact hg _ _ (by omega) (by omega) (by omega)
  · rcases h with rfl | rfl
    · exact hg _ _ (by omega) (by omega) (by omega)
    · exact hg _ _ (by omega) (by omega) (by omega)
  · have z := (zl_k ci kx h).2
    refine hg _ _ (ik_ne z k37 (by decide)) (ik_ne z k38 (by decide)) ?_
    rcases h with rfl | rfl
    · exact j4
    · exact j5
  · have kq := hk q 3 m
    have c : ∀ i, i < 4 → ∀ k, giC S2 (q + i) k = giC S1 (q + i) k := fun i hi k => by
      obtain ⟨p1, p2, p3⟩ := mo_h ci kx kq hi
      exact hg _ k p1 p2 p3
    rw [vCn_cg (c 3 (by omega)), show giC S2 q 14 = giC S1 q 14 from c 0 (by omega) 14]
    exact sv.1 q kq
/-- one motion's row of numbers moved, but its name, kind, subject, and whether it is laid or outside -/
def qM (H2 H : HS) (m : Nat) : Prop := (H2.1 0 = H.1 0 ∧ H2.1 6 = H.1 6 ∧ H2.1 35 = H.1 35 ∧ H2.1 36 = H.1 36 ∧ H2.1 30 = H.1 30) ∧
  (∀ k, 30 ≤ k → k ≤ 37 → H2.2 k = H.2 k) ∧ (H2.2 14 = H.2 14 ∧ H2.2 22 = H.2 22 ∧ H2.2 23 = H.2 23 ∧ H2.2 25 = H.2 25 ∧ H2.2 26 = H.2 26 ∧ H2.2 27 = H.2 27) ∧
  (∀ k, 14 ≤ k → k ≤ 27 → ∀ n, n ≠ m → H2.2 k n = H.2 k n) ∧ (∀ n i, n ≠ m → i < 400 → H2.2 28 (400 * n + i) = H.2 28 (400 * n + i)) ∧ ∀ n i, n ≠ m → i < 200 → H2.2 29 (200 * n + i) = H.2 29 (200 * n + i)
theorem qM.n {m : Nat} (s : qM H2 H m) (g : Nat) : hN H2 g = hN H g := by
  match g with
  | 0 => show (H2.1 6).toInt = (H.1 6).toInt; rw [s.1.2.1]
  | 1 => show (H2.1 35).toInt = (H.1 35).toInt; rw [s.1.2.2.1]
  | p + 2 => show (H2.2 34 p).toInt = (H.2 34 p).toInt; rw [s.2.1 34 (by omega) (by omega)]
theorem qM.m {m : Nat} (s : qM H2 H m) (g i : Nat) : hM H2 g i = hM H g i := by
  unfold hM
  match g with
  | 0 => show (H2.2 31 i).toNatClampNeg = (H.2 31 i).toNatClampNeg; rw [s.2.1 31 (by omega) (by omega)]
  | 1 => show (H2.2 32 i).toNatClampNeg = (H.2 32 i).toNatClampNeg; rw [s.2.1 32 (by omega) (by omega)]
  | p + 2 => show (H2.2 33 (9 * p + i)).toNatClampNeg = (H.2 33 (9 * p + i)).toNatClampNeg; rw [s.2.1 33 (by omega) (by omega)]
theorem qM.t {m : Nat} (s : qM H2 H m) (g : Nat) : hT H2 g ↔ hT H g := by
  match g with
  | 0 => exact Iff.rfl
  | 1 => show H2.1 36 ≠ 0 ↔ H.1 36 ≠ 0; rw [s.1.2.2.2.1]
  | p + 2 => show H2.2 37 p ≠ 0 ↔ H.2 37 p ≠ 0; rw [s.2.1 37 (by omega) (by omega)]
theorem qM.L {m : Nat} (s : qM H2 H m) (g i : Nat) : hL H2 g i ↔ hL H g i := by
  unfold hL
  rw [s.n]
/-- where a motion lies: its pile, its place there -/
theorem q_uniq (ci : CI noE S1 T1 [] c1) {c d i j : Nat} (hi : i < (T1 c).length) (hj : j < (T1 d).length) (e : (T1 c).getD i 0 = (T1 d).getD j 0) : c = d ∧ i = j := by
  have m1 := gD_mem hi
  have m2 := gD_mem hj
  rw [← e] at m2
  have cd := ci.td c d _ m1 m2
  subst cd
  refine ⟨rfl, ?_⟩
  rw [List.getD_eq_getElem?_getD, List.getD_eq_getElem?_getD, List.getElem?_eq_getElem hi, List.getElem?_eq_getElem hj] at e
  have e' : (T1 c)[i] = (T1 c)[j] := e
  rcases Nat.lt_trichotomy i j with y | y | y
  · exact absurd e' (List.pairwise_iff_getElem.mp (ci.tn c) i j hi hj y)
  · exact y
  · exact absurd e'.symm (List.pairwise_iff_getElem.mp (ci.tn c) j i hj hi y)
theorem rP_inj {g g' : Nat} (h : rP x g = rP x g') : g = g' := by
  match g, g' with
  | 0, 0 => rfl
  | 0, 1 => have h : x + 1 = x + 4 := h; omega
  | 0, p + 2 => have h : x + 1 = x + 13 + 3 * p + 1 := h; omega
  | 1, 0 => have h : x + 4 = x + 1 := h; omega
  | 1, 1 => rfl
  | 1, p + 2 => have h : x + 4 = x + 13 + 3 * p + 1 := h; omega
  | p + 2, 0 => have h : x + 13 + 3 * p + 1 = x + 1 := h; omega
  | p + 2, 1 => have h : x + 13 + 3 * p + 1 = x + 4 := h; omega
  | p + 2, r + 2 => have h : x + 13 + 3 * p + 1 = x + 13 + 3 * r + 1 := h; omega
theorem RR.mo {M : Int} (r : RR wF N S1 T1 x H) (ci : CI noE S1 T1 [] c1) (kx : iK S1 x 0) (h : HI M H) {g0 i0' q m : Nat} (l0 : hL H g0 i0') (eq : (T1 (rP x g0)).getD i0' 0 = q) (em : hM H g0 i0' = m) (hg : ∀ z k, (∀ j, j < 4 → z ≠ q + j) → giC S2 z k = giC S1 z k) (hq3 : giC S2 q 0 = giC S1 q 0 ∧ giC S2 q 1 = giC S1 q 1 ∧ giC S2 q 10 = giC S1 q 10) (hr : ∀ z k, grC S2 z k = grC S1 z k) (hl : ∀ z, lnC S2 z = lnC S1 z) (hk : ∀ z c, iK S2 z c → iK S1 z c) (s : qM H2 H m) (mq : mR S2 q H2 m) (e : H2.1 1 = H.1 1 ∧ H2.1 2 = H.1 2 ∧ H2.1 3 = H.1 3 ∧ H2.1 4 = H.1 4 ∧ H2.1 5 = H.1 5) (e1 : H2.1 7 = H.1 7 ∧ H2.1 8 = H.1 8 ∧ H2.1 9 = H.1 9 ∧ H2.1 10 = H.1 10 ∧ H2.1 39 = H.1 39) (e2 : H2.2 11 = H.2 11 ∧ H2.2 12 = H.2 12 ∧ H2.2 38 = H.2 38 ∧ H2.2 40 = H.2 40 ∧ H2.2 41 = H.2 41) : RR wF N S2 T1 x H2 := by
  obtain ⟨hr0, w, o, j, ⟨a, sv⟩, n⟩ := r
  have len : ∀ {g i : Nat}, hL H g i → i < (T1 (rP x g)).length := fun l => w.mem l
  have kq : iK S1 q 3 := by
    rw [← eq]
    exact (ci.tk _ _ (gD_mem (len l0))).1
  -- another motion's cells
  have oth : ∀ g i, hL H g i → (T1 (rP x g)).getD i 0 ≠ q → ∀ j, j < 4 → ∀ k, giC S2 ((T1 (rP x g)).getD i 0 + j) k = giC S1 ((T1 (rP x g)).getD i 0 + j) k := fun g i l ne j hj k => by
    refine hg _ k (fun j' hj' z => ne ?_)
    exact (mo_2 ci.wf (ci.tk _ _ (gD_mem (len l))).1 kq hj hj' z).1
  have same : ∀ g i, hL H g i → (T1 (rP x g)).getD i 0 = q → g = g0 ∧ i = i0' := fun g i l z => by
    have u := q_uniq ci (len l) (len l0) (z.trans eq.symm)
    exact ⟨rP_inj u.1, u.2⟩
  have c010 : ∀ g i, hL H g i → ∀ k, k = 0 ∨ k = 1 ∨ k = 10 → giC S2 ((T1 (rP x g)).getD i 0) k = giC S1 ((T1 (rP x g)).getD i 0) k := fun g i l k hk' => by
    by_cases z : (T1 (rP x g)).getD i 0 = q
    · rw [z]
      rcases hk' with rfl | rfl | rfl
      · exact hq3.1
      · exact hq3.2.1
      · exact hq3.2.2
    · exact oth g i l z 0 (by omega) k
  have far : ∀ z, (z = x ∨ z = x + 3 ∨ z = x + 7 ∨ z = x + 9 ∨ z = x + 11 ∨ z = x + 12 ∨ (∃ p, p < 8 ∧ z = x + 13 + 3 * p) ∨ z = x + 37 ∨ z = x + 38 ∨ z = x + 39) → ∀ k, giC S2 z k = giC S1 z k := fun z hz k => by
    refine hg z k (fun j hj y => ?_)
    obtain ⟨a1, a2, a3, a4, a5, a6, a7⟩ := mo_x ci kx kq hj
    obtain ⟨b1, b2, b3⟩ := mo_h ci kx kq hj
    rcases hz with hz | hz | hz | hz | hz | hz | ⟨p, hp, hz⟩ | hz | hz | hz
    · exact a1 (y.symm.trans hz)
    · exact a2 (y.symm.trans hz)
    · exact a3 (y.symm.trans hz)
    · exact a4 (y.symm.trans hz)
    · exact a5 (y.symm.trans hz)
    · exact a6 (y.symm.trans hz)
    · exact a7 p hp (y.symm.trans hz)
    · exact b1 (y.symm.trans hz)
    · exact b2 (y.symm.trans hz)
    · exact b3 (y.symm.trans hz)
  have jj := j
  obtain ⟨-, -, -, j2, j3, -, -, -⟩ := jj
  have W := W3k ci.wf kq
  have zq : ∀ l, l = x + 7 ∨ l = x + 9 → ∀ k, giC S2 ((grC S1 l 2).getD 0) k = giC S1 ((grC S1 l 2).getD 0) k := fun l hl' k => by
    have z := (zl_k ci kx hl').2
    refine hg _ k (fun j hj y => ?_)
    rcases (show j = 0 ∨ j = 1 ∨ j = 2 ∨ j = 3 by omega) with rfl | rfl | rfl | rfl
    · exact ik_ne z kq (by decide) y
    · exact ik_ne z W.1 (by decide) y
    · rcases hl' with rfl | rfl
      · exact j2 _ W.1 y
      · exact j3 _ W.1 y
    · exact ik_ne z W.2.2 (by decide) y
  have bd : ∀ g i, hL H g i → (H.2 19 (hM H g i)).toInt ≤ 400 := fun g i l => (h.1.2.2.2.2.1 g i l).2.1.2
  refine ⟨?_, fun g hg' => ?_, ⟨?_, fun p hp => ?_, fun g hg' l t => ?_, fun g hg' l t => ?_, fun g hg' l t => ?_⟩, j.cg e1.1 e1.2.1 e2.2.2.2.1 e2.2.2.2.2 (fun l hl' => ⟨fun k => ?_, hr _ _, zq l hl'⟩) hl (fun z k => hk z 6 k), ⟨a.cg (far x (Or.inl rfl) _) (far x (Or.inl rfl) _) (far _ (Or.inr (Or.inr (Or.inr (Or.inr (Or.inl rfl))))) _) (far _ (Or.inr (Or.inr (Or.inr (Or.inr (Or.inr (Or.inl rfl))))))) e1.2.2.1 e1.2.2.2.1 e1.2.2.2.2 (by rw [e1.2.1]; omega) e2.2.2.1, fun z m => ?_, by rw [s.1.1]; exact sv.2.1, by rw [e2.2.2.2.1]; exact sv.2.2⟩, ?_⟩
  · have f37 := far (x + 37) (Or.inr (Or.inr (Or.inr (Or.inr (Or.inr (Or.inr (Or.inr (Or.inl rfl))))))))
    have f38 := far (x + 38) (Or.inr (Or.inr (Or.inr (Or.inr (Or.inr (Or.inr (Or.inr (Or.inr (Or.inl rfl)))))))))
    have f39 := far (x + 39) (Or.inr (Or.inr (Or.inr (Or.inr (Or.inr (Or.inr (Or.inr (Or.inr (Or.inr rfl)))))))))
    obtain ⟨⟨p1, p2, p3, p4, p5, p6⟩, p7, p8, p9⟩ := hr0
    exact ⟨⟨by rw [f37, s.1.1]; exact p1, by rw [f37, e.1]; exact p2, by rw [f37, e.2.1]; exact p3, by rw [f37, e.2.2.1]; exact p4, by rw [f37, e.2.2.2.1]; exact p5, by rw [f37, e.2.2.2.2]; exact p6⟩, fun y hy ht => by rw [f38, e2.1]; rw [s.1.1] at ht; exact p7 y hy ht, fun y hy => by rw [f39, e2.2.1]; exact p8 y hy, by rw [e.2.2.2.1, s.1.1, e2.1]; exact p9⟩
  · rw [s.n]
    refine ⟨(w g hg').1, fun i hi => ?_⟩
    have l : hL H g i := ⟨hg', by have := (w g hg').1; omega⟩
    rw [s.m]
    by_cases z : (T1 (rP x g)).getD i 0 = q
    · obtain ⟨rfl, rfl⟩ := same g i l z
      rw [z, em]
      exact mq
    · have nm : hM H g i ≠ m := fun y => by
        obtain ⟨rfl, rfl⟩ := h.1.d l l0 (y.trans em.symm)
        exact z eq
      have b := bd g i l
      exact ((w g hg').2 i hi).cg (oth g i l z) s.1.1 (fun k h1 h2 => s.2.2.2.1 k h1 (by omega) _ nm) (fun i' hi' => s.2.2.2.2.1 _ _ nm (by omega)) (fun i' hi' => s.2.2.2.2.2 _ _ nm hi')
  · rw [far (x + 3) (Or.inr (Or.inl rfl)), s.1.2.2.1, s.1.2.2.2.1]
    exact o.1
  · rw [far _ (Or.inr (Or.inr (Or.inr (Or.inr (Or.inr (Or.inr (Or.inl ⟨p, hp, rfl⟩))))))), s.2.1 34 (by omega) (by omega), s.2.1 37 (by omega) (by omega), s.2.2.1.2.2.2.2.2, s.m]
    exact o.2.1 p hp
  · have l := (s.L g 0).mp l
    rw [c010 g 0 l 10 (Or.inr (Or.inr rfl)), s.m, s.2.2.1.2.2.2.1]
    exact o.2.2.1 g hg' l (mt (s.t g).mpr t)
  · rw [s.m, s.2.2.1.2.2.2.1, s.2.2.1.2.2.2.2.1]
    exact o.2.2.2.1 g hg' ((s.L g 0).mp l) (mt (s.t g).mpr t)
  · rw [s.m, s.2.2.1.2.2.2.1, s.2.2.1.2.2.2.2.2]
    exact o.2.2.2.2 g hg' ((s.L g 0).mp l) (mt (s.t g).mpr t)
  · rcases hl' with rfl | rfl
    · exact far _ (Or.inr (Or.inr (Or.inl rfl))) k
    · exact far _ (Or.inr (Or.inr (Or.inr (Or.inl rfl)))) k
  · have kz := hk z 3 m
    by_cases nz : z = q
    · rw [nz]
      exact mq.2.2.2.2.2.1.2
    have c : ∀ i, i < 4 → ∀ k, giC S2 (z + i) k = giC S1 (z + i) k := fun i hi k => hg _ k (fun j' hj' y => nz (mo_2 ci.wf kz kq hi hj' y).1)
    rw [vCn_cg (c 3 (by omega)), show giC S2 z 14 = giC S1 z 14 from c 0 (by omega) 14]
    exact sv.1 z kz
  · obtain ⟨n1, n2, n3, n4⟩ := n
    have f8 := far x (Or.inl rfl) 8
    refine ⟨by rw [f8]; exact n1, fun g i l t => ?_, fun g i g' i' l t l' t' k0 y => ?_, fun j l t d k => ?_⟩
    · have l := (s.L g i).mp l
      rw [c010 g i l 0 (Or.inl rfl), f8, s.m, s.2.2.1.1, s.2.2.1.2.2.2.2.1]
      exact n2 g i l ((s.t g).mp t)
    · have l := (s.L g i).mp l
      have l' := (s.L g' i').mp l'
      rw [c010 g i l 0 (Or.inl rfl), c010 g' i' l' 0 (Or.inl rfl)] at y
      rw [c010 g i l 0 (Or.inl rfl)] at k0
      exact n3 g i g' i' l ((s.t g).mp t) l' ((s.t g').mp t') k0 y
    · have l := (s.L j 0).mp l
      rw [s.m, s.2.2.1.2.2.2.1] at d
      rw [s.m, s.2.2.1.1] at k
      obtain ⟨q1, q2, q3, q4⟩ := n4 j l (mt (s.t j).mpr t) d k
      rw [c010 j 0 l 1 (Or.inr (Or.inl rfl)), f8, s.m, s.2.2.1.2.2.1, s.1.2.2.2.2]
      refine ⟨q1, q2, fun g i lg tg => ?_, fun g lg tg => ?_⟩
      · have lg := (s.L g i).mp lg
        rw [c010 g i lg 0 (Or.inl rfl), s.m, s.2.2.1.2.1]
        exact q3 g i lg ((s.t g).mp tg)
      · rw [s.m, s.2.2.1.2.1]
        exact q4 g ((s.L g 0).mp lg) (mt (s.t g).mpr tg)
end
