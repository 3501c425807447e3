/-! ===== what stays where something else is written ===== -/
section
variable {wF : Prop × (Nat → Int32) × Int32 × (Nat → Int32)} {x : Nat} {S S1 S2 : Cst} {T T1 T2 : Nat → List Nat} {col c1 : Nat → Nat} {H H2 : HS} {N : Int}
/-- motions and rows are the same -/
def sH (H2 H : HS) : Prop := (H2.1 0 = H.1 0 ∧ H2.1 6 = H.1 6 ∧ H2.1 35 = H.1 35 ∧ H2.1 36 = H.1 36 ∧ H2.1 30 = H.1 30) ∧ ∀ k, 13 ≤ k → k ≤ 37 → H2.2 k = H.2 k
theorem sH.rf (H : HS) : sH H H := ⟨⟨rfl, rfl, rfl, rfl, rfl⟩, fun _ _ _ => rfl⟩
theorem sH.I (H : HS) {k : Nat} (v : Int32) (h0 : 0 ≠ k) (h6 : 6 ≠ k) (h35 : 35 ≠ k) (h36 : 36 ≠ k) (h30 : 30 ≠ k) : sH (sI H k v) H :=
  ⟨⟨if_neg h0, if_neg h6, if_neg h35, if_neg h36, if_neg h30⟩, fun _ _ _ => rfl⟩
theorem sH.A (H : HS) {k : Nat} (i : Nat) (v : Int32) (h : k < 13 ∨ 37 < k) : sH (sA H k i v) H :=
  ⟨⟨rfl, rfl, rfl, rfl, rfl⟩, fun j h1 h2 => if_neg (fun z => by omega)⟩
theorem sH.tr {H3 : HS} (s : sH H3 H2) (t : sH H2 H) : sH H3 H := ⟨⟨s.1.1.trans t.1.1, s.1.2.1.trans t.1.2.1, s.1.2.2.1.trans t.1.2.2.1, s.1.2.2.2.1.trans t.1.2.2.2.1, s.1.2.2.2.2.trans t.1.2.2.2.2⟩, fun k h1 h2 => (s.2 k h1 h2).trans (t.2 k h1 h2)⟩
theorem sH.n (s : sH H2 H) (g : Nat) : hN H2 g = hN H g := by
  match g with
  | 0 => show (H2.1 6).toInt = (H.1 6).toInt; rw [s.1.2.1]
  | 1 => show (H2.1 35).toInt = (H.1 35).toInt; rw [s.1.2.2.1]
  | p + 2 => show (H2.2 34 p).toInt = (H.2 34 p).toInt; rw [s.2 34 (by omega) (by omega)]
theorem sH.m (s : sH H2 H) (g i : Nat) : hM H2 g i = hM H g i := by
  unfold hM
  match g with
  | 0 => show (H2.2 31 i).toNatClampNeg = (H.2 31 i).toNatClampNeg; rw [s.2 31 (by omega) (by omega)]
  | 1 => show (H2.2 32 i).toNatClampNeg = (H.2 32 i).toNatClampNeg; rw [s.2 32 (by omega) (by omega)]
  | p + 2 => show (H2.2 33 (9 * p + i)).toNatClampNeg = (H.2 33 (9 * p + i)).toNatClampNeg; rw [s.2 33 (by omega) (by omega)]
theorem sH.t (s : sH H2 H) (g : Nat) : hT H2 g ↔ hT H g := by
  match g with
  | 0 => exact Iff.rfl
  | 1 => show H2.1 36 ≠ 0 ↔ H.1 36 ≠ 0; rw [s.1.2.2.2.1]
  | p + 2 => show H2.2 37 p ≠ 0 ↔ H.2 37 p ≠ 0; rw [s.2 37 (by omega) (by omega)]
theorem sH.L (s : sH H2 H) (g i : Nat) : hL H2 g i ↔ hL H g i := by
  unfold hL
  rw [s.n]
theorem vCn_cg {q : Nat} (h : ∀ k, giC S2 (q + 3) k = giC S1 (q + 3) k) : ∀ n, vCn S2 q n = vCn S1 q n := by
  intro n
  induction n with
  | zero => rfl
  | succ n ih => rw [vCn, vCn, ih, h]
theorem mR.cg {q m : Nat} (h : mR S1 q H m) (hs : ∀ j, j < 4 → ∀ k, giC S2 (q + j) k = giC S1 (q + j) k) (h0 : H2.1 0 = H.1 0) (hm : ∀ k, 14 ≤ k → k ≤ 26 → H2.2 k m = H.2 k m) (hx : ∀ i : Nat, (i : Int) < (H.2 19 m).toInt → H2.2 28 (400 * m + i) = H.2 28 (400 * m + i)) (hb : ∀ i, i < 200 → H2.2 29 (200 * m + i) = H.2 29 (200 * m + i)) : mR S2 q H2 m := by
  obtain ⟨⟨a1, a2, a3, a4, a5⟩, ⟨b1, b2⟩, c, ⟨d1, d2⟩, e, ⟨f1, f2⟩, g⟩ := h
  have s0 : ∀ k, giC S2 q k = giC S1 q k := hs 0 (by omega)
  have s1 := hs 1 (by omega)
  have s2 := hs 2 (by omega)
  have s3 := hs 3 (by omega)
  have m14 := hm 14 (by omega) (by omega)
  have m19 := hm 19 (by omega) (by omega)
  have m20 := hm 20 (by omega) (by omega)
  have m21 := hm 21 (by omega) (by omega)
  have m26 := hm 26 (by omega) (by omega)
  refine ⟨⟨by rw [s0, m14]; exact a1, by rw [s0, hm 15 (by omega) (by omega)]; exact a2, by rw [s0, hm 16 (by omega) (by omega)]; exact a3, by rw [s0, hm 17 (by omega) (by omega)]; exact a4, by rw [s0, hm 18 (by omega) (by omega)]; exact a5⟩, ⟨by rw [s0, hm 24 (by omega) (by omega)]; exact b1, by rw [s0, m26]; exact b2⟩, fun z => ?_, ⟨by rw [s1, m19]; exact d1, fun i hi => ?_⟩, fun s hs' => ?_, ⟨fun s h1 h2 => ?_, ?_⟩, fun z1 z2 => ?_⟩
  · rw [m26] at z
    rw [s0, s0, m20, m21]
    exact c z
  · rw [m19] at hi
    rw [s2, hx i hi]
    exact d2 i hi
  · rw [s3, hb s hs']
    exact e s hs'
  · rw [h0] at h2
    rw [s3]
    exact f1 s h1 h2
  · rw [s0, vCn_cg s3]
    exact f2
  · rw [m14] at z1 z2
    rw [m20, m21, m26]
    exact g z1 z2
theorem mR.s {q m : Nat} (h : mR S1 q H m) (hs : ∀ j, j < 4 → ∀ k, giC S2 (q + j) k = giC S1 (q + j) k) (s : sH H2 H) : mR S2 q H2 m :=
  h.cg hs s.1.1 (fun k h1 h2 => by rw [s.2 k (by omega) (by omega)]) (fun i _ => by rw [s.2 28 (by omega) (by omega)]) (fun i _ => by rw [s.2 29 (by omega) (by omega)])
/-- the motions of a state: what is read of them is the same in both -/
def mQ (T : Nat → List Nat) (x : Nat) (S1 S2 : Cst) : Prop := ∀ g, g < 10 → ∀ q, q ∈ T (rP x g) → ∀ j, j < 4 → ∀ k, giC S2 (q + j) k = giC S1 (q + j) k
theorem wR.cg (w : wR S1 T1 x H) (s : sH H2 H) (hT : ∀ g, g < 10 → T2 (rP x g) = T1 (rP x g)) (hm : mQ T1 x S1 S2) : wR S2 T2 x H2 := by
  intro g hg
  rw [hT g hg, s.n]
  refine ⟨(w g hg).1, fun i hi => ?_⟩
  rw [s.m]
  exact ((w g hg).2 i hi).s (hm g hg _ (gD_mem hi)) s
theorem wR.mem (w : wR S1 T1 x H) {g i : Nat} (l : hL H g i) : i < (T1 (rP x g)).length := by
  have := (w g l.1).1
  have := l.2
  omega
theorem oR.cg (o : oR S1 T1 x H) (w : wR S1 T1 x H) (s : sH H2 H) (hT : ∀ g, g < 10 → T2 (rP x g) = T1 (rP x g)) (hm : mQ T1 x S1 S2) (hd : giC S2 (x + 3) 0 = giC S1 (x + 3) 0) (hp : ∀ p, p < 8 → giC S2 (x + 13 + 3 * p) 0 = giC S1 (x + 13 + 3 * p) 0) : oR S2 T2 x H2 := by
  refine ⟨?_, fun p h => ?_, fun g hg l t => ?_, fun g hg l t => ?_, fun g hg l t => ?_⟩
  · rw [hd, s.1.2.2.1, s.1.2.2.2.1]
    exact o.1
  · rw [hp p h, s.2 34 (by omega) (by omega), s.2 37 (by omega) (by omega), s.2 27 (by omega) (by omega), s.m]
    exact o.2.1 p h
  · have l := (s.L g 0).mp l
    have t := mt (s.t g).mpr t
    have e := hm g hg _ (gD_mem (w.mem l)) 0 (by omega) 10
    rw [hT g hg, s.m, s.2 25 (by omega) (by omega)]
    exact e.trans (o.2.2.1 g hg l t)
  · rw [s.m, s.2 25 (by omega) (by omega), s.2 26 (by omega) (by omega)]
    exact o.2.2.2.1 g hg ((s.L g 0).mp l) (mt (s.t g).mpr t)
  · rw [s.m, s.2 25 (by omega) (by omega), s.2 27 (by omega) (by omega)]
    exact o.2.2.2.2 g hg ((s.L g 0).mp l) (mt (s.t g).mpr t)
theorem nR.cg (n : nR N S1 T1 x H) (w : wR S1 T1 x H) (s : sH H2 H) (hT : ∀ g, g < 10 → T2 (rP x g) = T1 (rP x g)) (hm : mQ T1 x S1 S2) (h8 : giC S2 x 8 = giC S1 x 8) : nR N S2 T2 x H2 := by
  obtain ⟨n1, n2, n3, n4⟩ := n
  have ee : ∀ g i, hL H g i → ∀ k, giC S2 ((T2 (rP x g)).getD i 0) k = giC S1 ((T1 (rP x g)).getD i 0) k := fun g i l k => by
    rw [hT g l.1]
    exact hm g l.1 _ (gD_mem (w.mem l)) 0 (by omega) k
  refine ⟨by rw [h8]; exact n1, fun g i l t => ?_, fun g i g' i' l t l' t' k0 e => ?_, fun j l t d k => ?_⟩
  · have l := (s.L g i).mp l
    rw [ee g i l, h8, s.m, s.2 14 (by omega) (by omega), s.2 26 (by omega) (by omega)]
    exact n2 g i l ((s.t g).mp t)
  · have l := (s.L g i).mp l
    have l' := (s.L g' i').mp l'
    rw [ee g i l, ee g' i' l'] at e
    rw [ee g i l] at k0
    exact n3 g i g' i' l ((s.t g).mp t) l' ((s.t g').mp t') k0 e
  · have l := (s.L j 0).mp l
    rw [s.m, s.2 25 (by omega) (by omega)] at d
    rw [s.m, s.2 14 (by omega) (by omega)] at k
    obtain ⟨q1, q2, q3, q4⟩ := n4 j l (mt (s.t j).mpr t) d k
    rw [ee j 0 l, h8, s.m, s.2 23 (by omega) (by omega), s.1.2.2.2.2]
    refine ⟨q1, q2, fun g i lg tg => ?_, fun g lg tg => ?_⟩
    · have lg := (s.L g i).mp lg
      rw [ee g i lg, s.m, s.2 22 (by omega) (by omega)]
      exact q3 g i lg ((s.t g).mp tg)
    · rw [s.m, s.2 22 (by omega) (by omega)]
      exact q4 g ((s.L g 0).mp lg) (mt (s.t g).mpr tg)
theorem jR.cg (j : jR wF S1 x H) (h7 : H2.1 7 = H.1 7) (h8 : H2.1 8 = H.1 8) (e40 : H2.2 40 = H.2 40) (e41 : H2.2 41 = H.2 41) (hg : ∀ l, l = x + 7 ∨ l = x + 9 → (∀ k, giC S2 l k = giC S1 l k) ∧ grC S2 l 2 = grC S1 l 2 ∧ ∀ k, giC S2 ((grC S1 l 2).getD 0) k = giC S1 ((grC S1 l 2).getD 0) k) (hl : ∀ q, lnC S2 q = lnC S1 q) (hk : ∀ q, iK S2 q 6 → iK S1 q 6) : jR wF S2 x H2 := by
  obtain ⟨⟨a1, a2, a3⟩, ⟨b1, b2, b3⟩, ⟨c1, c2⟩, d1, d2, d3, d4, d5, d6⟩ := j
  obtain ⟨u1, u2, u3⟩ := hg (x + 7) (Or.inl rfl)
  obtain ⟨v1, v2, v3⟩ := hg (x + 9) (Or.inr rfl)
  have l7 : lcl S2 (x + 7) = lcl S1 (x + 7) := by unfold lcl; rw [u2, hl]
  have l9 : lcl S2 (x + 9) = lcl S1 (x + 9) := by unfold lcl; rw [v2, hl]
  refine ⟨⟨by rw [u1, h7]; exact a1, by rw [l7, h7]; exact a2, fun i k hi hk' => ?_⟩, ⟨by rw [v1, h8]; exact b1, by rw [l9, h8]; exact b2, fun i k hi hk' => ?_⟩, ⟨by rw [u1]; exact c1, by rw [v1]; exact c2⟩, fun q k => ?_, fun q k => ?_, by rw [u2, v2]; exact d3, by rw [u2]; exact d4, by rw [v2]; exact d5, fun i hi => by rw [u2, u3]; exact d6 i (by rw [← h7]; exact hi)⟩
  · rw [h7] at hi
    rw [u2, u3, e40]
    exact a3 i k hi hk'
  · rw [h8] at hi
    rw [v2, v3, e41]
    exact b3 i k hi hk'
  · rw [u2]
    exact d1 q (hk q k)
  · rw [v2]
    exact d2 q (hk q k)
theorem aR.cg (a : aR wF S1 x H) (h7 : giC S2 x 7 = giC S1 x 7) (h9 : giC S2 x 9 = giC S1 x 9) (h11 : giC S2 (x + 11) 1 = giC S1 (x + 11) 1) (h12 : ∀ k, giC S2 (x + 12) k = giC S1 (x + 12) k) (e9 : H2.1 9 = H.1 9) (e10 : H2.1 10 = H.1 10) (e39 : H2.1 39 = H.1 39) (e8 : (H.1 8).toInt ≤ (H2.1 8).toInt) (e38 : H2.2 38 = H.2 38) : aR wF S2 x H2 := by
  obtain ⟨⟨a1, a2⟩, a3, a4, a5, a6⟩ := a
  refine ⟨⟨by rw [h7, e9]; exact a1, by rw [h9, e10]; exact a2⟩, by rw [e9]; omega, ?_, ?_, fun i hi => ?_⟩
  · rw [e9, e39, h11]
    exact a4
  · rw [e9, e39, h11]
    exact a5
  · rw [e39] at hi
    rw [h12, e38]
    exact a6 i hi
/-! cells apart -/
theorem W3k (wf : wfS S1) {q : Nat} (k : iK S1 q 3) : iK S1 (q + 1) 6 ∧ iK S1 (q + 2) 20 ∧ iK S1 (q + 3) 22 := by
  have w := wf.w3 k
  exact ⟨w.1.1, (wf.w6 w.1.1).1.1, w.1.2.1⟩
theorem ik_ne {S : Cst} {p q c d : Nat} (h : iK S p c) (g : iK S q d) (n : c ≠ d) : p ≠ q := fun z => n (by rw [← h.2, ← g.2, z])
theorem mo_h (ci : CI noE S1 T1 [] c1) (kx : iK S1 x 0) {q : Nat} (k : iK S1 q 3) {j : Nat} (hj : j < 4) : q + j ≠ x + 37 ∧ q + j ≠ x + 38 ∧ q + j ≠ x + 39 := by
  obtain ⟨k1, k2, k3⟩ := W3k ci.wf k
  have h1 : iK S1 (x + 37) 1 := (ci.wf.w0 kx).1.1
  have h2 : iK S1 (x + 38) 21 := (ci.wf.w1 h1).1.1
  have h3 : iK S1 (x + 39) 20 := (ci.wf.w1 h1).1.2.2.1
  have n := ik_ne k h1 (by decide)
  rcases (show j = 0 ∨ j = 1 ∨ j = 2 ∨ j = 3 by omega) with rfl | rfl | rfl | rfl
  · exact ⟨ik_ne k h1 (by decide), ik_ne k h2 (by decide), ik_ne k h3 (by decide)⟩
  · exact ⟨ik_ne k1 h1 (by decide), ik_ne k1 h2 (by decide), ik_ne k1 h3 (by decide)⟩
  · exact ⟨ik_ne k2 h1 (by decide), ik_ne k2 h2 (by decide), by omega⟩
  · exact ⟨ik_ne k3 h1 (by decide), ik_ne k3 h2 (by decide), ik_ne k3 h3 (by decide)⟩
theorem mo_2 (wf : wfS S1) {q q' : Nat} (k : iK S1 q 3) (k' : iK S1 q' 3) {j j' : Nat} (hj : j < 4) (hj' : j' < 4) (e : q + j = q' + j') : q = q' ∧ j = j' := by
  obtain ⟨k1, k2, k3⟩ := W3k wf k
  obtain ⟨l1, l2, l3⟩ := W3k wf k'
  rcases (show j = 0 ∨ j = 1 ∨ j = 2 ∨ j = 3 by omega) with rfl | rfl | rfl | rfl <;> rcases (show j' = 0 ∨ j' = 1 ∨ j' = 2 ∨ j' = 3 by omega) with rfl | rfl | rfl | rfl
  · exact ⟨by omega, rfl⟩
  · exact absurd e (ik_ne k l1 (by decide))
  · exact absurd e (ik_ne k l2 (by decide))
  · exact absurd e (ik_ne k l3 (by decide))
  · exact absurd e (ik_ne k1 k' (by decide))
  · exact ⟨by omega, rfl⟩
  · exact absurd e (ik_ne k1 l2 (by decide))
  · exact absurd e (ik_ne k1 l3 (by decide))
  · exact absurd e (ik_ne k2 k' (by decide))
  · exact absurd e (ik_ne k2 l1 (by decide))
  · exact ⟨by omega, rfl⟩
  · exact absurd e (ik_ne k2 l3 (by decide))
  · exact absurd e (ik_ne k3 k' (by decide))
  · exact absurd e (ik_ne k3 l1 (by decide))
  · exact absurd e (ik_ne k3 l2 (by decide))
  · exact ⟨by omega, rfl⟩
/-- a motion's cells are none of the assembly's own -/
theorem mo_x (ci : CI noE S1 T1 [] c1) (kx : iK S1 x 0) {q : Nat} (k : iK S1 q 3) {j : Nat} (hj : j < 4) : q + j ≠ x ∧ q + j ≠ x + 3 ∧ q + j ≠ x + 7 ∧ q + j ≠ x + 9 ∧ q + j ≠ x + 11 ∧ q + j ≠ x + 12 ∧ ∀ p, p < 8 → q + j ≠ x + 13 + 3 * p := by
  obtain ⟨k1, k2, k3⟩ := W3k ci.wf k
  have w := ci.wf.w0 kx
  have h0 := kx
  have h3 : iK S1 (x + 3) 5 := w.1.2.2.1
  have h7 : iK S1 (x + 7) 2 := w.1.2.2.2.2.1
  have h9 : iK S1 (x + 9) 2 := w.1.2.2.2.2.2.1
  have h11 : iK S1 (x + 11) 6 := w.1.2.2.2.2.2.2
  have h12 : iK S1 (x + 12) 20 := (ci.wf.w6 h11).1.1
  have hp : ∀ p, p < 8 → iK S1 (x + 13 + 3 * p) 5 := fun p h => (dk_ix ci.wf kx h).2
  have h13 : iK S1 (x + 13) 5 := hp 0 (by omega)
  have n13 : q + 3 ≠ x + 13 := ik_ne k3 h13 (by decide)
  rcases (show j = 0 ∨ j = 1 ∨ j = 2 ∨ j = 3 by omega) with rfl | rfl | rfl | rfl
  · exact ⟨ik_ne k h0 (by decide), ik_ne k h3 (by decide), ik_ne k h7 (by decide), ik_ne k h9 (by decide), ik_ne k h11 (by decide), ik_ne k h12 (by decide), fun p h => ik_ne k (hp p h) (by decide)⟩
  · exact ⟨ik_ne k1 h0 (by decide), ik_ne k1 h3 (by decide), ik_ne k1 h7 (by decide), ik_ne k1 h9 (by decide), by omega, ik_ne k1 h12 (by decide), fun p h => ik_ne k1 (hp p h) (by decide)⟩
  · exact ⟨ik_ne k2 h0 (by decide), ik_ne k2 h3 (by decide), ik_ne k2 h7 (by decide), ik_ne k2 h9 (by decide), ik_ne k2 h11 (by decide), by omega, fun p h => ik_ne k2 (hp p h) (by decide)⟩
  · exact ⟨ik_ne k3 h0 (by decide), ik_ne k3 h3 (by decide), ik_ne k3 h7 (by decide), ik_ne k3 h9 (by decide), ik_ne k3 h11 (by decide), ik_ne k3 h12 (by decide), fun p h => ik_ne k3 (hp p h) (by decide)⟩
end
