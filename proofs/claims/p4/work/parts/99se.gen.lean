/-! ===== a step in general: rows are mapped, one motion is apart ===== -/
section
variable {wF : Prop × (Nat → Int32) × Int32 × (Nat → Int32)} {x : Nat} {S S1 S2 S3 : Cst} {T T1 T2 : Nat → List Nat} {F F1 : List Nat} {col c1 : Nat → Nat} {H H2 H3 : HS} {N N2 M M2 : Int} {D : Nat → Prop} {gs is : Nat}
/-- a motion stands as it stood, at another place perhaps -/
def oM (S1 S2 : Cst) (T1 T2 : Nat → List Nat) (x : Nat) (H H2 : HS) (g i g' i' : Nat) : Prop :=
  hL H g' i' ∧ hM H2 g i = hM H g' i' ∧ (hT H2 g ↔ hT H g') ∧ (¬ hT H g' → 2 ≤ g' → 2 ≤ g) ∧ (T2 (rP x g)).getD i 0 = (T1 (rP x g')).getD i' 0 ∧
  (∀ j, j < 4 → ∀ k, giC S2 ((T1 (rP x g')).getD i' 0 + j) k = giC S1 ((T1 (rP x g')).getD i' 0 + j) k) ∧
  (∀ k, 14 ≤ k → k ≤ 26 → H2.2 k (hM H g' i') = H.2 k (hM H g' i')) ∧ (¬ hT H g' → H2.2 27 (hM H g' i') = H.2 27 (hM H g' i')) ∧ (∀ n, n < 400 → H2.2 28 (400 * hM H g' i' + n) = H.2 28 (400 * hM H g' i' + n)) ∧ ∀ n, n < 200 → H2.2 29 (200 * hM H g' i' + n) = H.2 29 (200 * hM H g' i' + n)
theorem lone0 (hc : HC M H) {g i : Nat} (l : hL H g i) (t : ¬ hT H g) : i = 0 := by
  have a := (hc.1 g l.1).2.2 t
  have b := l.2
  omega
theorem wR.ex (w : wR S1 T1 x H) (hc : HC M H) (e0 : H2.1 0 = H.1 0) (ln : ∀ g, g < 10 → ((T2 (rP x g)).length : Int) = hN H2 g) (all : ∀ g i, hL H2 g i → ¬ (g = gs ∧ i = is) → ∃ g' i', oM S1 S2 T1 T2 x H H2 g i g' i') (exm : hL H2 gs is → mR S2 ((T2 (rP x gs)).getD is 0) H2 (hM H2 gs is)) : wR S2 T2 x H2 := by
  intro g hg
  refine ⟨ln g hg, fun i hi => ?_⟩
  have l : hL H2 g i := ⟨hg, by have := ln g hg; omega⟩
  by_cases z : g = gs ∧ i = is
  · obtain ⟨rfl, rfl⟩ := z
    exact exm l
  · obtain ⟨g', i', l', m', t', _, e', s, f, _, fx, fb⟩ := all g i l z
    rw [e', m']
    have b := (hc.2.2.2.2.1 g' i' l').2.1.2
    exact ((w g' l'.1).2 i' (w.mem l')).cg s e0 (fun k h1 h2 => f k h1 (by omega)) (fun n hn => fx n (by omega)) fb
theorem oR.ex (o : oR S1 T1 x H) (hc : HC M H) (hd : (H2.1 35 = 0 → giC S2 (x + 3) 0 = 0) ∧ (H2.1 35 ≠ 0 → giC S2 (x + 3) 0 = if H2.1 36 = 0 then 2 else 3)) (hp : ∀ p, p < 8 → (H2.2 34 p = 0 → giC S2 (x + 13 + 3 * p) 0 = 0) ∧ (H2.2 34 p ≠ 0 → giC S2 (x + 13 + 3 * p) 0 = if H2.2 37 p = 0 then (if H2.2 27 (hM H2 (p + 2) 0) = 0 then 2 else 1) else 3)) (all : ∀ g i, hL H2 g i → ¬ (g = gs ∧ i = is) → ∃ g' i', oM S1 S2 T1 T2 x H H2 g i g' i') (exo : hL H2 gs is → ¬ hT H2 gs → giC S2 ((T2 (rP x gs)).getD is 0) 10 = H2.2 25 (hM H2 gs is) ∧ (H2.2 25 (hM H2 gs is) = 0 → H2.2 26 (hM H2 gs is) = 0) ∧ (H2.2 27 (hM H2 gs is) ≠ 0 → 2 ≤ gs ∧ H2.2 25 (hM H2 gs is) = 0)) : oR S2 T2 x H2 := by
  refine ⟨hd, hp, fun g hg l t => ?_, fun g hg l t => ?_, fun g hg l t => ?_⟩
  · by_cases z : g = gs ∧ 0 = is
    · obtain ⟨rfl, rfl⟩ := z
      exact (exo l t).1
    · obtain ⟨g', i', l', m', t', _, e', s, f, _⟩ := all g 0 l z
      have u := mt t'.mpr t
      have e0 := lone0 hc l' u
      subst e0
      rw [e', m', f 25 (by omega) (by omega)]
      exact (s 0 (by omega) 10).trans (o.2.2.1 g' l'.1 l' u)
  · by_cases z : g = gs ∧ 0 = is
    · obtain ⟨rfl, rfl⟩ := z
      exact (exo l t).2.1
    · obtain ⟨g', i', l', m', t', _, e', s, f, _⟩ := all g 0 l z
      have u := mt t'.mpr t
      have e0 := lone0 hc l' u
      subst e0
      rw [m', f 25 (by omega) (by omega), f 26 (by omega) (by omega)]
      exact o.2.2.2.1 g' l'.1 l' u
  · by_cases z : g = gs ∧ 0 = is
    · obtain ⟨rfl, rfl⟩ := z
      exact (exo l t).2.2
    · obtain ⟨g', i', l', m', t', g2, e', s, f, f7, _⟩ := all g 0 l z
      have u := mt t'.mpr t
      have e0 := lone0 hc l' u
      subst e0
      rw [m', f 25 (by omega) (by omega), f7 u]
      intro y
      have v := o.2.2.2.2 g' l'.1 l' u y
      exact ⟨g2 u v.1, v.2⟩
/-- what a laid one's subject is, in both -/
def jN (N : Int) (S : Cst) (T : Nat → List Nat) (x : Nat) (H : HS) (j : Nat) : Prop :=
  (1 ≤ (giC S ((T (rP x j)).getD 0 0) 1).toInt ∧ (giC S ((T (rP x j)).getD 0 0) 1).toInt ≤ (giC S x 8).toInt) ∧ (0 ≤ (H.1 30 - H.2 23 (hM H j 0)).toInt ∧ (H.1 30 - H.2 23 (hM H j 0)).toInt < N) ∧
    (∀ g i, hL H g i → hT H g → (giC S ((T (rP x j)).getD 0 0) 1 = giC S ((T (rP x g)).getD i 0) 0 ↔ H.2 23 (hM H j 0) = H.2 22 (hM H g i))) ∧
    ∀ g, hL H g 0 → ¬ hT H g → H.2 23 (hM H j 0) ≠ H.2 22 (hM H g 0)
theorem nR.ex (n : nR N S1 T1 x H) (hc : HC M H) (hc2 : HC M2 H2) (h8 : (giC S1 x 8).toInt ≤ (giC S2 x 8).toInt ∧ (giC S2 x 8).toInt ≤ N2) (age : ∀ s : Int32, 0 ≤ (H.1 30 - s).toInt → (H.1 30 - s).toInt < N → 0 ≤ (H2.1 30 - s).toInt ∧ (H2.1 30 - s).toInt < N2) (all : ∀ g i, hL H2 g i → ¬ (g = gs ∧ i = is) → ∃ g' i', oM S1 S2 T1 T2 x H H2 g i g' i') (exn : hL H2 gs is → hT H2 gs → H2.2 26 (hM H2 gs is) = 0 ∧ (H2.2 14 (hM H2 gs is) ≠ 9 → giC S2 ((T2 (rP x gs)).getD is 0) 0 ≠ 0) ∧ (giC S2 ((T2 (rP x gs)).getD is 0) 0 = 0 ∨ ((giC S1 x 8).toInt < (giC S2 ((T2 (rP x gs)).getD is 0) 0).toInt ∧ (giC S2 ((T2 (rP x gs)).getD is 0) 0).toInt ≤ (giC S2 x 8).toInt))) (exs : hL H2 gs is → ∀ j, hL H j 0 → ¬ hT H j → H.2 25 (hM H j 0) ≠ 0 → (H.2 14 (hM H j 0) = 2 ∨ H.2 14 (hM H j 0) = 3) → H.2 23 (hM H j 0) ≠ H2.2 22 (hM H2 gs is)) (exj : hL H2 gs is → ¬ hT H2 gs → H2.2 25 (hM H2 gs is) ≠ 0 → (H2.2 14 (hM H2 gs is) = 2 ∨ H2.2 14 (hM H2 gs is) = 3) → jN N2 S2 T2 x H2 gs) : nR N2 S2 T2 x H2 := by
  obtain ⟨n1, n2, n3, n4⟩ := n
  refine ⟨⟨by omega, h8.2⟩, fun g i l t => ?_, fun g i g2 i2 l t l2 t2 k0 e => ?_, fun j l t d k => ?_⟩
  · by_cases z : g = gs ∧ i = is
    · obtain ⟨rfl, rfl⟩ := z
      obtain ⟨p1, p2, p3⟩ := exn l t
      refine ⟨p2, ?_, p1⟩
      rcases p3 with y | y
      · rw [y, i0]
        omega
      · omega
    · obtain ⟨g', i', l', m', t', _, e', s, f, _⟩ := all g i l z
      obtain ⟨p1, p3, p2⟩ := n2 g' i' l' (t'.mp t)
      have s0 : giC S2 ((T1 (rP x g')).getD i' 0) 0 = giC S1 ((T1 (rP x g')).getD i' 0) 0 := s 0 (by omega) 0
      rw [e', m', s0, f 14 (by omega) (by omega), f 26 (by omega) (by omega)]
      exact ⟨p1, by omega, p2⟩
  · by_cases z : g = gs ∧ i = is
    · by_cases z2 : g2 = gs ∧ i2 = is
      · exact ⟨z.1.trans z2.1.symm, z.2.trans z2.2.symm⟩
      · obtain ⟨rfl, rfl⟩ := z
        obtain ⟨p1, p2, p3⟩ := exn l t
        obtain ⟨g', i', l', m', t', _, e', s, f, _⟩ := all g2 i2 l2 z2
        have s0 : giC S2 ((T1 (rP x g')).getD i' 0) 0 = giC S1 ((T1 (rP x g')).getD i' 0) 0 := s 0 (by omega) 0
        have b := (n2 g' i' l' (t'.mp t2)).2.1
        rcases p3 with y | y
        · exact absurd y k0
        · rw [e, e', s0] at y
          omega
    · obtain ⟨g', i', l', m', t', _, e', s, f, _⟩ := all g i l z
      have s0 : giC S2 ((T1 (rP x g')).getD i' 0) 0 = giC S1 ((T1 (rP x g')).getD i' 0) 0 := s 0 (by omega) 0
      by_cases z2 : g2 = gs ∧ i2 = is
      · obtain ⟨rfl, rfl⟩ := z2
        obtain ⟨p1, p2, p3⟩ := exn l2 t2
        have b := (n2 g' i' l' (t'.mp t)).2.1
        rcases p3 with y | y
        · exact absurd (e.trans y) k0
        · rw [← e, e', s0] at y
          omega
      · obtain ⟨g'', i'', l'', m'', t'', _, e'', s', f', _⟩ := all g2 i2 l2 z2
        have s1 : giC S2 ((T1 (rP x g'')).getD i'' 0) 0 = giC S1 ((T1 (rP x g'')).getD i'' 0) 0 := s' 0 (by omega) 0
        rw [e', s0] at k0
        rw [e', e'', s0, s1] at e
        obtain ⟨r1, r2⟩ := n3 g' i' g'' i'' l' (t'.mp t) l'' (t''.mp t2) k0 e
        refine hc2.d l l2 ?_
        rw [m', m'', r1, r2]
  · by_cases z : j = gs ∧ 0 = is
    · obtain ⟨rfl, rfl⟩ := z
      exact exj l t d k
    · obtain ⟨g', i', l', m', t', _, e', s, f, _⟩ := all j 0 l z
      have u := mt t'.mpr t
      have e0 := lone0 hc l' u
      subst e0
      have s1 : giC S2 ((T1 (rP x g')).getD 0 0) 1 = giC S1 ((T1 (rP x g')).getD 0 0) 1 := s 0 (by omega) 1
      rw [m', f 25 (by omega) (by omega)] at d
      rw [m', f 14 (by omega) (by omega)] at k
      obtain ⟨q1, q2, q3, q4⟩ := n4 g' l' u d k
      rw [e', s1, m', f 23 (by omega) (by omega)]
      refine ⟨⟨by omega, by omega⟩, age _ q2.1 q2.2, fun g i lg tg => ?_, fun g lg tg => ?_⟩
      · by_cases z2 : g = gs ∧ i = is
        · obtain ⟨rfl, rfl⟩ := z2
          obtain ⟨p1, p2, p3⟩ := exn lg tg
          have ns := exs lg g' l' u d k
          refine ⟨fun y => ?_, fun y => absurd y ns⟩
          have y' := congrArg Int32.toInt y
          rcases p3 with v | v
          · rw [v, i0] at y'
            omega
          · omega
        · obtain ⟨g'', i'', l'', m'', t'', _, e'', s', f', _⟩ := all g i lg z2
          have s2 : giC S2 ((T1 (rP x g'')).getD i'' 0) 0 = giC S1 ((T1 (rP x g'')).getD i'' 0) 0 := s' 0 (by omega) 0
          rw [e'', s2, m'', f' 22 (by omega) (by omega)]
          exact q3 g'' i'' l'' (t''.mp tg)
      · by_cases z2 : g = gs ∧ 0 = is
        · obtain ⟨rfl, rfl⟩ := z2
          exact exs lg g' l' u d k
        · obtain ⟨g'', i'', l'', m'', t'', _, e'', s', f', _⟩ := all g 0 lg z2
          have u2 := mt t''.mpr tg
          have e0 := lone0 hc l'' u2
          subst e0
          rw [m'', f' 22 (by omega) (by omega)]
          exact q4 g'' l'' u2
/-- the whole state -/
theorem RR.ex (r : RR wF N S1 T1 x H) (hc : HC M H) (hc2 : HC M2 H2) (hh : hR S2 x H2) (jj : jR wF S2 x H2) (aa : aR wF S2 x H2) (sv : sW wF S2 H2) (e0 : H2.1 0 = H.1 0) (ln : ∀ g, g < 10 → ((T2 (rP x g)).length : Int) = hN H2 g) (hd : (H2.1 35 = 0 → giC S2 (x + 3) 0 = 0) ∧ (H2.1 35 ≠ 0 → giC S2 (x + 3) 0 = if H2.1 36 = 0 then 2 else 3)) (hp : ∀ p, p < 8 → (H2.2 34 p = 0 → giC S2 (x + 13 + 3 * p) 0 = 0) ∧ (H2.2 34 p ≠ 0 → giC S2 (x + 13 + 3 * p) 0 = if H2.2 37 p = 0 then (if H2.2 27 (hM H2 (p + 2) 0) = 0 then 2 else 1) else 3)) (h8 : (giC S1 x 8).toInt ≤ (giC S2 x 8).toInt ∧ (giC S2 x 8).toInt ≤ N2) (age : ∀ s : Int32, 0 ≤ (H.1 30 - s).toInt → (H.1 30 - s).toInt < N → 0 ≤ (H2.1 30 - s).toInt ∧ (H2.1 30 - s).toInt < N2) (all : ∀ g i, hL H2 g i → ¬ (g = gs ∧ i = is) → ∃ g' i', oM S1 S2 T1 T2 x H H2 g i g' i') (exm : hL H2 gs is → mR S2 ((T2 (rP x gs)).getD is 0) H2 (hM H2 gs is)) (exo : hL H2 gs is → ¬ hT H2 gs → giC S2 ((T2 (rP x gs)).getD is 0) 10 = H2.2 25 (hM H2 gs is) ∧ (H2.2 25 (hM H2 gs is) = 0 → H2.2 26 (hM H2 gs is) = 0) ∧ (H2.2 27 (hM H2 gs is) ≠ 0 → 2 ≤ gs ∧ H2.2 25 (hM H2 gs is) = 0)) (exn : hL H2 gs is → hT H2 gs → H2.2 26 (hM H2 gs is) = 0 ∧ (H2.2 14 (hM H2 gs is) ≠ 9 → giC S2 ((T2 (rP x gs)).getD is 0) 0 ≠ 0) ∧ (giC S2 ((T2 (rP x gs)).getD is 0) 0 = 0 ∨ ((giC S1 x 8).toInt < (giC S2 ((T2 (rP x gs)).getD is 0) 0).toInt ∧ (giC S2 ((T2 (rP x gs)).getD is 0) 0).toInt ≤ (giC S2 x 8).toInt))) (exs : hL H2 gs is → ∀ j, hL H j 0 → ¬ hT H j → H.2 25 (hM H j 0) ≠ 0 → (H.2 14 (hM H j 0) = 2 ∨ H.2 14 (hM H j 0) = 3) → H.2 23 (hM H j 0) ≠ H2.2 22 (hM H2 gs is)) (exj : hL H2 gs is → ¬ hT H2 gs → H2.2 25 (hM H2 gs is) ≠ 0 → (H2.2 14 (hM H2 gs is) = 2 ∨ H2.2 14 (hM H2 gs is) = 3) → jN N2 S2 T2 x H2 gs) : RR wF N2 S2 T2 x H2 :=
  ⟨hh, r.2.1.ex hc e0 ln all exm, r.2.2.1.ex hc hd hp all exo, jj, ⟨aa, sv⟩, r.2.2.2.2.2.ex hc hc2 h8 age all exn exs exj⟩
/-! motions' cells apart from others', with the store's form alone -/
theorem dM_a (wf : wfS S2) {q q0 : Nat} (k : iK S2 q 3) (k0 : iK S2 q0 3) (ne : q ≠ q0) : ∀ j, j < 4 → ¬ dM q0 (q + j) := fun j hj y =>
  ne (mo_2 wf k k0 hj (j' := q + j - q0) (by have := y.2; omega) (by have := y.1; omega)).1
theorem dM_z {z q0 : Nat} (h : ∀ j, j < 4 → q0 + j ≠ z) : ¬ dM q0 z := fun y => h (z - q0) (by have := y.2; have := y.1; omega) (by have := y.1; omega)
theorem dM_h (ci : CI noE S1 T1 [] c1) (kx : iK S1 x 0) {q : Nat} (k : iK S1 q 3) : ¬ dM q (x + 37) ∧ ¬ dM q (x + 38) ∧ ¬ dM q (x + 39) :=
  ⟨dM_z fun _ hj => (mo_h ci kx k hj).1, dM_z fun _ hj => (mo_h ci kx k hj).2.1, dM_z fun _ hj => (mo_h ci kx k hj).2.2⟩
theorem dM_x (ci : CI noE S1 T1 [] c1) (kx : iK S1 x 0) {q : Nat} (k : iK S1 q 3) : ¬ dM q x ∧ ¬ dM q (x + 3) ∧ ¬ dM q (x + 7) ∧ ¬ dM q (x + 9) ∧ ¬ dM q (x + 11) ∧ ¬ dM q (x + 12) ∧ ∀ p, p < 8 → ¬ dM q (x + 13 + 3 * p) :=
  ⟨dM_z fun _ hj => (mo_x ci kx k hj).1, dM_z fun _ hj => (mo_x ci kx k hj).2.1, dM_z fun _ hj => (mo_x ci kx k hj).2.2.1, dM_z fun _ hj => (mo_x ci kx k hj).2.2.2.1, dM_z fun _ hj => (mo_x ci kx k hj).2.2.2.2.1, dM_z fun _ hj => (mo_x ci kx k hj).2.2.2.2.2.1, fun p hp => dM_z fun _ hj => (mo_x ci kx k hj).2.2.2.2.2.2 p hp⟩
/-- a motion's cells are no ledger's -/
theorem dM_l (ci : CI noE S1 T1 [] c1) (kx : iK S1 x 0) {q : Nat} (k : iK S1 q 3) (j : jR wF S1 x H) {l : Nat} (hl : l = x + 7 ∨ l = x + 9) : ¬ dM q ((grC S1 l 2).getD 0) := dM_z fun i hi y => by
  have W := W3k ci.wf k
  have z := (zl_k ci kx hl).2
  rcases (show i = 0 ∨ i = 1 ∨ i = 2 ∨ i = 3 by omega) with rfl | rfl | rfl | rfl
  · exact ik_ne z k (by decide) y.symm
  · exact ik_ne z W.1 (by decide) y.symm
  · rcases hl with rfl | rfl
    · exact j.2.2.2.1 _ W.1 y.symm
    · exact j.2.2.2.2.1 _ W.1 y.symm
  · exact ik_ne z W.2.2 (by decide) y.symm
theorem vCn_0s {q : Nat} : ∀ n, (∀ s, s < n → giC S1 (q + 3) s = 0) → vCn S1 q n = 0 := by
  intro n
  induction n with
  | zero => intro _; rfl
  | succ n ih =>
    intro h
    rw [vCn, ih (fun s hs => h s (by omega)), if_pos (h n (by omega))]
/-- all motions' votes are counted still: one was made anew -/
theorem sV.nw (v : sV S1) (g : gX D S1 S2) (wf : wfS S1) {q : Nat} (hk : ∀ z, iK S2 z 3 → z = q ∨ iK S1 z 3) (n : ∀ z, iK S1 z 3 → z ≠ q → ∀ j, j < 4 → ¬ D (z + j)) (hq : (giC S2 q 14).toInt = vCn S2 q 200) : sV S2 := fun z k => by
  by_cases e : z = q
  · rw [e]
    exact hq
  · have kz : iK S1 z 3 := (hk z k).resolve_left e
    have c := g.mo4 wf kz (n z kz e)
    rw [vCn_cg (c 3 (by omega)), show giC S2 z 14 = giC S1 z 14 from c 0 (by omega) 14]
    exact v z kz
end
