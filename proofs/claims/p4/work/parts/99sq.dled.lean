/-! ===== a ledger moved, nothing else ===== -/
section
variable {wF : Prop × (Nat → Int32) × Int32 × (Nat → Int32)} {E : Nat → Prop} {x : Nat} {S S1 S2 S3 : Cst} {T T1 T2 T3 : Nat → List Nat} {F F1 : List Nat} {col c1 c2 c3 : Nat → Nat} {H H2 H3 : HS} {N N2 M M2 : Int} {D : Nat → Prop}
/-- the ledger at x + 9 moved, nothing else -/
theorem RR.l9 (r : RR wF N S1 T1 x H) (ci : CI noE S1 T1 [] c1) (kx : iK S1 x 0) (g : LSt noE T1 [] (x + 9) S1 c1 S2 c2) (hk : nk S1 S2) (e3 : giC S2 (x + 9) 3 = H2.1 8) (el : 5 * (H2.1 8).toInt ≤ lcl S2 (x + 9)) (ec : ∀ i j : Nat, (i : Int) < (H2.1 8).toInt → j < 5 → giC S2 ((grC S2 (x + 9) 2).getD 0) (5 * i + j) = H2.2 41 (5 * i + j)) (s : sH H2 H) (e1 : H2.1 1 = H.1 1 ∧ H2.1 2 = H.1 2 ∧ H2.1 3 = H.1 3 ∧ H2.1 4 = H.1 4 ∧ H2.1 5 = H.1 5) (e2 : H2.1 7 = H.1 7 ∧ H2.1 9 = H.1 9 ∧ H2.1 10 = H.1 10 ∧ H2.1 39 = H.1 39) (e4 : H2.2 11 = H.2 11 ∧ H2.2 12 = H.2 12 ∧ H2.2 38 = H.2 38 ∧ H2.2 40 = H.2 40) (e8 : (H.1 8).toInt ≤ (H2.1 8).toInt) : RR wF N S2 T1 x H2 := by
  obtain ⟨rh, w, o, j, ⟨aa, sv⟩, n⟩ := r
  have w0 := ci.wf.w0 kx
  have k37 : iK S1 (x + 37) 1 := w0.1.1
  have w1 := ci.wf.w1 k37
  have k38 : iK S1 (x + 38) 21 := w1.1.1
  have k39 : iK S1 (x + 39) 20 := w1.1.2.2.1
  have k7 : iK S1 (x + 7) 2 := w0.1.2.2.2.2.1
  have k9 : iK S1 (x + 9) 2 := w0.1.2.2.2.2.2.1
  have k11 : iK S1 (x + 11) 6 := w0.1.2.2.2.2.2.2
  have k12 : iK S1 (x + 12) 20 := (ci.wf.w6 k11).1.1
  have z7 := (ci.wf.w2 k7).2.1.2
  have z9 := (ci.wf.w2 k9).2.1.2
  have jj := j
  obtain ⟨⟨a1, a2, a3⟩, ⟨b1, b2, b3⟩, ⟨c1', c2'⟩, d1, d2, d3, d4, d5, d6⟩ := j
  have zl := z9
  have kl := k9
  have dl := d2
  have fr : ∀ q, q < S1.1 → q ≠ x + 9 → q ≠ (grC S1 (x + 9) 2).getD 0 → S2.2.2 q = S1.2.2 q := g.2.2.2.1
  have fi : ∀ q, q < S1.1 → q ≠ x + 9 → q ≠ (grC S1 (x + 9) 2).getD 0 → ∀ k, giC S2 q k = giC S1 q k := fun q a b c k => by unfold giC; rw [fr q a b c]
  have fg : ∀ q, q < S1.1 → q ≠ x + 9 → q ≠ (grC S1 (x + 9) 2).getD 0 → ∀ k, grC S2 q k = grC S1 q k := fun q a b c k => by unfold grC; rw [fr q a b c]
  have kk : ∀ q c, iK S1 q c → c ≠ 20 → q ≠ (grC S1 (x + 9) 2).getD 0 := fun q c k n => ik_ne k zl n
  have hm : ∀ q, iK S1 q 3 → ∀ i, i < 4 → ∀ k, giC S2 (q + i) k = giC S1 (q + i) k := fun q k i hi => by
    have W := W3k ci.wf k
    have nd := dM_l ci kx k jj (l := x + 9) (by omega)
    refine fi _ ?_ ((mo_x ci kx k hi).2.2.2.1) (fun y => nd (by rw [← y]; exact ⟨by omega, by omega⟩))
    rcases (show i = 0 ∨ i = 1 ∨ i = 2 ∨ i = 3 by omega) with rfl | rfl | rfl | rfl
    · exact k.1
    · exact W.1.1
    · exact W.2.1.1
    · exact W.2.2.1
  have hQ : mQ T1 x S1 S2 := fun g' _ q m => hm q (ci.tk _ q m).1
  have k5 : ∀ d, pl x d → giC S2 d 0 = giC S1 d 0 := fun d od => by
    have k := pl.lt ci kx od
    exact fi _ k.1 (ik_ne k kl (by decide)) (kk _ _ k (by decide)) 0
  have n12 : x + 12 ≠ (grC S1 (x + 9) 2).getD 0 := fun y => dl _ k11 y.symm
  have n39 : x + 39 ≠ (grC S1 (x + 9) 2).getD 0 := fun y => d5 y.symm
  have nz : ∀ q, iK S2 q 6 → (grC S2 (x + 9) 2).getD 0 ≠ q + 1 := fun q k y => by
    have kq := hk q 6 (by decide) k
    rcases g.2.2.2.2.1 with v | v
    · rw [v] at y
      exact dl q kq y
    · have := (ci.wf.w6 kq).1.1.1
      omega
  have cn : ∀ z, z < S1.1 → z ≠ (grC S1 (x + 9) 2).getD 0 → (grC S2 (x + 9) 2).getD 0 ≠ z := fun z a b y => by
    rcases g.2.2.2.2.1 with v | v
    · rw [v] at y
      exact b y.symm
    · omega
  have o7 : grC S2 (x + 7) 2 = grC S1 (x + 7) 2 := fg _ k7.1 (by omega) (kk _ _ k7 (by decide)) 2
  have oi : ∀ k, giC S2 (x + 7) k = giC S1 (x + 7) k := fi _ k7.1 (by omega) (kk _ _ k7 (by decide))
  have oz' : ∀ k, giC S2 ((grC S1 (x + 7) 2).getD 0) k = giC S1 ((grC S1 (x + 7) 2).getD 0) k := fi _ z7.1 (ik_ne z7 kl (by decide)) (d3)
  have oc : lcl S2 (x + 7) = lcl S1 (x + 7) := by
    unfold lcl
    rw [o7]
    exact (g.2.1.2 _ z7.1).2
  have g0 : giC S2 (x + 9) 0 = 5 := by rw [g.2.2.2.2.2.1.1]; exact c2'
  have cn2 : (grC S2 (x + 9) 2).getD 0 ≠ (grC S1 (x + 7) 2).getD 0 := cn _ z7.1 (d3)
  have cn39 : (grC S2 (x + 9) 2).getD 0 ≠ x + 39 := cn _ k39.1 n39
  refine ⟨?_, w.cg s (fun _ _ => rfl) hQ, o.cg w s (fun _ _ => rfl) hQ (k5 _ (Or.inl rfl)) (fun p hp => k5 _ (Or.inr ⟨p, hp, rfl⟩)), ?_, ⟨?_, fun q k => ?_, by rw [s.1.1]; exact sv.2.1, by rw [e4.2.2.2]; exact sv.2.2⟩, n.cg w s (fun _ _ => rfl) hQ (fi _ kx.1 (by omega) (kk _ _ kx (by decide)) 8)⟩
  · obtain ⟨⟨p0, p1, p2, p3, p4, p5⟩, p6, p7, p8⟩ := rh
    have f37 := fi (x + 37) k37.1 (by omega) (kk _ _ k37 (by decide))
    have f38 := fi (x + 38) k38.1 (by omega) (kk _ _ k38 (by decide))
    have f39 := fi (x + 39) k39.1 (by omega) n39
    exact ⟨⟨by rw [f37, s.1.1]; exact p0, by rw [f37, e1.1]; exact p1, by rw [f37, e1.2.1]; exact p2, by rw [f37, e1.2.2.1]; exact p3, by rw [f37, e1.2.2.2.1]; exact p4, by rw [f37, e1.2.2.2.2]; exact p5⟩, fun y hy ht => by rw [f38, e4.1]; rw [s.1.1] at ht; exact p6 y hy ht, fun y hy => by rw [f39, e4.2.1]; exact p7 y hy, by rw [e1.2.2.2.1, s.1.1, e4.1]; exact p8⟩
  · refine ⟨⟨by rw [oi, e2.1]; exact a1, by rw [oc, e2.1]; exact a2, fun i k hi hk' => ?_⟩, ⟨e3, el, ec⟩, ⟨by rw [oi]; exact c1', g0⟩, fun q k => by rw [o7]; exact d1 q (hk q 6 (by decide) k), nz, by rw [o7]; exact fun y => cn2 y.symm, by rw [o7]; exact d4, cn39, fun i hi => by rw [o7, oz']; exact d6 i (by rw [← e2.1]; exact hi)⟩
    rw [e2.1] at hi
    rw [o7, oz', e4.2.2.2]
    exact a3 i k hi hk'
  · exact aa.cg (fi _ kx.1 (by omega) (kk _ _ kx (by decide)) 7) (fi _ kx.1 (by omega) (kk _ _ kx (by decide)) 9) (fi _ k11.1 (by omega) (kk _ _ k11 (by decide)) 1) (fi _ k12.1 (by omega) n12) e2.2.1 e2.2.2.1 e2.2.2.2 e8 e4.2.2.1
  · have kq := hk q 3 (by decide) k
    have c := hm q kq
    rw [vCn_cg (c 3 (by omega)), show giC S2 q 14 = giC S1 q 14 from c 0 (by omega) 14]
    exact sv.1 q kq
/-- the ledger at x + 7 moved, nothing else -/
theorem RR.l7 (r : RR wF N S1 T1 x H) (ci : CI noE S1 T1 [] c1) (kx : iK S1 x 0) (g : LSt noE T1 [] (x + 7) S1 c1 S2 c2) (hk : nk S1 S2) (e3 : giC S2 (x + 7) 3 = H2.1 7) (el : 7 * (H2.1 7).toInt ≤ lcl S2 (x + 7)) (ec : ∀ i j : Nat, (i : Int) < (H2.1 7).toInt → j < 6 → giC S2 ((grC S2 (x + 7) 2).getD 0) (7 * i + j) = H2.2 40 (6 * i + j)) (s : sH H2 H) (e1 : H2.1 1 = H.1 1 ∧ H2.1 2 = H.1 2 ∧ H2.1 3 = H.1 3 ∧ H2.1 4 = H.1 4 ∧ H2.1 5 = H.1 5) (e2 : H2.1 8 = H.1 8 ∧ H2.1 9 = H.1 9 ∧ H2.1 10 = H.1 10 ∧ H2.1 39 = H.1 39) (e4 : H2.2 11 = H.2 11 ∧ H2.2 12 = H.2 12 ∧ H2.2 38 = H.2 38 ∧ H2.2 41 = H.2 41) (e8 : (H.1 8).toInt ≤ (H2.1 8).toInt) {z' : Nat → Int32} (e6 : ∀ i : Nat, (i : Int) < (H2.1 7).toInt → giC S2 ((grC S2 (x + 7) 2).getD 0) (7 * i + 6) = z' i) : RR (wF.1, z', wF.2.2.1, H2.2 40) N S2 T1 x H2 := by
  obtain ⟨rh, w, o, j, ⟨aa, sv⟩, n⟩ := r
  have w0 := ci.wf.w0 kx
  have k37 : iK S1 (x + 37) 1 := w0.1.1
  have w1 := ci.wf.w1 k37
  have k38 : iK S1 (x + 38) 21 := w1.1.1
  have k39 : iK S1 (x + 39) 20 := w1.1.2.2.1
  have k7 : iK S1 (x + 7) 2 := w0.1.2.2.2.2.1
  have k9 : iK S1 (x + 9) 2 := w0.1.2.2.2.2.2.1
  have k11 : iK S1 (x + 11) 6 := w0.1.2.2.2.2.2.2
  have k12 : iK S1 (x + 12) 20 := (ci.wf.w6 k11).1.1
  have z7 := (ci.wf.w2 k7).2.1.2
  have z9 := (ci.wf.w2 k9).2.1.2
  have jj := j
  obtain ⟨⟨a1, a2, a3⟩, ⟨b1, b2, b3⟩, ⟨c1', c2'⟩, d1, d2, d3, d4, d5, d6⟩ := j
  have zl := z7
  have kl := k7
  have dl := d1
  have fr : ∀ q, q < S1.1 → q ≠ x + 7 → q ≠ (grC S1 (x + 7) 2).getD 0 → S2.2.2 q = S1.2.2 q := g.2.2.2.1
  have fi : ∀ q, q < S1.1 → q ≠ x + 7 → q ≠ (grC S1 (x + 7) 2).getD 0 → ∀ k, giC S2 q k = giC S1 q k := fun q a b c k => by unfold giC; rw [fr q a b c]
  have fg : ∀ q, q < S1.1 → q ≠ x + 7 → q ≠ (grC S1 (x + 7) 2).getD 0 → ∀ k, grC S2 q k = grC S1 q k := fun q a b c k => by unfold grC; rw [fr q a b c]
  have kk : ∀ q c, iK S1 q c → c ≠ 20 → q ≠ (grC S1 (x + 7) 2).getD 0 := fun q c k n => ik_ne k zl n
  have hm : ∀ q, iK S1 q 3 → ∀ i, i < 4 → ∀ k, giC S2 (q + i) k = giC S1 (q + i) k := fun q k i hi => by
    have W := W3k ci.wf k
    have nd := dM_l ci kx k jj (l := x + 7) (by omega)
    refine fi _ ?_ ((mo_x ci kx k hi).2.2.1) (fun y => nd (by rw [← y]; exact ⟨by omega, by omega⟩))
    rcases (show i = 0 ∨ i = 1 ∨ i = 2 ∨ i = 3 by omega) with rfl | rfl | rfl | rfl
    · exact k.1
    · exact W.1.1
    · exact W.2.1.1
    · exact W.2.2.1
  have hQ : mQ T1 x S1 S2 := fun g' _ q m => hm q (ci.tk _ q m).1
  have k5 : ∀ d, pl x d → giC S2 d 0 = giC S1 d 0 := fun d od => by
    have k := pl.lt ci kx od
    exact fi _ k.1 (ik_ne k kl (by decide)) (kk _ _ k (by decide)) 0
  have n12 : x + 12 ≠ (grC S1 (x + 7) 2).getD 0 := fun y => dl _ k11 y.symm
  have n39 : x + 39 ≠ (grC S1 (x + 7) 2).getD 0 := fun y => d4 y.symm
  have nz : ∀ q, iK S2 q 6 → (grC S2 (x + 7) 2).getD 0 ≠ q + 1 := fun q k y => by
    have kq := hk q 6 (by decide) k
    rcases g.2.2.2.2.1 with v | v
    · rw [v] at y
      exact dl q kq y
    · have := (ci.wf.w6 kq).1.1.1
      omega
  have cn : ∀ z, z < S1.1 → z ≠ (grC S1 (x + 7) 2).getD 0 → (grC S2 (x + 7) 2).getD 0 ≠ z := fun z a b y => by
    rcases g.2.2.2.2.1 with v | v
    · rw [v] at y
      exact b y.symm
    · omega
  have o7 : grC S2 (x + 9) 2 = grC S1 (x + 9) 2 := fg _ k9.1 (by omega) (kk _ _ k9 (by decide)) 2
  have oi : ∀ k, giC S2 (x + 9) k = giC S1 (x + 9) k := fi _ k9.1 (by omega) (kk _ _ k9 (by decide))
  have oz' : ∀ k, giC S2 ((grC S1 (x + 9) 2).getD 0) k = giC S1 ((grC S1 (x + 9) 2).getD 0) k := fi _ z9.1 (ik_ne z9 kl (by decide)) (fun y => d3 y.symm)
  have oc : lcl S2 (x + 9) = lcl S1 (x + 9) := by
    unfold lcl
    rw [o7]
    exact (g.2.1.2 _ z9.1).2
  have g0 : giC S2 (x + 7) 0 = 7 := by rw [g.2.2.2.2.2.1.1]; exact c1'
  have cn2 : (grC S2 (x + 7) 2).getD 0 ≠ (grC S1 (x + 9) 2).getD 0 := cn _ z9.1 (fun y => d3 y.symm)
  have cn39 : (grC S2 (x + 7) 2).getD 0 ≠ x + 39 := cn _ k39.1 n39
  refine ⟨?_, w.cg s (fun _ _ => rfl) hQ, o.cg w s (fun _ _ => rfl) hQ (k5 _ (Or.inl rfl)) (fun p hp => k5 _ (Or.inr ⟨p, hp, rfl⟩)), ?_, ⟨?_, fun q k => ?_, by rw [s.1.1]; exact sv.2.1, rfl⟩, n.cg w s (fun _ _ => rfl) hQ (fi _ kx.1 (by omega) (kk _ _ kx (by decide)) 8)⟩
  · obtain ⟨⟨p0, p1, p2, p3, p4, p5⟩, p6, p7, p8⟩ := rh
    have f37 := fi (x + 37) k37.1 (by omega) (kk _ _ k37 (by decide))
    have f38 := fi (x + 38) k38.1 (by omega) (kk _ _ k38 (by decide))
    have f39 := fi (x + 39) k39.1 (by omega) n39
    exact ⟨⟨by rw [f37, s.1.1]; exact p0, by rw [f37, e1.1]; exact p1, by rw [f37, e1.2.1]; exact p2, by rw [f37, e1.2.2.1]; exact p3, by rw [f37, e1.2.2.2.1]; exact p4, by rw [f37, e1.2.2.2.2]; exact p5⟩, fun y hy ht => by rw [f38, e4.1]; rw [s.1.1] at ht; exact p6 y hy ht, fun y hy => by rw [f39, e4.2.1]; exact p7 y hy, by rw [e1.2.2.2.1, s.1.1, e4.1]; exact p8⟩
  · refine ⟨⟨e3, el, ec⟩, ⟨by rw [oi, e2.1]; exact b1, by rw [oc, e2.1]; exact b2, fun i k hi hk' => ?_⟩, ⟨g0, by rw [oi]; exact c2'⟩, nz, fun q k => by rw [o7]; exact d2 q (hk q 6 (by decide) k), by rw [o7]; exact cn2, cn39, by rw [o7]; exact d5, e6⟩
    rw [e2.1] at hi
    rw [o7, oz', e4.2.2.2]
    exact b3 i k hi hk'
  · exact aa.cg (fi _ kx.1 (by omega) (kk _ _ kx (by decide)) 7) (fi _ kx.1 (by omega) (kk _ _ kx (by decide)) 9) (fi _ k11.1 (by omega) (kk _ _ k11 (by decide)) 1) (fi _ k12.1 (by omega) n12) e2.2.1 e2.2.2.1 e2.2.2.2 e8 e4.2.2.1
  · have kq := hk q 3 (by decide) k
    have c := hm q kq
    rw [vCn_cg (c 3 (by omega)), show giC S2 q 14 = giC S1 q 14 from c 0 (by omega) 14]
    exact sv.1 q kq
end
