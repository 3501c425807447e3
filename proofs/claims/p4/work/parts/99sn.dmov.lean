/-! ===== the deeds: moving ===== -/
section
variable {wF : Prop × (Nat → Int32) × Int32 × (Nat → Int32)} {E : Nat → Prop} {x : Nat} {S S1 S2 S3 : Cst} {T T1 T2 T3 : Nat → List Nat} {F F1 : List Nat} {col c1 : Nat → Nat} {H H2 H3 : HS} {N N2 M M2 : Int} {D : Nat → Prop}
theorem move_a {x1 : Int32} : ∀ (n : Nat) (S : HS) (x : Int32), 0 ≤ x.toInt → x.toInt ≤ 9 → (S.1 35).toInt ≤ 9 → 10 - x.toInt < n → (lp_X11_move_77 n S x1 x).1 = S.1 6 + S.1 35 := by
  intro n
  induction n with
  | zero => intro S x h1 h2 h3 h4; omega
  | succ n ih =>
    intro S x h1 h2 h3 h4
    rw [lp_X11_move_77]
    unfold st_X11_move_77
    by_cases c : S.1 35 ≤ x
    · rw [if_pos c]
      rfl
    · rw [if_neg c]
      have c := mt iLe.mpr c
      have e := iAdd (x := x) (y := 1) (by rw [i1]; omega) (by rw [i1]; omega)
      rw [i1] at e
      exact ih (sA S 31 (S.1 6 + x).toNatClampNeg (S.2 32 x.toNatClampNeg)) (x + 1) (by omega) (by omega) h3 (by omega)
theorem move_W {x1 : Int32} (S : HS) (h6 : 0 ≤ (S.1 6).toInt) (h35 : 0 ≤ (S.1 35).toInt) (h9 : (S.1 6).toInt + (S.1 35).toInt ≤ 9) : ∃ u, lp_X11_move_77 100000 S x1 0 = (S.1 6 + S.1 35, sI (sI (sI (sR S 31 u) 6 (S.1 6 + S.1 35)) 35 0) 5 (-1)) ∧ (∀ i : Nat, (i : Int) < (S.1 35).toInt → u ((S.1 6).toNatClampNeg + i) = S.2 32 i) ∧ (∀ j : Nat, (j : Int) < (S.1 6).toInt → u j = S.2 31 j) := by
  obtain ⟨u, q1, q2, q3⟩ := move_w x1 100000 S 0 h6 h9 (by rw [i0]; omega) (by rw [i0]; omega) (by rw [i0]; omega)
  have e := move_a (x1 := x1) 100000 S 0 (by rw [i0]; omega) (by rw [i0]; omega) (by omega) (by rw [i0]; omega)
  rw [i0] at q2 q3
  exact ⟨u, Prod.ext e q1, fun i hi => q2 i (by omega) hi, fun j hj => q3 j (by omega)⟩
/-- rows behind moving -/
theorem moveRows {u : Nat → Int32} {k : Nat} (e : H2 = sI (sI (sR H 31 u) 6 (H.1 6 + H.1 35)) 35 0) (h6 : 0 ≤ (H.1 6).toInt) (h35 : 0 ≤ (H.1 35).toInt) (h9 : (H.1 6).toInt + (H.1 35).toInt ≤ 9) (hk : (k : Int) = (H.1 6).toInt) (u1 : ∀ i : Nat, (i : Int) < (H.1 35).toInt → u (k + i) = H.2 32 i) (u2 : ∀ j : Nat, (j : Int) < (H.1 6).toInt → u j = H.2 31 j) :
    hN H2 1 = 0 ∧ hN H2 0 = hN H 0 + hN H 1 ∧ (∀ p, hN H2 (p + 2) = hN H (p + 2)) ∧ (∀ i : Nat, (i : Int) < hN H 1 → hM H2 0 (k + i) = hM H 1 i) ∧ (∀ i : Nat, i < k → hM H2 0 i = hM H 0 i) ∧ (∀ p i, hM H2 (p + 2) i = hM H (p + 2) i) ∧ ∀ g, (hT H2 g ↔ hT H g) := by
  have q31 : H2.2 31 = u := by rw [e]; rfl
  have q34 : H2.2 34 = H.2 34 := by rw [e]; rfl
  have q33 : H2.2 33 = H.2 33 := by rw [e]; rfl
  have q37 : H2.2 37 = H.2 37 := by rw [e]; rfl
  have q6 : H2.1 6 = H.1 6 + H.1 35 := by rw [e]; rfl
  have q36 : H2.1 36 = H.1 36 := by rw [e]; rfl
  have q35 : H2.1 35 = 0 := by rw [e]; rfl
  have a6 := iAdd (x := H.1 6) (y := H.1 35) (by omega) (by omega)
  refine ⟨?_, ?_, fun p => ?_, fun i hi => ?_, fun i hi => ?_, fun p i => ?_, fun g => ?_⟩
  · show (H2.1 35).toInt = 0
    rw [q35]
    rfl
  · show (H2.1 6).toInt = (H.1 6).toInt + (H.1 35).toInt
    rw [q6, a6]
  · show (H2.2 34 p).toInt = _
    rw [q34]
    rfl
  · show (H2.2 31 (k + i)).toNatClampNeg = (H.2 32 i).toNatClampNeg
    rw [q31, u1 i hi]
  · show (H2.2 31 i).toNatClampNeg = (H.2 31 i).toNatClampNeg
    rw [q31, u2 i (by omega)]
  · show (H2.2 33 (9 * p + i)).toNatClampNeg = (H.2 33 (9 * p + i)).toNatClampNeg
    rw [q33]
  · match g with
    | 0 => exact Iff.rfl
    | 1 => show H2.1 36 ≠ 0 ↔ H.1 36 ≠ 0; rw [q36]
    | p + 2 => show H2.2 37 p ≠ 0 ↔ H.2 37 p ≠ 0; rw [q37]
theorem mR.mx {q m : Nat} (h : mR S1 q H m) (h0 : H2.1 0 = H.1 0) (cc : ∀ k, k ≠ 0 → k ≠ 1 → k ≠ 3 → k ≠ 10 → giC S2 q k = giC S1 q k) (cj : ∀ j, 0 < j → j < 4 → ∀ k, giC S2 (q + j) k = giC S1 (q + j) k) (e3 : giC S2 q 3 = H2.2 15 m) (f : ∀ k, 14 ≤ k → k ≤ 26 → k ≠ 15 → k ≠ 22 → k ≠ 23 → k ≠ 25 → H2.2 k m = H.2 k m) (fx : ∀ i : Nat, (i : Int) < (H.2 19 m).toInt → H2.2 28 (400 * m + i) = H.2 28 (400 * m + i)) (fb : ∀ s, s < 200 → H2.2 29 (200 * m + s) = H.2 29 (200 * m + s)) : mR S2 q H2 m := by
  obtain ⟨⟨a1, a2, a3, a4, a5⟩, ⟨b1, b2⟩, c, ⟨d1, d2⟩, e, ⟨f1, f2⟩, g⟩ := h
  have m14 := f 14 (by omega) (by omega) (by omega) (by omega) (by omega) (by omega)
  have m19 := f 19 (by omega) (by omega) (by omega) (by omega) (by omega) (by omega)
  have m20 := f 20 (by omega) (by omega) (by omega) (by omega) (by omega) (by omega)
  have m21 := f 21 (by omega) (by omega) (by omega) (by omega) (by omega) (by omega)
  have m26 := f 26 (by omega) (by omega) (by omega) (by omega) (by omega) (by omega)
  refine ⟨⟨?_, e3, ?_, ?_, ?_⟩, ⟨?_, ?_⟩, fun z => ?_, ⟨?_, fun i hi => ?_⟩, fun s hs => ?_, ⟨fun s h1 h2 => ?_, ?_⟩, fun z1 z2 => ?_⟩
  · rw [cc 2 (by decide) (by decide) (by decide) (by decide), m14]
    exact a1
  · rw [cc 4 (by decide) (by decide) (by decide) (by decide), f 16 (by omega) (by omega) (by omega) (by omega) (by omega) (by omega)]
    exact a3
  · rw [cc 5 (by decide) (by decide) (by decide) (by decide), f 17 (by omega) (by omega) (by omega) (by omega) (by omega) (by omega)]
    exact a4
  · rw [cc 6 (by decide) (by decide) (by decide) (by decide), f 18 (by omega) (by omega) (by omega) (by omega) (by omega) (by omega)]
    exact a5
  · rw [cc 7 (by decide) (by decide) (by decide) (by decide), f 24 (by omega) (by omega) (by omega) (by omega) (by omega) (by omega)]
    exact b1
  · rw [cc 11 (by decide) (by decide) (by decide) (by decide), m26]
    exact b2
  · rw [m26] at z
    rw [cc 8 (by decide) (by decide) (by decide) (by decide), cc 9 (by decide) (by decide) (by decide) (by decide), m20, m21]
    exact c z
  · rw [cj 1 (by omega) (by omega), m19]
    exact d1
  · rw [m19] at hi
    rw [cj 2 (by omega) (by omega), fx i hi]
    exact d2 i hi
  · rw [cj 3 (by omega) (by omega), fb s hs]
    exact e s hs
  · rw [h0] at h2
    rw [cj 3 (by omega) (by omega)]
    exact f1 s h1 h2
  · rw [cc 14 (by decide) (by decide) (by decide) (by decide), vCn_cg (S1 := S1) (cj 3 (by omega) (by omega))]
    exact f2
  · rw [m14] at z1 z2
    rw [m20, m21, m26]
    exact g z1 z2
/-- one more name -/
theorem RR.nm (r : RR wF N S1 T1 x H) (ci : CI noE S1 T1 [] c1) (kx : iK S1 x 0) (bN : N ≤ 1000000) : RR wF (N + 1) (siC S1 x 8 (giC S1 x 8 + 1)) T1 x H ∧ (giC S1 x 8 + 1).toInt = (giC S1 x 8).toInt + 1 := by
  obtain ⟨rh, w, o, j, ⟨aa, sv⟩, n1, n2, n3, n4⟩ := r
  have e8 := iAdd (x := giC S1 x 8) (y := 1) (by rw [i1]; omega) (by rw [i1]; omega)
  rw [i1] at e8
  refine ⟨?_, e8⟩
  have ne : ∀ z k, z ≠ x ∨ k ≠ 8 → giC (siC S1 x 8 (giC S1 x 8 + 1)) z k = giC S1 z k := fun z k h => by
    rw [gi_si, if_neg (fun y => h.elim (fun f => f y.1) (fun f => f y.2))]
  have n88 : giC (siC S1 x 8 (giC S1 x 8 + 1)) x 8 = giC S1 x 8 + 1 := by rw [gi_si, if_pos ⟨rfl, rfl⟩]
  have hm : mQ T1 x S1 (siC S1 x 8 (giC S1 x 8 + 1)) := fun g _ q m i hi k => ne _ _ (Or.inl (mo_x ci kx (ci.tk _ q m).1 hi).1)
  have s := sH.rf H
  have ee : ∀ g i, hL H g i → ∀ k, giC (siC S1 x 8 (giC S1 x 8 + 1)) ((T1 (rP x g)).getD i 0) k = giC S1 ((T1 (rP x g)).getD i 0) k := fun g i l k => hm g l.1 _ (gD_mem (w.mem l)) 0 (by omega) k
  refine ⟨?_, w.cg s (fun _ _ => rfl) hm, o.cg w s (fun _ _ => rfl) hm (ne _ _ (Or.inl (by omega))) (fun p _ => ne _ _ (Or.inl (by omega))), j.cg rfl rfl rfl rfl (fun l hl => ⟨fun k => ne _ _ (Or.inl (by omega)), gr_si .., fun k => ne _ _ (Or.inl ?_)⟩) (fun q => ln_si ..) (fun q k => ik_si.mp k), ⟨aa.cg (ne _ _ (Or.inr (by decide))) (ne _ _ (Or.inr (by decide))) (ne _ _ (Or.inl (by omega))) (fun k => ne _ _ (Or.inl (by omega))) rfl rfl rfl (Int.le_refl _) rfl, fun q m => ?_, sv.2⟩, ?_, fun g i l t => ?_, fun g i g' i' l t l' t' k0 e => ?_, fun j l t d k => ?_⟩
  · obtain ⟨⟨p0, p1, p2, p3, p4, p5⟩, p6, p7, p8⟩ := rh
    have e : ∀ k, giC (siC S1 x 8 (giC S1 x 8 + 1)) (x + 37) k = giC S1 (x + 37) k := fun k => ne _ _ (Or.inl (by omega))
    exact ⟨⟨(e 0).trans p0, (e 2).trans p1, (e 3).trans p2, (e 4).trans p3, (e 5).trans p4, (e 6).trans p5⟩, fun s h1 h2 => (ne _ _ (Or.inl (by omega))).trans (p6 s h1 h2), fun k hk => (ne _ _ (Or.inl (by omega))).trans (p7 k hk), p8⟩
  · have z := (zl_k ci kx hl).2
    exact ik_ne z kx (by decide)
  · have kq := ik_si.mp m
    have c : ∀ i, i < 4 → ∀ k, giC (siC S1 x 8 (giC S1 x 8 + 1)) (q + i) k = giC S1 (q + i) k := fun i hi k => ne _ _ (Or.inl (mo_x ci kx kq hi).1)
    rw [vCn_cg (c 3 (by omega)), show giC (siC S1 x 8 (giC S1 x 8 + 1)) q 14 = giC S1 q 14 from c 0 (by omega) 14]
    exact sv.1 q kq
  · rw [n88]
    omega
  · rw [ee g i l, n88]
    have y := n2 g i l t
    exact ⟨y.1, by omega, y.2.2⟩
  · rw [ee g i l, ee g' i' l'] at e
    rw [ee g i l] at k0
    exact n3 g i g' i' l t l' t' k0 e
  · obtain ⟨q1, q2, q3, q4⟩ := n4 j l t d k
    rw [ee j 0 l, n88]
    exact ⟨by omega, by omega, fun g i lg tg => by rw [ee g i lg]; exact q3 g i lg tg, q4⟩
end
