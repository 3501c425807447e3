/-! ===== the deeds: a result told: votes counted, what comes of them ===== -/
section
variable {wF : Prop × (Nat → Int32) × Int32 × (Nat → Int32)} {E : Nat → Prop} {x : Nat} {S S1 S2 S3 : Cst} {T T1 T2 T3 : Nat → List Nat} {F F1 : List Nat} {col c1 c2 c3 : Nat → Nat} {H H2 H3 G : HS} {N N2 M M2 : Int} {D : Nat → Prop} {v : Int32}
/-- nobody has the floor at the end -/
theorem RF.fin (r : RR wF N S1 T1 x (sI G 5 v)) (ci : CI noE S1 T1 [] c1) (kx : iK S1 x 0) (g5 : G.1 5 = -1) : RR wF N (siC S1 (x + 37) 6 (-1)) T1 x G := by
  have y := r.hc ci kx ((hC'.rf x S1).si 6 (-1) (Or.inl rfl)) (sH.I _ (k := 5) (-1) (by decide) (by decide) (by decide) (by decide) (by decide)) ⟨rfl, rfl, rfl, rfl, rfl⟩ ⟨rfl, rfl, rfl⟩ (r.1.f6 (-1))
  have e : sI (sI G 5 v) 5 (-1) = G := by
    have := sI_bk G 5 v
    rw [g5] at this
    exact this
  rw [e] at y
  exact y
theorem goes_5 (G : HS) (v : Int32) : (f_X11_goes (sI G 5 v)).2 = sI (f_X11_goes G).2 5 v := by
  rw [goes_e, goes_e]
  refine Prod.ext (funext fun j => ?_) rfl
  show (if j = 6 then G.1 6 - 1 else if j = 5 then v else G.1 j) = if j = 5 then v else if j = 6 then G.1 6 - 1 else G.1 j
  by_cases z : j = 6
  · rw [if_pos z, if_neg (by omega), if_pos z]
  · rw [if_neg z, if_neg z]
/-- the top goes, the floor apart -/
theorem goF (a : AS x S T col S1 T1 c1) (r : RR wF N S1 T1 x (sI G 5 v)) (h : RA G) (z : ¬ G.1 6 = 0) : ∃ S2 T2, f_Y0_dropTop S1 x (x + 1) = (0, S2) ∧ AS x S T col S2 T2 c1 ∧ RR wF N S2 T2 x (sI (f_X11_goes G).2 5 v) ∧ gF S1 S2 ∧ T2 (x + 1) = (T1 (x + 1)).dropLast ∧ ∀ c, c ≠ x + 1 → c ≠ x → T2 c = T1 c := by
  have y := go_v a r h z
  rw [goes_5] at y
  exact y
/-- votes of those there -/
def tC (S : Cst) (x q : Nat) (w : Int32) : Nat → Nat
  | 0 => 0
  | n + 1 => tC S x q w n + (if giC S (x + 38) n ≠ 0 ∧ giC S (q + 3) n = w then 1 else 0)
theorem tC_le (S : Cst) (x q : Nat) (w : Int32) : ∀ n, tC S x q w n ≤ n := by
  intro n
  induction n with
  | zero => exact Nat.le_refl _
  | succ n ih =>
    rw [tC]
    split <;> omega
theorem tal_l (wf : wfS S1) (kx : iK S1 x 0) {q : Nat} (k : iK S1 q 3) {how w : Int32} (hw : ∀ u : Int32, u - 1 = how ↔ u = w) (h0 : 1 ≤ (giC S1 (x + 37) 0).toInt ∧ (giC S1 (x + 37) 0).toInt ≤ 200) : ∀ (n : Nat) (s b : Int32), 0 ≤ b.toInt → b.toInt ≤ (giC S1 (x + 37) 0).toInt → 200 - b.toInt < n → s.toInt = tC S1 x q w b.toNatClampNeg → (lp_Y2_tally_5 S1 (x + 37) n (some q) how s b).toInt = tC S1 x q w (giC S1 (x + 37) 0).toNatClampNeg := by
  have w1 := wf.w1 (wf.w0 kx).1.1
  have w3 := wf.w3 k
  have e200 : (Int32.ofNat 200).toInt = 200 := by decide
  intro n
  induction n with
  | zero => intro s b h1 h2 h3; omega
  | succ n ih =>
    intro s b h1 h2 h3 hs
    rw [lp_Y2_tally_5]
    unfold st_Y2_tally_5 b_Y2_tally_36
    have kb := iNat h1
    by_cases c : giC S1 (x + 37) 0 ≤ b
    · have := iLe.mp c
      rw [if_pos c]
      have e : b = giC S1 (x + 37) 0 := iEq.mpr (by omega)
      show s.toInt = _
      rw [hs, e]
    · have c' := mt iLe.mpr c
      have e1 := iAdd (x := b) (y := 1) (by rw [i1]; omega) (by rw [i1]; omega)
      rw [i1] at e1
      have kb1 := iNat (x := b + 1) (by omega)
      have en : (b + 1).toNatClampNeg = b.toNatClampNeg + 1 := by omega
      have le := tC_le S1 x q w b.toNatClampNeg
      have a1 := iAdd (x := s) (y := 1) (by rw [i1]; omega) (by rw [i1]; omega)
      rw [i1] at a1
      rw [if_neg c]
      have eth : f_Y2_isThere S1 (x + 37) b = if giC S1 (x + 38) b.toNatClampNeg = 0 then 0 else 1 := by
        unfold f_Y2_isThere b_Y2_isThere_34 b_Y2_isThere_35
        rw [w1.2.1.1, Option.getD_some, w1.1.2.1, if_neg (fun z => by have := iLt.mp z; rw [i0] at this; omega), if_neg c, if_neg (fun z => by have := iLe.mp z; rw [e200] at this; omega)]
      have evo : f_Y4_voteOf S1 q b = giC S1 (q + 3) b.toNatClampNeg - 1 := by
        unfold f_Y4_voteOf b_Y4_voteOf_25
        rw [w3.2.1.2, Option.getD_some, w3.1.2.2, if_neg (fun z => by have := iLt.mp z; rw [i0] at this; omega), if_pos (iLt.mpr (by rw [e200]; omega))]
      rw [eth, Option.getD_some, evo]
      by_cases z1 : giC S1 (x + 38) b.toNatClampNeg = 0
      · rw [if_pos z1, if_pos rfl]
        refine ih s (b + 1) (by omega) (by omega) (by omega) ?_
        rw [en, tC, if_neg (fun y => y.1 z1), hs]
        rfl
      · rw [if_neg z1, if_neg h10]
        by_cases z2 : giC S1 (q + 3) b.toNatClampNeg = w
        · rw [if_pos ((hw _).mpr z2)]
          refine ih (s + 1) (b + 1) (by omega) (by omega) (by omega) ?_
          rw [en, tC, if_pos ⟨z1, z2⟩, a1, hs]
          omega
        · rw [if_neg (fun y => z2 ((hw _).mp y))]
          refine ih s (b + 1) (by omega) (by omega) (by omega) ?_
          rw [en, tC, if_neg (fun y => z2 y.2), hs]
          rfl
theorem tal_v (wf : wfS S1) (kx : iK S1 x 0) {q : Nat} (k : iK S1 q 3) {how w : Int32} (hw : ∀ u : Int32, u - 1 = how ↔ u = w) (h0 : 1 ≤ (giC S1 (x + 37) 0).toInt ∧ (giC S1 (x + 37) 0).toInt ≤ 200) : (f_Y2_tally S1 (x + 37) (some q) how).toInt = tC S1 x q w (giC S1 (x + 37) 0).toNatClampNeg :=
  tal_l wf kx k hw h0 100000 0 0 (by rw [i0]; omega) (by rw [i0]; omega) (by rw [i0]; omega) (by rw [i0, zn0]; rfl)
theorem hw1 (u : Int32) : u - 1 = 1 ↔ u = 2 := ⟨fun h => by have := congrArg (· + 1) h; simp at this; rw [this], fun h => by rw [h]; rfl⟩
theorem hw0 (u : Int32) : u - 1 = 0 ↔ u = 1 := ⟨fun h => by have := congrArg (· + 1) h; simp at this; rw [this], fun h => by rw [h]; rfl⟩
/-- the reference's count, one by one -/
theorem cnt_l (r : hR S1 x H) {q : Nat} {t : Int32} (mu : mR S1 q H t.toNatClampNeg) (ht : 0 ≤ t.toInt ∧ t.toInt < 90) (h0 : 1 ≤ (H.1 0).toInt ∧ (H.1 0).toInt ≤ 200) (sec : ¬ (f_X11_hasSeconder H).1 = 0) (hs2 : (f_X11_hasSeconder H).2 = H) (k : Int32) : ∀ (n : Nat) (y z b : Int32), 0 ≤ b.toInt → b.toInt ≤ (H.1 0).toInt → 200 - b.toInt < n → y.toInt = tC S1 x q 2 b.toNatClampNeg → z.toInt = tC S1 x q 1 b.toNatClampNeg → ∃ Y Z b', lp_X11_told_33 n H t k y z b = b_X11_told_119 H t k Y Z b' ∧ Y.toInt = tC S1 x q 2 (H.1 0).toNatClampNeg ∧ Z.toInt = tC S1 x q 1 (H.1 0).toNatClampNeg := by
  intro n
  induction n with
  | zero => intro y z b h1 h2 h3; omega
  | succ n ih =>
    intro y z b h1 h2 h3 hy hz
    rw [lp_X11_told_33]
    unfold st_X11_told_33 b_X11_told_a46 b_X11_told_85 b_X11_told_110 b_X11_told_113
    have kb := iNat h1
    by_cases c : H.1 0 ≤ b
    · have := iLe.mp c
      rw [if_pos c]
      have e : b = H.1 0 := iEq.mpr (by omega)
      exact ⟨y, z, b, rfl, by rw [hy, e], by rw [hz, e]⟩
    · have c' := mt iLe.mpr c
      have e1 := iAdd (x := b) (y := 1) (by rw [i1]; omega) (by rw [i1]; omega)
      rw [i1] at e1
      have kb1 := iNat (x := b + 1) (by omega)
      have en : (b + 1).toNatClampNeg = b.toNatClampNeg + 1 := by omega
      have l1 := tC_le S1 x q 2 b.toNatClampNeg
      have l2 := tC_le S1 x q 1 b.toNatClampNeg
      have vb := mu.2.2.2.2.1 b.toNatClampNeg (by omega)
      have th := r.2.1 b.toNatClampNeg (by omega) (by omega)
      rw [if_neg c, hs2, if_neg sec, bx_v ht ⟨h1, by omega⟩]
      by_cases z1 : H.2 11 b.toNatClampNeg = 0
      · rw [if_pos z1]
        have z1' : giC S1 (x + 38) b.toNatClampNeg = 0 := th.trans z1
        refine ih y z (b + 1) (by omega) (by omega) (by omega) ?_ ?_
        · rw [en, tC, if_neg (fun f => f.1 z1'), hy]
          rfl
        · rw [en, tC, if_neg (fun f => f.1 z1'), hz]
          rfl
      · rw [if_neg z1]
        have z1' : ¬ giC S1 (x + 38) b.toNatClampNeg = 0 := fun f => z1 (th.symm.trans f)
        have ay := iAdd (x := y) (y := 1) (by rw [i1]; omega) (by rw [i1]; omega)
        have az := iAdd (x := z) (y := 1) (by rw [i1]; omega) (by rw [i1]; omega)
        rw [i1] at ay az
        have y0 : y + 0 = y := Int32.add_zero y
        have z0 : z + 0 = z := Int32.add_zero z
        rcases vb with ⟨g1, g2⟩ | ⟨g1, g2⟩ | ⟨g1, g2⟩
        · rw [g1, if_neg (by decide), if_neg (by decide)]
          show ∃ Y Z b', lp_X11_told_33 n H t k (y + 0) (z + 0) (b + 1) = _ ∧ _
          rw [y0, z0]
          refine ih y z (b + 1) (by omega) (by omega) (by omega) ?_ ?_
          · rw [en, tC, if_neg (fun f => by have := f.2; rw [g2] at this; exact absurd this (by decide)), hy]
            rfl
          · rw [en, tC, if_neg (fun f => by have := f.2; rw [g2] at this; exact absurd this (by decide)), hz]
            rfl
        · rw [g1, if_neg (by decide), if_pos rfl]
          show ∃ Y Z b', lp_X11_told_33 n H t k (y + 0) (z + 1) (b + 1) = _ ∧ _
          rw [y0]
          refine ih y (z + 1) (b + 1) (by omega) (by omega) (by omega) ?_ ?_
          · rw [en, tC, if_neg (fun f => by have := f.2; rw [g2] at this; exact absurd this (by decide)), hy]
            rfl
          · rw [en, tC, if_pos ⟨z1', g2⟩, az, hz]
            omega
        · rw [g1, if_pos rfl, if_neg (by decide)]
          show ∃ Y Z b', lp_X11_told_33 n H t k (y + 1) (z + 0) (b + 1) = _ ∧ _
          rw [z0]
          refine ih (y + 1) z (b + 1) (by omega) (by omega) (by omega) ?_ ?_
          · rw [en, tC, if_pos ⟨z1', g2⟩, ay, hy]
            omega
          · rw [en, tC, if_neg (fun f => by have := f.2; rw [g2] at this; exact absurd this (by decide)), hz]
            rfl
end
