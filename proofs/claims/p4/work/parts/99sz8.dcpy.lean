/-! ===== copies ===== -/
section
variable {wF : Prop × (Nat → Int32) × Int32 × (Nat → Int32)} {E : Nat → Prop} {x y : Nat} {S S1 S2 S3 S4 : Cst} {T T1 T2 T3 : Nat → List Nat} {F F1 : List Nat} {col c1 c2 c3 : Nat → Nat} {H H2 G R : HS} {N N2 M M2 : Int}
/-- a motion is another one's copy -/
def cq (S : Cst) (q : Nat) (S' : Cst) (q' : Nat) : Prop := (∀ k, k ≤ 11 ∨ k = 14 → giC S' q' k = giC S q k) ∧ giC S' (q' + 1) 1 = giC S (q + 1) 1 ∧ (∀ i : Nat, (i : Int) < (giC S (q + 1) 1).toInt → giC S' (q' + 2) i = giC S (q + 2) i) ∧ ∀ s, s < 200 → giC S' (q' + 3) s = giC S (q + 3) s
theorem cq.l {q q' : Nat} (h : cq S q S2 q') (e : ∀ j, j < 4 → ∀ k, giC S1 (q + j) k = giC S (q + j) k) : cq S1 q S2 q' := by
  obtain ⟨a, b, c, d⟩ := h
  have e0 : ∀ k, giC S1 q k = giC S q k := e 0 (by omega)
  refine ⟨fun k hk => by rw [e0]; exact a k hk, by rw [e 1 (by omega)]; exact b, fun i hi => ?_, fun s hs => by rw [e 3 (by omega)]; exact d s hs⟩
  rw [e 1 (by omega)] at hi
  rw [e 2 (by omega)]
  exact c i hi
theorem cq.r {q q' : Nat} (h : cq S q S2 q') (e : ∀ j, j < 4 → ∀ k, giC S3 (q' + j) k = giC S2 (q' + j) k) : cq S q S3 q' := by
  obtain ⟨a, b, c, d⟩ := h
  have e0 : ∀ k, giC S3 q' k = giC S2 q' k := e 0 (by omega)
  exact ⟨fun k hk => (e0 k).trans (a k hk), (e 1 (by omega) 1).trans b, fun i hi => (e 2 (by omega) i).trans (c i hi), fun s hs => (e 3 (by omega) s).trans (d s hs)⟩
theorem vCn_eq {q q' : Nat} : ∀ n, (∀ s, s < n → giC S2 (q' + 3) s = giC S1 (q + 3) s) → vCn S2 q' n = vCn S1 q n := by
  intro n
  induction n with
  | zero => intro _; rfl
  | succ n ih =>
    intro h
    rw [vCn, vCn, ih (fun s hs => h s (by omega)), h n (by omega)]
theorem cq.v {q q' : Nat} (h : cq S q S2 q') (v : (giC S q 14).toInt = vCn S q 200) : (giC S2 q' 14).toInt = vCn S2 q' 200 := by
  rw [h.1 14 (Or.inr rfl), v, vCn_eq 200 h.2.2.2]
theorem mR.cq {q q' m : Nat} (h : mR S q H m) (c : cq S q S2 q') : mR S2 q' H m := by
  obtain ⟨⟨a1, a2, a3, a4, a5⟩, ⟨b1, b2⟩, b3, ⟨d1, d2⟩, e, ⟨f1, f2⟩, g⟩ := h
  have v := c.v f2
  obtain ⟨c1, c2, c3, c4⟩ := c
  have k := fun i (hi : i ≤ 11) => c1 i (Or.inl hi)
  refine ⟨⟨(k 2 (by omega)).trans a1, (k 3 (by omega)).trans a2, (k 4 (by omega)).trans a3, (k 5 (by omega)).trans a4, (k 6 (by omega)).trans a5⟩, ⟨(k 7 (by omega)).trans b1, (k 11 (by omega)).trans b2⟩, fun z => ⟨(k 8 (by omega)).trans (b3 z).1, (k 9 (by omega)).trans (b3 z).2⟩, ⟨c2.trans d1, fun i hi => (c3 i (by rw [d1]; exact hi)).trans (d2 i hi)⟩, fun s hs => by rw [c4 s hs]; exact e s hs, ⟨fun s h1 h2 => (c4 s h1).trans (f1 s h1 h2), v⟩, g⟩
/-- copied whole -/
theorem bec4_v {q z : Nat} (h : Sst E x S T F col S1 T1 F1 c1) (k : iK S1 q 3) (c : c1 q = x) (kz : iK S1 z 3) (n : z ≠ q) : ∃ S2, f_Y4_become S1 q (some z) = (0, S2) ∧ mU E x S T F col T1 F1 c1 q S1 S2 ∧ cq S1 z S2 q ∧ S2.1 = S1.1 := by
  obtain ⟨-, S0, f0, u0, -⟩ := y_mBecome h k c kz
  have wq := h.ci.wf.w3 k
  have wz := h.ci.wf.w3 kz
  have Wq := W3k h.ci.wf k
  have Wz := W3k h.ci.wf kz
  have apart : ∀ i j, i < 4 → j < 4 → z + i ≠ q + j := fun i j hi hj y => n (mo_2 h.ci.wf kz k hi hj y).1
  obtain ⟨X, hX⟩ : ∃ X, X = siC (siC (siC (siC (siC (siC (siC (siC (siC (siC (siC (siC S1 q 0 (giC S1 z 0)) q 1 (giC S1 z 1)) q 2 (giC S1 z 2)) q 3 (giC S1 z 3)) q 4 (giC S1 z 4)) q 5 (giC S1 z 5)) q 6 (giC S1 z 6)) q 7 (giC S1 z 7)) q 8 (giC S1 z 8)) q 9 (giC S1 z 9)) q 10 (giC S1 z 10)) q 11 (giC S1 z 11) := ⟨_, rfl⟩
  have e1 : f_Y4_become S1 q (some z) = b_Y4_become_96a X q (some z) := by
    unfold f_Y4_become b_Y4_become_32a b_Y4_become_64a
    simp only [Option.getD_some, gi_si, n, false_and, if_false]
    rw [hX]
  have gX0 : ∀ r i, r ≠ q → giC X r i = giC S1 r i := fun r i hr => by
    rw [hX]
    simp only [gi_si, hr, false_and, if_false]
  have gXq : ∀ i, giC X q i = if i = 11 then giC S1 z 11 else if i = 10 then giC S1 z 10 else if i = 9 then giC S1 z 9 else if i = 8 then giC S1 z 8 else if i = 7 then giC S1 z 7 else if i = 6 then giC S1 z 6 else if i = 5 then giC S1 z 5 else if i = 4 then giC S1 z 4 else if i = 3 then giC S1 z 3 else if i = 2 then giC S1 z 2 else if i = 1 then giC S1 z 1 else if i = 0 then giC S1 z 0 else giC S1 q i := fun i => by
    rw [hX]
    simp only [gi_si, true_and]
  have rX : ∀ r i, grC X r i = grC S1 r i := fun r i => by
    rw [hX]
    simp only [gr_si]
  have lX : ∀ r, lnC X r = lnC S1 r := fun r => by
    rw [hX]
    simp only [ln_si]
  have kX : ∀ r c, iK X r c ↔ iK S1 r c := fun r c => by
    rw [hX]
    simp only [ik_si]
  have nX : X.1 = S1.1 := by rw [hX]; rfl
  have t1 := h.ci.wf.w6 Wq.1
  have t2 := h.ci.wf.w6 Wz.1
  have h4 : (Int32.ofNat 400).toInt = 400 := by decide
  have wz2 : 0 ≤ (giC S1 (z + 1) 1).toInt ∧ (giC S1 (z + 1) 1).toInt ≤ 400 := t2.2.2
  have hn := iNat wz2.1
  -- the text
  have eT : f_Y9_become X (q + 1) (z + 1) = (0, sfC (siC X (q + 1) 1 (giC S1 (z + 1) 1)) (q + 2) (va_cpy (giC S1 (z + 2)) (giC X (q + 2)) 0 0 (giC S1 (z + 1) 1).toNatClampNeg)) := by
    unfold f_Y9_become b_Y9_become_20a
    have r1 : grC X (q + 1) 0 = some (q + 2) := (rX _ _).trans t1.2.1
    have r2 : grC X (z + 1) 0 = some (z + 2) := (rX _ _).trans t2.2.1
    have v1 : giC X (z + 1) 1 = giC S1 (z + 1) 1 := gX0 _ _ (by have := apart 1 0 (by omega) (by omega); omega)
    have i1' : (if (Int32.ofNat 400) < (giC S1 (z + 1) 1) then (Int32.ofNat 400) else (giC S1 (z + 1) 1)) = giC S1 (z + 1) 1 := by
      split
      · next y =>
        have := iLt.mp y
        omega
      · rfl
    have i2 : (if (0 : Int32) < giC S1 (z + 1) 1 then giC S1 (z + 1) 1 else 0) = giC S1 (z + 1) 1 := by
      split
      · rfl
      · next y =>
        have y := mt iLt.mpr y
        rw [i0] at y
        refine iEq.mpr ?_
        rw [i0]
        omega
    rw [r1, Option.getD_some, show lnC X (q + 2) = 400 from (lX _).trans t1.1.2, v1, i1', i2]
    have a1 : grC (siC X (q + 1) 1 (giC S1 (z + 1) 1)) (q + 1) 0 = some (q + 2) := by rw [gr_si]; exact r1
    have a2 : grC (siC X (q + 1) 1 (giC S1 (z + 1) 1)) (z + 1) 0 = some (z + 2) := by rw [gr_si]; exact r2
    have a3 : giC (siC X (q + 1) 1 (giC S1 (z + 1) 1)) (q + 1) 1 = giC S1 (z + 1) 1 := by rw [gi_si, if_pos ⟨rfl, rfl⟩]
    rw [a1, a2, a3, Option.getD_some, Option.getD_some]
    have f1 : giC (siC X (q + 1) 1 (giC S1 (z + 1) 1)) (z + 2) = giC S1 (z + 2) := funext fun i => by
      rw [gi_si, if_neg (fun y => by have := apart 2 1 (by omega) (by omega); omega)]
      exact gX0 _ _ (by have := apart 2 0 (by omega) (by omega); omega)
    have f2 : giC (siC X (q + 1) 1 (giC S1 (z + 1) 1)) (q + 2) = giC X (q + 2) := funext fun i => by
      rw [gi_si, if_neg (fun y => by omega)]
    rw [f1, f2, zn0]
  obtain ⟨Y, hY⟩ : ∃ Y, Y = sfC (siC X (q + 1) 1 (giC S1 (z + 1) 1)) (q + 2) (va_cpy (giC S1 (z + 2)) (giC X (q + 2)) 0 0 (giC S1 (z + 1) 1).toNatClampNeg) := ⟨_, rfl⟩
  rw [← hY] at eT
  have gY : ∀ r i, giC Y r i = if r = q + 2 then va_cpy (giC S1 (z + 2)) (giC X (q + 2)) 0 0 (giC S1 (z + 1) 1).toNatClampNeg i else if r = q + 1 ∧ i = 1 then giC S1 (z + 1) 1 else giC X r i := fun r i => by
    rw [hY, gi_sf, gi_si]
  have rY : ∀ r i, grC Y r i = grC S1 r i := fun r i => by
    rw [hY, gr_sf, gr_si, rX]
  have lY : ∀ r, lnC Y r = lnC S1 r := fun r => by
    rw [hY, ln_sf, ln_si, lX]
  have n2 : (Int32.ofNat 200).toNatClampNeg = 200 := by decide
  have eq13 : grC Y q 13 = some (q + 3) := (rY _ _).trans wq.2.1.2
  have ez13 : grC Y z 13 = some (z + 3) := (rY _ _).trans wz.2.1.2
  have e2 : b_Y4_become_96a X q (some z) = (0, siC (sfC Y (q + 3) (va_cpy (giC Y (z + 3)) (giC Y (q + 3)) 0 0 200)) q 14 (giC (sfC Y (q + 3) (va_cpy (giC Y (z + 3)) (giC Y (q + 3)) 0 0 200)) z 14)) := by
    unfold b_Y4_become_96a b_Y4_become_107a b_Y4_become_133a
    rw [rX, rX, Option.getD_some, wq.2.1.1, wz.2.1.1, Option.getD_some, Option.getD_some, eT]
    simp only
    rw [eq13, ez13, Option.getD_some, Option.getD_some, show lnC Y (q + 3) = 200 from (lY _).trans wq.1.2.2, n2, zn0]
  have e3 := f0.symm.trans (e1.trans e2)
  obtain ⟨-, hS⟩ := Prod.mk.inj e3
  have g0 : ∀ r i, giC S0 r i = if r = q ∧ i = 14 then giC S1 z 14 else if r = q + 3 then va_cpy (giC Y (z + 3)) (giC Y (q + 3)) 0 0 200 i else giC Y r i := fun r i => by
    have e14 : giC (sfC Y (q + 3) (va_cpy (giC Y (z + 3)) (giC Y (q + 3)) 0 0 200)) z 14 = giC S1 z 14 := by
      rw [gi_sf, if_neg (show ¬ z = q + 3 from apart 0 3 (by omega) (by omega)), gY, if_neg (show ¬ z = q + 2 from apart 0 2 (by omega) (by omega)), if_neg (fun y => apart 0 1 (by omega) (by omega) y.1)]
      exact gX0 _ _ n
    rw [hS, gi_si, e14, gi_sf]
  refine ⟨S0, f0, u0, ⟨fun k hk => ?_, ?_, fun i hi => ?_, fun s hs => ?_⟩, ?_⟩
  · rcases hk with hk | hk
    · rw [g0, if_neg (fun y => by omega), if_neg (by omega), gY, if_neg (by omega), if_neg (fun y => by omega), gXq]
      rcases (show k = 0 ∨ k = 1 ∨ k = 2 ∨ k = 3 ∨ k = 4 ∨ k = 5 ∨ k = 6 ∨ k = 7 ∨ k = 8 ∨ k = 9 ∨ k = 10 ∨ k = 11 by omega) with rfl | rfl | rfl | rfl | rfl | rfl | rfl | rfl | rfl | rfl | rfl | rfl <;> rfl
    · rw [g0, if_pos ⟨rfl, hk⟩, hk]
  · rw [g0, if_neg (fun y => by omega), if_neg (by omega), gY, if_neg (by omega), if_pos ⟨rfl, rfl⟩]
  · rw [g0, if_neg (fun y => by omega), if_neg (by omega), gY, if_pos rfl, pk_cpy_in (Nat.zero_le i) (by omega), Nat.zero_add, Nat.sub_zero]
  · rw [g0, if_neg (fun y => by omega), if_pos rfl, pk_cpy_in (Nat.zero_le s) (by omega), Nat.zero_add, Nat.sub_zero, gY, if_neg (apart 3 2 (by omega) (by omega)), if_neg (fun y => apart 3 1 (by omega) (by omega) y.1)]
    exact gX0 _ _ (apart 3 0 (by omega) (by omega))
  · rw [hS]
    show Y.1 = S1.1
    rw [← nX, hY]
    rfl
end
