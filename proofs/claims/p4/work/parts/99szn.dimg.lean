/-! ===== image: what it needs ===== -/
section
variable {wF : Prop × (Nat → Int32) × Int32 × (Nat → Int32)} {x y a b l : Nat} {r2 r3 ro : Option Nat} {ko : Nat} {A : List Nat} {S S1 S2 S3 S4 Sk : Cst} {T T1 T2 T3 Tk : Nat → List Nat} {col c1 c2 c3 ck : Nat → Nat} {H H2 G R O : HS} {M M2 : MS} {v : Int32} {P z : Nat → Int32}
/-- what stands beside an image made -/
def CG (S : Cst) (T : Nat → List Nat) (a b l : Nat) (M : MS) (ro : Option Nat) (ko : Nat) : Prop := (∃ z, RR (True, z, M.2.1.1 0, M.2.1.2 40) (M.2.1.1 7).toInt S T a M.2.1 ∧ JX S T a (M.2.1.1 0) (M.2.1.1 7).toNatClampNeg (M.2.1.2 40) z) ∧ jS S b ∧ IM S T ro ko M.1 ∧ TE S l M.1
theorem CG.og (h : KG 82 a b r2 r3 l A S T col) (ma : a ∈ A) (mb : b ∈ A) (mo : ∀ d, ro = some d → d ∈ A) (cg : CG S T a b l M ro ko) (en : eN S S2) (wf2 : wfS S2) (fr : ∀ d, (d = a ∨ d = b ∨ ro = some d) → ∀ q, q < S.1 → col q = d → S2.2.2 q = S.2.2 q) (ft : ∀ d, (d = a ∨ d = b ∨ ro = some d) → ∀ c, c < S.1 → col c = d → T2 c = T c) (fl : S2.2.2 l = S.2.2 l) (fz : S2.2.2 ((grC S l 2).getD 0) = S.2.2 ((grC S l 2).getD 0)) (sv2 : sV S2) : CG S2 T2 a b l M ro ko := by
  obtain ⟨⟨z, q1, q2⟩, q3, q4, q5⟩ := cg
  have fa := fr a (Or.inl rfl)
  have ga := ft a (Or.inl rfl)
  have ka := (h.2.2.2.2.1 a ma).1
  refine ⟨⟨z, q1.og h.ci ka en wf2 fa ga sv2, q2.og h.ci ka en wf2 fa ga sv2⟩, q3.og h.ci (h.2.2.2.2.1 b mb).1 en (fr b (Or.inr (Or.inl rfl))), ⟨q4.1, fun c e => ?_⟩, q5.og h.kl h.ci.wf en fl fz⟩
  obtain ⟨p1, p2, p3, z, p4⟩ := q4.2 c e
  have kc := (h.2.2.2.2.1 c (mo c e)).1
  exact ⟨p1, p2, p3.og h.ci kc en (fr c (Or.inr (Or.inr e))), z, p4.og h.ci kc en wf2 (fr c (Or.inr (Or.inr e))) (ft c (Or.inr (Or.inr e))) sv2⟩
theorem jS_mk (h : CI noE S T [] col) : jS (mkX0 S) S.1 := by
  have wf := wf_mk0 h.wf
  have w0 := wf.w0 m0_0
  have k7 := w0.1.2.2.2.2.1
  have k9 := w0.1.2.2.2.2.2.1
  have r7 : grC (mkX0 S) (S.1 + 7) 2 = some (S.1 + 8) := (nw_gr 7 2).trans rfl
  have r9 : grC (mkX0 S) (S.1 + 9) 2 = some (S.1 + 10) := (nw_gr 9 2).trans rfl
  refine ⟨⟨(nw_gi 7 0).trans rfl, (nw_gi 9 0).trans rfl⟩, fun q k y => ?_, fun q k y => ?_, ?_, ?_, ?_⟩
  · rw [r7, Option.getD_some] at y
    exact ik_ne k k7 (by decide) (by omega)
  · rw [r9, Option.getD_some] at y
    exact ik_ne k k9 (by decide) (by omega)
  · rw [r7, r9, Option.getD_some, Option.getD_some]
    omega
  · rw [r7, Option.getD_some]
    omega
  · rw [r9, Option.getD_some]
    omega
theorem sV_mk (h : CI noE S T [] col) (sv : sV S) : sV (mkX0 S) := fun q k => by
  by_cases a : q < S.1
  · have kS : iK S q 3 := ⟨a, by rw [← ((eN.pu S _ _).2 q a).1]; exact k.2⟩
    have W := W3k h.wf kS
    rw [vCn_cg (S2 := mkX0 S) (S1 := S) (fun k => pu_gi W.2.2.1 k), show giC (mkX0 S) q 14 = giC S q 14 from pu_gi a 14]
    exact sv q kS
  · obtain ⟨i, hi, rfl⟩ := nw_i (Nat.le_of_not_lt a) k
    have := m0_k hi k.2
    omega
theorem im_l (M : MS) (x1 : Int32) (hx : 0 ≤ x1.toInt ∧ x1.toInt ≤ 1) (he : 0 ≤ (M.2.1.1 7).toInt ∧ (M.2.1.1 7).toInt ≤ 600) : ∀ (f : Nat) (j : Int32) (O : HS), 0 ≤ j.toInt → j.toInt ≤ 6 * (M.2.1.1 7).toInt → 6 * (M.2.1.1 7).toInt - j.toInt < f → ∃ R, lp_X12_image_40 f (mO M O) x1 j = (M.2.1.1 7, mO M R) ∧ R.1 = O.1 ∧ (∀ q, q ≠ 4 → R.2 q = O.2 q) ∧ ∀ i, R.2 4 i = if 3600 * x1.toNatClampNeg + j.toNatClampNeg ≤ i ∧ i < 3600 * x1.toNatClampNeg + 6 * (M.2.1.1 7).toNatClampNeg then M.2.1.2 40 (i - 3600 * x1.toNatClampNeg) else O.2 4 i := by
  intro f
  induction f with
  | zero => intro j O h1 h2 h3; omega
  | succ f ih =>
    intro j O h1 h2 h3
    have kj := iNat h1
    have ke := iNat he.1
    have kx := iNat hx.1
    have t36 : (3600 : Int32).toInt = 3600 := by decide
    have t6 : (6 : Int32).toInt = 6 := by decide
    have m1 : (3600 * x1).toInt = 3600 * x1.toInt := iMul (by rw [t36]) (by omega) (by omega)
    have m2 : (6 * M.2.1.1 7).toInt = 6 * (M.2.1.1 7).toInt := iMul (by rw [t6]) (by omega) (by omega)
    have s0 := iAdd (x := 3600 * x1) (y := j) (by omega) (by omega)
    have ix : (3600 * x1 + j).toNatClampNeg = 3600 * x1.toNatClampNeg + j.toNatClampNeg := by
      have := iNat (x := 3600 * x1 + j) (by omega)
      omega
    rw [lp_X12_image_40]
    unfold st_X12_image_40
    by_cases d : 6 * (mO M O).2.1.1 7 ≤ j
    · rw [if_pos d]
      have d : (6 * M.2.1.1 7).toInt ≤ j.toInt := iLe.mp d
      refine ⟨O, rfl, rfl, fun _ _ => rfl, fun i => ?_⟩
      rw [if_neg (by omega)]
    · rw [if_neg d]
      have d : ¬ (6 * M.2.1.1 7).toInt ≤ j.toInt := mt iLe.mpr d
      have e1 := iAdd (x := j) (y := 1) (by rw [i1]; omega) (by rw [i1]; omega)
      rw [i1] at e1
      have en : (j + 1).toNatClampNeg = j.toNatClampNeg + 1 := by
        have := iNat (x := j + 1) (by omega)
        omega
      obtain ⟨R, f1, f2, f3, f4⟩ := ih (j + 1) (sA O 4 (3600 * x1 + j).toNatClampNeg (M.2.1.2 40 j.toNatClampNeg)) (by omega) (by omega) (by omega)
      refine ⟨R, f1, f2, fun q n => (f3 q n).trans (sA_k n), fun i => ?_⟩
      rw [f4, en]
      have c : (sA O 4 (3600 * x1 + j).toNatClampNeg (M.2.1.2 40 j.toNatClampNeg)).2 4 i = if i = (3600 * x1 + j).toNatClampNeg then M.2.1.2 40 j.toNatClampNeg else O.2 4 i := rfl
      rw [c, ix]
      by_cases y : i = 3600 * x1.toNatClampNeg + j.toNatClampNeg
      · rw [if_neg (by omega), if_pos y, if_pos (by omega), y, Nat.add_sub_cancel_left]
      · rw [if_neg y]
        by_cases w : 3600 * x1.toNatClampNeg + (j.toNatClampNeg + 1) ≤ i ∧ i < 3600 * x1.toNatClampNeg + 6 * (M.2.1.1 7).toNatClampNeg
        · rw [if_pos w, if_pos (by omega)]
        · rw [if_neg w, if_neg (by omega)]
end
