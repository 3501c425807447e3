/-! ===== back ===== -/
section
variable {wF : Prop × (Nat → Int32) × Int32 × (Nat → Int32)} {x y a b l : Nat} {r2 r3 : Option Nat} {S S1 S2 S3 S4 Sk : Cst} {T T1 T2 T3 Tk : Nat → List Nat} {col c1 c2 c3 ck : Nat → Nat} {H H2 G R O : HS} {M M2 : MS} {v : Int32} {P z : Nat → Int32}
theorem mHx1 (M : MS) (G : HS) : (mH M G).1 = M.1 := rfl
theorem mHx2 (M : MS) (G : HS) : (mH M G).2.1 = G := rfl
theorem mHx3 (M : MS) (G H : HS) : mH (mH M G) H = mH M H := rfl
theorem bk_l (M : MS) (B : HS) (x1 : Int32) (hx : 0 ≤ x1.toInt ∧ x1.toInt ≤ 1) (he : 0 ≤ (M.1.2 3 x1.toNatClampNeg).toInt ∧ (M.1.2 3 x1.toNatClampNeg).toInt ≤ 600) : ∀ (f : Nat) (j : Int32) (G : HS), G = fol (fun i => M.1.2 4 (3600 * x1.toNatClampNeg + i)) B j.toNatClampNeg → 0 ≤ j.toInt → j.toInt ≤ (M.1.2 3 x1.toNatClampNeg).toInt → (M.1.2 3 x1.toNatClampNeg).toInt - j.toInt < f → lp_X12_back_40 f (mH M G) x1 j = (M.1.2 3 x1.toNatClampNeg, mH M (sI (fol (fun i => M.1.2 4 (3600 * x1.toNatClampNeg + i)) B (M.1.2 3 x1.toNatClampNeg).toNatClampNeg) 10 0)) := by
  intro f
  induction f with
  | zero => intro j G eG h1 h2 h3; omega
  | succ f ih =>
    intro j G eG h1 h2 h3
    have kj := iNat h1
    have ke := iNat he.1
    have kx := iNat hx.1
    have t36 : (3600 : Int32).toInt = 3600 := by decide
    have t6 : (6 : Int32).toInt = 6 := by decide
    have m1 : (3600 * x1).toInt = 3600 * x1.toInt := iMul (by rw [t36]) (by omega) (by omega)
    have m2 : (6 * j).toInt = 6 * j.toInt := iMul (by rw [t6]) (by omega) (by omega)
    have s0 := iAdd (x := 3600 * x1) (y := 6 * j) (by omega) (by omega)
    have ix : (3600 * x1 + 6 * j).toNatClampNeg = 3600 * x1.toNatClampNeg + 6 * j.toNatClampNeg := by
      have := iNat (x := 3600 * x1 + 6 * j) (by omega)
      omega
    have ij : ∀ (c : Int32) (k : Nat), c.toInt = k → k < 6 → (3600 * x1 + 6 * j + c).toNatClampNeg = 3600 * x1.toNatClampNeg + (6 * j.toNatClampNeg + k) := fun c k hc hk => by
      have s := iAdd (x := 3600 * x1 + 6 * j) (y := c) (by omega) (by omega)
      have := iNat (x := 3600 * x1 + 6 * j + c) (by omega)
      omega
    rw [lp_X12_back_40]
    unfold st_X12_back_40
    by_cases d : (mH M G).1.2 3 x1.toNatClampNeg ≤ j
    · rw [if_pos d]
      simp only [mHx1, mHx2, mHx3]
      have d : (M.1.2 3 x1.toNatClampNeg).toInt ≤ j.toInt := iLe.mp d
      have ej : j.toNatClampNeg = (M.1.2 3 x1.toNatClampNeg).toNatClampNeg := by omega
      rw [ej] at eG
      rw [← eG]
    · rw [if_neg d]
      simp only [mHx1, mHx2, mHx3]
      have d : ¬ (M.1.2 3 x1.toNatClampNeg).toInt ≤ j.toInt := mt iLe.mpr d
      have e1 := iAdd (x := j) (y := 1) (by rw [i1]; omega) (by rw [i1]; omega)
      rw [i1] at e1
      have en : (j + 1).toNatClampNeg = j.toNatClampNeg + 1 := by
        have := iNat (x := j + 1) (by omega)
        omega
      unfold b_X12_back_a106
      refine ih (j + 1) _ ?_ (by omega) (by omega) (by omega)
      rw [en, fol, ← eG, ix, ij 1 1 (by decide) (by omega), ij 2 2 (by decide) (by omega), ij 3 3 (by decide) (by omega), ij 4 4 (by decide) (by omega)]
theorem ac_back (q : RQ S M) (mi : MI M) (k : Int32) (e : f_Y10_back S 82 k = (v, S2)) : v = (f_X12_back M k).1 ∧ RQ S2 (f_X12_back M k).2 := by
  obtain ⟨a, b, r2, r3, l, T, col, h, c⟩ := id q
  have key : (0 ≤ k.toInt ∧ k.toInt ≤ 1) → ∀ r, (∀ d, r = some d → d ∈ kA a b r2 r3 ∧ d ≠ a) → IM S T r k.toNatClampNeg M.1 → b_Y10_back_27 S 82 k r = (v, S2) → v = (if M.1.2 3 k.toNatClampNeg = -1 then ((-11 : Int32), M) else b_X12_back_a38 (mH M (f_X11_begin M.2.1 (M.1.2 2 k.toNatClampNeg)).2) k).1 ∧ RQ S2 (if M.1.2 3 k.toNatClampNeg = -1 then ((-11 : Int32), M) else b_X12_back_a38 (mH M (f_X11_begin M.2.1 (M.1.2 2 k.toNatClampNeg)).2) k).2 := by
    intro hk r hr im e
    cases r with
    | none =>
      rw [if_pos (im.1 rfl)]
      obtain ⟨rfl, rfl⟩ := Prod.mk.inj e
      exact ⟨rfl, q⟩
    | some d =>
      obtain ⟨md, nd⟩ := hr d rfl
      obtain ⟨p1, p2, p3, z', p4⟩ := im.2 d rfl
      rw [if_neg p1]
      obtain ⟨⟨z, q1, q2⟩, q3, ⟨q4, q5⟩, q6⟩ := c
      have hd := h.2.2.2.2.1 d md
      have hb := mi.1.hb
      obtain ⟨S3, T3, c3, f, as, j3, all⟩ := JX.bec (h.as (KJ.ma h)).1 hd.1 nd hd.2.1 q1.sv q1.jS hb p4
      have rr := all _ _ (p4.2.2 M.2.1 hb).2
      have e6 := p4.1.2.1
      have ke := iNat p2
      unfold b_X12_back_a38
      rw [bk_l M (f_X11_begin M.2.1 (M.1.2 2 k.toNatClampNeg)).2 k hk ⟨p2, by omega⟩ 100000 0 _ (by rw [zn0]; rfl) (by rw [i0]; omega) (by rw [i0]; omega) (by rw [i0]; omega)]
      generalize fol (fun i => M.1.2 4 (3600 * k.toNatClampNeg + i)) (f_X11_begin M.2.1 (M.1.2 2 k.toNatClampNeg)).2 (M.1.2 3 k.toNatClampNeg).toNatClampNeg = F at rr ⊢
      have k2 := h.step (KJ.ma h) as.1 as.2
      have sv2 : sV S3 := rr.sv
      obtain ⟨o1, o2, o3⟩ := CT.oth (O := M.1) h (KJ.ma h) as.1 sv2
      have g0 : F.1 0 = M.1.2 2 k.toNatClampNeg := rr.2.2.2.2.1.2.2.1
      have q' := rr.2.2.2.1
      have s7 : (sI F 10 0).1 7 = F.1 7 := rfl
      have s4 : (sI F 10 0).2 40 = F.2 40 := rfl
      have e7 : (F.1 7).toInt = (M.1.2 3 k.toNatClampNeg).toNatClampNeg := by
        rw [← s7, ← q'.1.1]
        exact j3.2.1.1
      have n7 : (F.1 7).toNatClampNeg = (M.1.2 3 k.toNatClampNeg).toNatClampNeg := by
        have := iNat (x := F.1 7) (by omega)
        omega
      have cg : ∀ i, i < 6 * (M.1.2 3 k.toNatClampNeg).toNatClampNeg → F.2 40 i = M.1.2 4 (3600 * k.toNatClampNeg + i) := fun i hi => by
        have t1 := q'.1.2.2 (i / 6) (i % 6) (by rw [s7]; omega) (by omega)
        have t2 := j3.2.1.2.1 (i / 6) (i % 6) (by omega) (by omega)
        have ei : 6 * (i / 6) + i % 6 = i := by omega
        rw [s4, ei] at t1
        rw [ei] at t2
        exact t1.symm.trans t2
      have wa := k2.ci.wf.w0 (KJ.ka k2)
      unfold b_Y10_back_27 b_Y10_back_43a at e
      rw [if_neg (by simp), h.g0, Option.getD_some, Option.getD_some, f] at e
      simp only at e
      rw [k2.g0, Option.getD_some, wa.2.1.2.2.2.2.1, Option.getD_some, q'.1.1, s7] at e
      obtain ⟨ev, rfl⟩ := Prod.mk.inj e
      refine ⟨ev.symm.trans (iEq.mpr (show (F.1 7).toInt = (M.1.2 3 k.toNatClampNeg).toInt by omega)), a, b, r2, r3, l, T3, c3, k2, ⟨z', ?_, ?_⟩, (o3 b (KJ.mb h) (fun e => KJ.nab h e.symm)).1 q3, ⟨o1 r2 0 (Or.inl rfl) (fun c e => ?_) q4, o1 r3 1 (Or.inr rfl) (fun c e => ?_) q5⟩, o2 q6⟩
      · show RR (True, z', F.1 0, F.2 40) (F.1 7).toInt S3 T3 a (sI F 10 0)
        rw [g0, e7]
        exact rr
      · show JX S3 T3 a (F.1 0) (F.1 7).toNatClampNeg (F.2 40) z'
        rw [g0, n7]
        exact j3.cg cg
      · subst e
        exact (KJ.n2 h).1
      · subst e
        exact (KJ.n3 h).1
  unfold f_Y10_back b_Y10_back_9 at e
  rw [in_if2, h.2.2.1.2.2.1, h.2.2.1.2.2.2.1] at e
  unfold f_X12_back
  by_cases z : f_X12_in k 0 1 = 0
  · rw [if_pos z] at e
    rw [if_pos z]
    obtain ⟨rfl, rfl⟩ := Prod.mk.inj e
    exact ⟨rfl, q⟩
  · rw [if_neg z] at e
    rw [if_neg z]
    have hk : 0 ≤ k.toInt ∧ k.toInt ≤ 1 := by
      by_cases y : (0 : Int32).toInt ≤ k.toInt ∧ k.toInt ≤ (1 : Int32).toInt
      · rw [i0, i1] at y
        exact y
      · exact absurd (by rw [in_f, if_neg y]) z
    by_cases y : k = 0
    · rw [if_pos y] at e
      have k0 : k.toNatClampNeg = 0 := by rw [y]; exact zn0
      refine key hk r2 (fun d ed => ?_) (by rw [k0]; exact c.2.2.1.1) e
      subst ed
      exact ⟨KJ.m2 h, (KJ.n2 h).1⟩
    · rw [if_neg y] at e
      have y' := mt iEq.mpr y
      rw [i0] at y'
      have k1 : k.toNatClampNeg = 1 := by
        have := iNat hk.1
        omega
      refine key hk r3 (fun d ed => ?_) (by rw [k1]; exact c.2.2.1.2) e
      subst ed
      exact ⟨KJ.m3 h, (KJ.n3 h).1⟩
end
