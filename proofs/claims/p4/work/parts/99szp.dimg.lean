/-! ===== image, both sides ===== -/
section
variable {a b c l : Nat} {r2 r3 ro : Option Nat} {S S1 S2 S3 S4 : Cst} {T T1 T2 T3 : Nat → List Nat} {col c1 c2 c3 : Nat → Nat} {H G R O : HS} {M M2 : MS} {v : Int32}
/-- the reference's state with an image more -/
theorem img_r (mi : MI M) (k : Int32) (hk : 0 ≤ k.toInt ∧ k.toInt ≤ 1) : ∃ R, f_X12_image M k = (M.2.1.1 7, mO M R) ∧ R.1 = M.1.1 ∧ R.2 5 = M.1.2 5 ∧ (R.2 2 k.toNatClampNeg = M.2.1.1 0 ∧ R.2 3 k.toNatClampNeg = M.2.1.1 7 ∧ ∀ i, i < 6 * (M.2.1.1 7).toNatClampNeg → R.2 4 (3600 * k.toNatClampNeg + i) = M.2.1.2 40 i) ∧ ∀ j : Nat, j < 2 → j ≠ k.toNatClampNeg → R.2 2 j = M.1.2 2 j ∧ R.2 3 j = M.1.2 3 j ∧ ∀ i, i < 3600 → R.2 4 (3600 * j + i) = M.1.2 4 (3600 * j + i) := by
  have h7 := mi.1.2.1
  have kx := iNat hk.1
  have ke := iNat h7.1
  obtain ⟨R, f1, f2, f3, f4⟩ := im_l M k hk h7 100000 0 (sA (sA M.1 2 k.toNatClampNeg (M.2.1.1 0)) 3 k.toNatClampNeg (M.2.1.1 7)) (by rw [i0]; omega) (by rw [i0]; omega) (by rw [i0]; omega)
  have z : ¬ f_X12_in k 0 1 = 0 := by
    rw [in_f, i0, i1, if_pos hk]
    decide
  have o2 : ∀ i, (sA (sA M.1 2 k.toNatClampNeg (M.2.1.1 0)) 3 k.toNatClampNeg (M.2.1.1 7)).2 2 i = if i = k.toNatClampNeg then M.2.1.1 0 else M.1.2 2 i := fun _ => rfl
  have o3 : ∀ i, (sA (sA M.1 2 k.toNatClampNeg (M.2.1.1 0)) 3 k.toNatClampNeg (M.2.1.1 7)).2 3 i = if i = k.toNatClampNeg then M.2.1.1 7 else M.1.2 3 i := fun _ => rfl
  have o4 : ∀ i, (sA (sA M.1 2 k.toNatClampNeg (M.2.1.1 0)) 3 k.toNatClampNeg (M.2.1.1 7)).2 4 i = M.1.2 4 i := fun _ => rfl
  refine ⟨R, ?_, f2, f3 5 (by omega), ⟨?_, ?_, fun i hi => ?_⟩, fun j hj nj => ⟨?_, ?_, fun i hi => ?_⟩⟩
  · unfold f_X12_image
    rw [if_neg z]
    exact f1
  · rw [f3 2 (by omega), o2, if_pos rfl]
  · rw [f3 3 (by omega), o3, if_pos rfl]
  · rw [f4, zn0, if_pos (by omega), Nat.add_sub_cancel_left]
  · rw [f3 2 (by omega), o2, if_neg nj]
  · rw [f3 3 (by omega), o3, if_neg nj]
  · rw [f4, zn0, if_neg (by omega), o4]
theorem ac_image (q : RQ S M) (mi : MI M) (k : Int32) (e : f_Y10_image S 82 k = (v, S2)) : v = (f_X12_image M k).1 ∧ RQ S2 (f_X12_image M k).2 := by
  obtain ⟨a, b, r2, r3, l, T, col, h, c⟩ := id q
  obtain ⟨p0, p3, ⟨p4, p5⟩, p6⟩ := c
  have hb := mi.1.hb
  have hn := h.2.2.2.1
  obtain ⟨v', S2', e', -, ki, -⟩ := k_image ⟨a, b, r2, r3, l, T, col, h⟩ k
  obtain ⟨-, rfl⟩ := Prod.mk.inj (e.symm.trans e')
  have h7 := mi.1.2.1
  have m7 : M.2.1.1 7 ≠ -1 := fun y => by
    have t : (-1 : Int32).toInt = -1 := by decide
    rw [y, t] at h7
    omega
  unfold f_Y10_image at e
  rw [h.2.2.1.2.2.1, h.2.2.1.2.2.2.1] at e
  have kb : b ≠ a := fun e => KJ.nab h e.symm
  have mkI : ∀ {S4 : Cst} {T4 : Nat → List Nat} {c : Nat} {K : Nat} {R : HS} {z : Nat → Int32}, R.2 2 K = M.2.1.1 0 → R.2 3 K = M.2.1.1 7 → (∀ i, i < 6 * (M.2.1.1 7).toNatClampNeg → R.2 4 (3600 * K + i) = M.2.1.2 40 i) → jS S4 c → JX S4 T4 c (M.2.1.1 0) (M.2.1.1 7).toNatClampNeg (M.2.1.2 40) z → IM S4 T4 (some c) K R := by
    intro S4 T4 c K R z e2 e3 e4 j x
    refine ⟨fun y => absurd y (by simp), fun d ed => ?_⟩
    cases ed
    rw [e3, e2]
    exact ⟨m7, h7.1, j, z, x.cg e4⟩
  by_cases y : k = 0
  · rw [if_pos y] at e
    have k0 : k.toNatClampNeg = 0 := by rw [y]; exact zn0
    obtain ⟨R, fR, e1, e5, ⟨e2, e3, e4⟩, eo⟩ := img_r mi k (by rw [y, i0]; omega)
    rw [k0] at e2 e3 e4 eo
    obtain ⟨o2, o3, o4⟩ := eo 1 (by omega) (by omega)
    obtain ⟨c, S3, T3, c3, f, ci, ⟨g0, g1, g2, g3, g4⟩, ga, ⟨cg1, cg2, cg3, cg4⟩, j, z, x⟩ := img_n (r := r2) (ro := r3) (ko := 1) (M := M) (f := 2) h (fun d ed => by
      subst ed
      refine ⟨KJ.m2 h, (KJ.n2 h).1, (KJ.n2 h).2, (p4.2 d rfl).2.2.1, fun w => ?_⟩
      subst w
      unfold kA at hn
      simp at hn) (fun d ed => by subst ed; exact KJ.m3 h) ⟨p0, p3, p5, p6⟩ hb (Or.inl rfl)
    rw [f] at e
    unfold b_Y10_image_13a b_Y10_image_42 at e
    simp only at e
    rw [g0, Option.getD_some, ga, Option.getD_some] at e
    obtain ⟨ev, rfl⟩ := Prod.mk.inj e
    rw [fR]
    obtain ⟨zz, w1, w2⟩ := cg1
    exact ⟨ev.symm.trans w1.j7, RQ.mk ki g0 g1 g2 g3 g4 ci ⟨⟨zz, w1, w2⟩, cg2, ⟨mkI e2 e3 e4 j x, cg3.cp o2 o3 o4⟩, cg4.cp e1 e5⟩⟩
  · rw [if_neg y] at e
    by_cases y1 : k = 1
    · rw [if_pos y1] at e
      have k1 : k.toNatClampNeg = 1 := by rw [y1]; decide
      obtain ⟨R, fR, e1, e5, ⟨e2, e3, e4⟩, eo⟩ := img_r mi k (by rw [y1, i1]; omega)
      rw [k1] at e2 e3 e4 eo
      obtain ⟨o2, o3, o4⟩ := eo 0 (by omega) (by omega)
      obtain ⟨c, S3, T3, c3, f, ci, ⟨g0, g1, g2, g3, g4⟩, ga, ⟨cg1, cg2, cg3, cg4⟩, j, z, x⟩ := img_n (r := r3) (ro := r2) (ko := 0) (M := M) (f := 3) h (fun d ed => by
        subst ed
        refine ⟨KJ.m3 h, (KJ.n3 h).1, (KJ.n3 h).2, (p5.2 d rfl).2.2.1, fun w => ?_⟩
        subst w
        unfold kA at hn
        simp at hn) (fun d ed => by subst ed; exact KJ.m2 h) ⟨p0, p3, p4, p6⟩ hb (Or.inr rfl)
      rw [f] at e
      unfold b_Y10_image_33a b_Y10_image_42 at e
      simp only at e
      rw [g0, Option.getD_some, ga, Option.getD_some] at e
      obtain ⟨ev, rfl⟩ := Prod.mk.inj e
      rw [fR]
      obtain ⟨zz, w1, w2⟩ := cg1
      exact ⟨ev.symm.trans w1.j7, RQ.mk ki g0 g1 g2 g3 g4 ci ⟨⟨zz, w1, w2⟩, cg2, ⟨cg3.cp o2 o3 o4, mkI e2 e3 e4 j x⟩, cg4.cp e1 e5⟩⟩
    · rw [if_neg y1] at e
      have z : f_X12_in k 0 1 = 0 := by
        rw [in_f, i0, i1, if_neg (fun w => ?_)]
        have n0 := mt iEq.mpr y
        have n1 := mt iEq.mpr y1
        rw [i0] at n0
        rw [i1] at n1
        omega
      unfold f_X12_image
      rw [if_pos z]
      obtain ⟨rfl, rfl⟩ := Prod.mk.inj e
      exact ⟨rfl, q⟩
end
