/-! ===== tell ===== -/
section
variable {x y a b l : Nat} {r2 r3 : Option Nat} {S S1 S2 S3 S4 Sk : Cst} {T T1 T2 T3 Tk : Nat → List Nat} {col c1 c2 c3 ck : Nat → Nat} {H H2 G R O : HS} {M M2 : MS} {v : Int32} {P z : Nat → Int32}
def tlO (O : HS) (x1 x2 x3 x4 x5 x6 : Int32) : HS := sI (sA (sA (sA (sA (sA (sA O 5 (6 * O.1 6).toNatClampNeg x1) 5 (6 * O.1 6 + 1).toNatClampNeg x2) 5 (6 * O.1 6 + 2).toNatClampNeg x3) 5 (6 * O.1 6 + 3).toNatClampNeg x4) 5 (6 * O.1 6 + 4).toNatClampNeg x5) 5 (6 * O.1 6 + 5).toNatClampNeg x6) 6 (O.1 6 + 1)
theorem mOx1 (M : MS) (s : HS) : (mO M s).1 = s := rfl
theorem mOx2 (M : MS) (s t : HS) : mO (mO M s) t = mO M t := rfl
theorem sAx1 (O : HS) (k i : Nat) (v : Int32) : (sA O k i v).1 = O.1 := rfl
theorem sIx6 (O : HS) (v : Int32) : (sI O 6 v).1 6 = v := rfl
theorem tell_r (M : MS) (x1 x2 x3 x4 x5 x6 : Int32) : f_X12_tell M x1 x2 x3 x4 x5 x6 = if M.1.1 6 = 600 then (-10, M) else (M.1.1 6 + 1, mO M (tlO M.1 x1 x2 x3 x4 x5 x6)) := by
  unfold f_X12_tell tlO
  simp only [mOx1, mOx2, sAx1, sIx6]
theorem tlO_r (O : HS) (x1 x2 x3 x4 x5 x6 : Int32) (i : Nat) : (tlO O x1 x2 x3 x4 x5 x6).2 5 i = if i = (6 * O.1 6 + 5).toNatClampNeg then x6 else if i = (6 * O.1 6 + 4).toNatClampNeg then x5 else if i = (6 * O.1 6 + 3).toNatClampNeg then x4 else if i = (6 * O.1 6 + 2).toNatClampNeg then x3 else if i = (6 * O.1 6 + 1).toNatClampNeg then x2 else if i = (6 * O.1 6).toNatClampNeg then x1 else O.2 5 i := rfl
theorem tell_v (h : KJ 82 a b r2 r3 l S T col) (t : TE S l O) (h6 : 0 ≤ (O.1 6).toInt ∧ (O.1 6).toInt < 600) (x1 x2 x3 x4 x5 x6 : Int32) : ∃ B c2, f_Y10_tell S 82 x1 x2 x3 x4 x5 x6 = (O.1 6 + 1, B) ∧ LSt noE T [] l S col B c2 ∧ nk S B ∧ TE B l (tlO O x1 x2 x3 x4 x5 x6) := by
  obtain ⟨t0, t1, t2, to, t3⟩ := t
  have kl := h.kl
  have w := h.ci.wf.w2 kl
  have kn := iNat h6.1
  obtain ⟨Sa, ca, f, g, e3, e3i, el, ec, nka⟩ := open_v h.ci kl (by rw [t1]; exact h6.2)
  have q : grC Sa 82 4 = some l := (KJ.refl h g).2.2.2.2
  have k0 : iK Sa l 2 := g.k kl
  have gg : giC Sa l 0 = 6 := g.2.2.2.2.2.1.1.trans t0
  have t5 : (6 : Int32).toInt = 6 := by decide
  have W0 : wI Sa l (O.1 6).toNatClampNeg 6 := ⟨by rw [e3i, t1]; omega, gg, by rw [t5]; rw [t1, t0, t5] at el; omega⟩
  obtain ⟨z, hz⟩ : ∃ z, z = (grC Sa l 2).getD 0 := ⟨_, rfl⟩
  obtain ⟨f0, g0, W1⟩ := wst g.1 k0 W0 (c := 0) (j := 0) x1 rfl (by rw [t5]; decide)
  rw [← hz] at f0 g0 W1
  obtain ⟨B0, hB0⟩ : ∃ B, B = siC Sa z (Int32.toNatClampNeg 6 * (O.1 6).toNatClampNeg + 0) x1 := ⟨_, rfl⟩
  rw [← hB0] at f0 g0 W1
  have k1 : iK B0 l 2 := g0.k k0
  have q0 : grC B0 82 4 = some l := by rw [hB0, gr_si]; exact q
  obtain ⟨f1, g1, W2⟩ := wst g0.1 k1 W1 (c := 1) (j := 1) x2 rfl (by rw [t5]; decide)
  have hz1 : (grC B0 l 2).getD 0 = z := by rw [hB0, gr_si]; exact hz.symm
  rw [hz1] at f1 g1 W2
  obtain ⟨B1, hB1⟩ : ∃ B, B = siC B0 z (Int32.toNatClampNeg 6 * (O.1 6).toNatClampNeg + 1) x2 := ⟨_, rfl⟩
  rw [← hB1] at f1 g1 W2
  have k2 : iK B1 l 2 := g1.k k1
  have q1 : grC B1 82 4 = some l := by rw [hB1, gr_si]; exact q0
  obtain ⟨f2, g2, W3⟩ := wst g1.1 k2 W2 (c := 2) (j := 2) x3 rfl (by rw [t5]; decide)
  have hz2 : (grC B1 l 2).getD 0 = z := by rw [hB1, gr_si]; exact hz1
  rw [hz2] at f2 g2 W3
  obtain ⟨B2, hB2⟩ : ∃ B, B = siC B1 z (Int32.toNatClampNeg 6 * (O.1 6).toNatClampNeg + 2) x3 := ⟨_, rfl⟩
  rw [← hB2] at f2 g2 W3
  have k3 : iK B2 l 2 := g2.k k2
  have q2 : grC B2 82 4 = some l := by rw [hB2, gr_si]; exact q1
  obtain ⟨f3, g3, W4⟩ := wst g2.1 k3 W3 (c := 3) (j := 3) x4 rfl (by rw [t5]; decide)
  have hz3 : (grC B2 l 2).getD 0 = z := by rw [hB2, gr_si]; exact hz2
  rw [hz3] at f3 g3 W4
  obtain ⟨B3, hB3⟩ : ∃ B, B = siC B2 z (Int32.toNatClampNeg 6 * (O.1 6).toNatClampNeg + 3) x4 := ⟨_, rfl⟩
  rw [← hB3] at f3 g3 W4
  have k4 : iK B3 l 2 := g3.k k3
  have q3 : grC B3 82 4 = some l := by rw [hB3, gr_si]; exact q2
  obtain ⟨f4, g4, W5⟩ := wst g3.1 k4 W4 (c := 4) (j := 4) x5 rfl (by rw [t5]; decide)
  have hz4 : (grC B3 l 2).getD 0 = z := by rw [hB3, gr_si]; exact hz3
  rw [hz4] at f4 g4 W5
  obtain ⟨B4, hB4⟩ : ∃ B, B = siC B3 z (Int32.toNatClampNeg 6 * (O.1 6).toNatClampNeg + 4) x5 := ⟨_, rfl⟩
  rw [← hB4] at f4 g4 W5
  have k5 : iK B4 l 2 := g4.k k4
  have q4 : grC B4 82 4 = some l := by rw [hB4, gr_si]; exact q3
  obtain ⟨f5, g5, W6⟩ := wst g4.1 k5 W5 (c := 5) (j := 5) x6 rfl (by rw [t5]; decide)
  have hz5 : (grC B4 l 2).getD 0 = z := by rw [hB4, gr_si]; exact hz4
  rw [hz5] at f5 g5 W6
  obtain ⟨B5, hB5⟩ : ∃ B, B = siC B4 z (Int32.toNatClampNeg 6 * (O.1 6).toNatClampNeg + 5) x6 := ⟨_, rfl⟩
  rw [← hB5] at f5 g5 W6
  have k6 : iK B5 l 2 := g5.k k5
  have q5 : grC B5 82 4 = some l := by rw [hB5, gr_si]; exact q4
  have G : LSt noE T [] l S col B5 ca := ((((((g.tr g0).tr g1).tr g2).tr g3).tr g4).tr g5)
  have hzL : (grC B5 l 2).getD 0 = z := by rw [hB5, gr_si]; exact hz5
  have n5 : Int32.toNatClampNeg 6 = 6 := by decide
  have cc : ∀ i, giC B5 z i = if i = 6 * (O.1 6).toNatClampNeg + 5 then x6 else if i = 6 * (O.1 6).toNatClampNeg + 4 then x5 else if i = 6 * (O.1 6).toNatClampNeg + 3 then x4 else if i = 6 * (O.1 6).toNatClampNeg + 2 then x3 else if i = 6 * (O.1 6).toNatClampNeg + 1 then x2 else if i = 6 * (O.1 6).toNatClampNeg + 0 then x1 else giC Sa z i := fun i => by
    rw [hB5]
    simp only [gi_si, true_and, n5]
    rw [hB4]
    simp only [gi_si, true_and, n5]
    rw [hB3]
    simp only [gi_si, true_and, n5]
    rw [hB2]
    simp only [gi_si, true_and, n5]
    rw [hB1]
    simp only [gi_si, true_and, n5]
    rw [hB0]
    simp only [gi_si, true_and, n5]
  have nkL : nk S B5 := fun q c n k => nka q c n (by
    rw [hB5] at k
    have k := ik_si.mp k
    rw [hB4] at k
    have k := ik_si.mp k
    rw [hB3] at k
    have k := ik_si.mp k
    rw [hB2] at k
    have k := ik_si.mp k
    rw [hB1] at k
    have k := ik_si.mp k
    rw [hB0] at k
    have k := ik_si.mp k
    exact k)
  have e1 := iAdd (x := O.1 6) (y := 1) (by rw [i1]; omega) (by rw [i1]; omega)
  rw [i1] at e1
  have eh : (tlO O x1 x2 x3 x4 x5 x6).1 6 = O.1 6 + 1 := rfl
  have m6 : (6 * O.1 6).toInt = 6 * (O.1 6).toInt := iMul (by rw [t5]) (by omega) (by omega)
  have ia : (6 * O.1 6).toNatClampNeg = 6 * (O.1 6).toNatClampNeg := by
    have := iNat (x := 6 * O.1 6) (by omega)
    omega
  have ij : ∀ (j : Int32) (k : Nat), j.toInt = k → k < 6 → (6 * O.1 6 + j).toNatClampNeg = 6 * (O.1 6).toNatClampNeg + k := fun j k hj hk => by
    have s := iAdd (x := 6 * O.1 6) (y := j) (by omega) (by omega)
    have := iNat (x := 6 * O.1 6 + j) (by omega)
    omega
  have e35 : giC B5 l 3 = O.1 6 + 1 := by
    refine iEq.mpr ?_
    rw [W6.1, e1]
    omega
  refine ⟨B5, ca, ?_, G, nkL, W6.2.1, e35, ?_, fun p k y => ?_, fun i j hi hj => ?_⟩
  · unfold f_Y10_tell
    rw [h.g4, Option.getD_some, isF, w.1.2.1, t1, if_pos (iLt.mpr (by rw [show (600 : Int32).toInt = 600 by decide]; exact h6.2)), if_pos rfl, f]
    unfold b_Y10_tell_20a b_Y10_tell_29a b_Y10_tell_38a b_Y10_tell_47a b_Y10_tell_57a b_Y10_tell_67a b_Y10_tell_77a
    simp only [q, Option.getD_some, f0]
    rw [q0]
    simp only [Option.getD_some, f1]
    rw [q1]
    simp only [Option.getD_some, f2]
    rw [q2]
    simp only [Option.getD_some, f3]
    rw [q3]
    simp only [Option.getD_some, f4]
    rw [q4]
    simp only [Option.getD_some, f5]
    rw [q5, Option.getD_some, e35]
  · have y := W6.2.2
    rw [t5] at y
    rw [eh, e1]
    omega
  · have kq := nkL p 6 (by decide) k
    rcases G.2.2.2.2.1 with v | v
    · exact to p kq (v.symm.trans y)
    · have := ((h.ci.wf.w6 kq).1.1).1
      omega
  · rw [eh, e1] at hi
    rw [hzL, cc, tlO_r, ij 5 5 (by decide) (by omega), ij 4 4 (by decide) (by omega), ij 3 3 (by decide) (by omega), ij 2 2 (by decide) (by omega), ij 1 1 (by decide) (by omega), ia]
    refine ite_congr rfl (fun _ => rfl) fun n5 => ite_congr rfl (fun _ => rfl) fun n4 => ite_congr rfl (fun _ => rfl) fun n3 => ite_congr rfl (fun _ => rfl) fun n2 => ite_congr rfl (fun _ => rfl) fun n1 => ite_congr rfl (fun _ => rfl) fun n0 => ?_
    rw [hz]
    exact (ec _ (by omega)).trans (t3 i j (by omega) hj)
theorem ac_tell (q : RQ S M) (mi : MI M) (x1 x2 x3 x4 x5 x6 : Int32) (e : f_Y10_tell S 82 x1 x2 x3 x4 x5 x6 = (v, S2)) : v = (f_X12_tell M x1 x2 x3 x4 x5 x6).1 ∧ RQ S2 (f_X12_tell M x1 x2 x3 x4 x5 x6).2 := by
  obtain ⟨a, b, r2, r3, l, T, col, h, c⟩ := id q
  obtain ⟨t0, t1, t2, to, t3⟩ := c.2.2.2
  have h6 := mi.2.2.1
  have t6 : (600 : Int32).toInt = 600 := by decide
  rw [tell_r]
  by_cases z : M.1.1 6 = 600
  · unfold f_Y10_tell at e
    rw [h.g4, Option.getD_some, isF, (h.ci.wf.w2 h.kl).1.2.1, t1, if_neg (show ¬ ((if M.1.1 6 < 600 then (0 : Int32) else 1) = 0) by rw [z]; decide)] at e
    obtain ⟨rfl, rfl⟩ := Prod.mk.inj e
    rw [if_pos z]
    exact ⟨rfl, q⟩
  · have z' := mt iEq.mpr z
    rw [t6] at z'
    rw [if_neg z]
    obtain ⟨v', S2', e', -, ki, -⟩ := k_tell ⟨a, b, r2, r3, l, T, col, h⟩ x1 x2 x3 x4 x5 x6
    obtain ⟨B, c2, f, g, hk, te⟩ := tell_v h c.2.2.2 ⟨h6.1, by omega⟩ x1 x2 x3 x4 x5 x6
    obtain ⟨-, rfl⟩ := Prod.mk.inj (e.symm.trans e')
    obtain ⟨rfl, rfl⟩ := Prod.mk.inj (e.symm.trans f)
    obtain ⟨p1, p2, p3⟩ := CT.row h c g hk to
    obtain ⟨g0, g1, g2, g3, g4⟩ := KJ.refl h g
    exact ⟨rfl, RQ.mk ki g0 g1 g2 g3 g4 g.1 ⟨p1, p2, ⟨⟨p3.1.1, p3.1.2⟩, ⟨p3.2.1, p3.2.2⟩⟩, te⟩⟩
end
