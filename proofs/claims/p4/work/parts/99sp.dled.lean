/-! ===== ledgers: a row more, in full ===== -/
section
variable {wF : Prop × (Nat → Int32) × Int32 × (Nat → Int32)} {E : Nat → Prop} {x : Nat} {S S1 S2 S3 : Cst} {T T1 T2 T3 : Nat → List Nat} {F F1 : List Nat} {col c1 c2 c3 : Nat → Nat} {H H2 H3 : HS} {N N2 M M2 : Int} {D : Nat → Prop}
/-- nothing but rows of numbers is made -/
def nk (S S2 : Cst) : Prop := ∀ q c, c ≠ 20 → iK S2 q c → iK S q c
theorem room_k (h : CI E S T F col) {l : Nat} (k : iK S l 2) {r : Int32} (hr : rg r 0 600) (f0 : f_Y3_makeRoom S l r = (0, S2)) : nk S S2 := by
  have w := h.wf.w2 k
  obtain ⟨e1, e2, e3, e4, hg⟩ := led_e (L := lnC S ((grC S l 2).getD 0)) w.1.1 w.1.2.1 hr w.2.2.2
  have kz := w.2.1.2
  unfold f_Y3_makeRoom at f0
  by_cases c : r * giC S l 0 ≤ Int32.ofNat (lnC S ((grC S l 2).getD 0))
  · rw [if_pos c] at f0
    unfold b_Y3_makeRoom_50 at f0
    obtain ⟨-, rfl⟩ := Prod.mk.inj f0
    exact fun _ _ _ h => h
  · rw [if_neg c] at f0
    generalize hN : (if ((giC S l 1) * (giC S l 0)) < (if (r * (giC S l 0)) < (2 * (Int32.ofNat (lnC S ((grC S l 2).getD 0)))) then (2 * (Int32.ofNat (lnC S ((grC S l 2).getD 0)))) else (r * (giC S l 0))) then ((giC S l 1) * (giC S l 0)) else (if (r * (giC S l 0)) < (2 * (Int32.ofNat (lnC S ((grC S l 2).getD 0)))) then (2 * (Int32.ofNat (lnC S ((grC S l 2).getD 0)))) else (r * (giC S l 0)))) = K at f0
    obtain ⟨n1, n2, n3, n4, n5⟩ := led_N w.1.1 w.1.2.1 hr w.2.2.2 c hN
    obtain ⟨f, q1, q2, q3⟩ := y_copyOf h.wf.1 kz n1 n5
    rw [q1] at f0
    unfold b_Y3_makeRoom_47a b_Y3_makeRoom_50 at f0
    obtain ⟨-, rfl⟩ := Prod.mk.inj f0
    intro q c nc kq
    have kq := ik_sf.mp (ik_sr.mp kq)
    have ek : kdC (puC S [(20, K.toNatClampNeg, fun _ => 0, fun _ => none)] K.toNatClampNeg) S.1 = 20 := (nw_kd (cs := [(20, K.toNatClampNeg, fun _ => 0, fun _ => none)]) 0).trans rfl
    have b : q < S.1 + 1 := kq.1
    by_cases y : q < S.1
    · exact ⟨y, by rw [← ((eN.pu S [(20, K.toNatClampNeg, fun _ => 0, fun _ => none)] K.toNatClampNeg).2 q y).1]; exact kq.2⟩
    · have e : q = S.1 := by omega
      rw [e] at kq
      exact absurd (kq.2.symm.trans ek) nc
/-- one row more, behind which rows are written -/
theorem open_v (h : CI E S T F col) {l : Nat} (k : iK S l 2) (hn : (giC S l 3).toInt < 600) : ∃ S2 c2, f_Y3_open S l = (0, S2) ∧ LSt E T F l S col S2 c2 ∧ giC S2 l 3 = giC S l 3 + 1 ∧ (giC S2 l 3).toInt = (giC S l 3).toInt + 1 ∧ ((giC S l 3).toInt + 1) * (giC S l 0).toInt ≤ lcl S2 l ∧ (∀ i, i < lcl S l → giC S2 ((grC S2 l 2).getD 0) i = giC S ((grC S l 2).getD 0) i) ∧ nk S S2 := by
  have w := h.wf.w2 k
  have e6 : (600 : Int32).toInt = 600 := by decide
  have hr := w.1.2.2
  unfold rg at hr
  have c : giC S l 3 < 600 := iLt.mpr (by rw [e6]; exact hn)
  have e1 := iAdd (x := giC S l 3) (y := 1) (by rw [i1]; omega) (by rw [i1]; omega)
  rw [i1] at e1
  have g := LSt.n h k (v := giC S l 3 + 1) ⟨by omega, by omega⟩
  have k2 := g.k k
  have nl : (grC S l 2).getD 0 ≠ l := ik_ne w.2.1.2 k (by decide)
  obtain ⟨S2, c2, f1, f2, f3, f4, f5⟩ := y_room g.1 k2 (r := giC S l 3 + 1) ⟨by omega, by omega⟩
  have rk := room_k g.1 k2 (r := giC S l 3 + 1) ⟨by omega, by omega⟩ f1
  have e33 : giC S2 l 3 = giC S l 3 + 1 := by rw [f3.2.2.2.2.1 3, gi_si, if_pos ⟨rfl, rfl⟩]
  refine ⟨S2, c2, ?_, g.tr (LSt.of k2 f3 f5), e33, by rw [e33, e1], ?_, fun i hi => ?_, fun q c n kq => ik_si.mp (rk q c n kq)⟩
  · unfold f_Y3_open
    rw [isF, w.1.2.1, if_pos c, if_pos rfl]
    unfold b_Y3_open_22a b_Y3_open_25
    rw [show giC (siC S l 3 (giC S l 3 + 1)) l 3 = giC S l 3 + 1 by rw [gi_si, if_pos ⟨rfl, rfl⟩], f1]
  · rw [e1, gi_si, if_neg (fun y => absurd y.2 (by decide))] at f4
    exact f4
  · have e := f3.2.2.2.2.2.2 i (by unfold lcl at hi ⊢; rw [gr_si, ln_si]; exact hi)
    rw [gr_si, gi_si, if_neg (fun y => nl y.1)] at e
    exact e
/-- one number written in the last row -/
theorem write_v (wf : wfS S) {l : Nat} (k : iK S l 2) {n j : Nat} {c : Int32} (v : Int32) (hn : (giC S l 3).toInt = n + 1) (hl : ((n : Int) + 1) * (giC S l 0).toInt ≤ lcl S l) (hj : c.toInt = j) (hc : (j : Int) < (giC S l 0).toInt) : f_Y3_write S l c v = (0, siC S ((grC S l 2).getD 0) ((giC S l 0).toNatClampNeg * n + j) v) := by
  have w := wf.w2 k
  have hr := w.1.2.2
  unfold rg at hr
  have hL := w.2.2.2
  have g0 : (giC S l 0).toInt = 5 ∨ (giC S l 0).toInt = 6 ∨ (giC S l 0).toInt = 7 := by
    rcases w.1.1 with y | y | y <;> rw [y]
    · exact Or.inl (by decide)
    · exact Or.inr (Or.inl (by decide))
    · exact Or.inr (Or.inr (by decide))
  have kg := iNat (x := giC S l 0) (by omega)
  have eL : (Int32.ofNat (lnC S ((grC S l 2).getD 0))).toInt = lnC S ((grC S l 2).getD 0) := (led_e (r := giC S l 3) w.1.1 w.1.2.1 w.1.2.2 hL).2.2.1
  have s1 := iSub (x := giC S l 3) (y := 1) (by rw [i1]; omega) (by rw [i1]; omega)
  rw [i1, hn] at s1
  have hm : ((giC S l 3 - 1) * giC S l 0).toInt = (n : Int) * (giC S l 0).toInt := by
    refine iMul (n := (n : Int) * (giC S l 0).toInt) (by rw [s1]; congr 1; omega) ?_ ?_
    · rcases g0 with y | y | y <;> rw [y] <;> omega
    · rcases g0 with y | y | y <;> rw [y] <;> omega
  have ha : (((giC S l 3 - 1) * giC S l 0) + c).toInt = (n : Int) * (giC S l 0).toInt + j := by
    rw [iAdd (by rw [hm, hj]; rcases g0 with y | y | y <;> rw [y] at hc ⊢ <;> omega) (by rw [hm, hj]; rcases g0 with y | y | y <;> rw [y] at hc ⊢ <;> omega), hm, hj]
  have hl' : (n : Int) * (giC S l 0).toInt + j < lnC S ((grC S l 2).getD 0) := by
    have e : ((n : Int) + 1) * (giC S l 0).toInt = (n : Int) * (giC S l 0).toInt + (giC S l 0).toInt := by rw [Int.add_mul, Int.one_mul]
    rw [e] at hl
    unfold lcl at hl
    omega
  have pos : 0 ≤ (n : Int) * (giC S l 0).toInt := by rcases g0 with y | y | y <;> rw [y] <;> omega
  have kn := iNat (x := ((giC S l 3 - 1) * giC S l 0) + c) (by omega)
  have ix : (((giC S l 3 - 1) * giC S l 0) + c).toNatClampNeg = (giC S l 0).toNatClampNeg * n + j := by
    have e : (((giC S l 0).toNatClampNeg * n : Nat) : Int) = (n : Int) * (giC S l 0).toInt := by
      rw [Int.natCast_mul, kg, Int.mul_comm]
    omega
  unfold f_Y3_write b_Y3_write_46
  rw [if_neg (fun y => by have := iLt.mp y; rw [i0] at this; omega), if_neg (fun y => by have := iLe.mp y; omega), if_neg (fun y => by have := iLt.mp y; rw [i0] at this; omega), if_neg (fun y => by have := iLe.mp y; omega), ix]
end
