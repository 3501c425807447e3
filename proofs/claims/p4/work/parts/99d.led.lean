/-! ===== ledgers: makeRoom, open, write, become ===== -/
theorem led_e {g0 g1 r : Int32} {L : Nat} (h0 : g0 = 5 ∨ g0 = 6 ∨ g0 = 7) (h1 : g1 = 600) (hr : rg r 0 600) (hL2 : (L : Int) ≤ 600 * g0.toInt) : (r * g0).toInt = r.toInt * g0.toInt ∧ (g1 * g0).toInt = 600 * g0.toInt ∧ (Int32.ofNat L).toInt = L ∧ (2 * Int32.ofNat L).toInt = 2 * L ∧ (g0.toInt = 5 ∨ g0.toInt = 6 ∨ g0.toInt = 7) := by
  have e6 : (600 : Int32).toInt = 600 := by decide
  have e2 : (2 : Int32).toInt = 2 := by decide
  unfold rg at hr
  have hg : g0.toInt = 5 ∨ g0.toInt = 6 ∨ g0.toInt = 7 := by
    rcases h0 with h | h | h <;> rw [h]
    · exact Or.inl (by decide)
    · exact Or.inr (Or.inl (by decide))
    · exact Or.inr (Or.inr (by decide))
  have eL : (Int32.ofNat L).toInt = L := Int32.toInt_ofNat_of_lt (by omega)
  refine ⟨?_, ?_, eL, iMul (by rw [e2, eL]) (by omega) (by omega), hg⟩
  · rcases hg with g | g | g <;> exact iMul rfl (by rw [g]; omega) (by rw [g]; omega)
  · rw [h1]
    rcases hg with g | g | g <;> exact iMul (by rw [e6]) (by rw [g]; omega) (by rw [g]; omega)
theorem led_N {g0 g1 r N : Int32} {L : Nat} (h0 : g0 = 5 ∨ g0 = 6 ∨ g0 = 7) (h1 : g1 = 600) (hr : rg r 0 600) (hL2 : (L : Int) ≤ 600 * g0.toInt) (c : ¬ r * g0 ≤ Int32.ofNat L) (e : (if (g1 * g0) < (if (r * g0) < (2 * (Int32.ofNat L)) then (2 * (Int32.ofNat L)) else (r * g0)) then (g1 * g0) else (if (r * g0) < (2 * (Int32.ofNat L)) then (2 * (Int32.ofNat L)) else (r * g0))) = N) : (L : Int) < N.toInt ∧ N.toInt ≤ 600 * g0.toInt ∧ r.toInt * g0.toInt ≤ N.toInt ∧ (N.toInt = 600 * g0.toInt ∨ 2 * (L : Int) ≤ N.toInt) ∧ N.toInt ≤ 4200 := by
  obtain ⟨e1, e2, e3, e4, hg⟩ := led_e h0 h1 hr hL2
  have c := mt iLe.mpr c
  unfold rg at hr
  rw [e1, e3] at c
  have hb : r.toInt * g0.toInt ≤ 600 * g0.toInt := by
    rcases hg with g | g | g <;> rw [g] <;> omega
  have hm : ∃ M : Int32, (if (r * g0) < (2 * (Int32.ofNat L)) then (2 * (Int32.ofNat L)) else (r * g0)) = M ∧ r.toInt * g0.toInt ≤ M.toInt ∧ 2 * (L : Int) ≤ M.toInt := by
    refine ⟨_, rfl, ?_, ?_⟩
    · split
      · next z =>
        have z := iLt.mp z
        rw [e1, e4] at z
        rw [e4]
        omega
      · rw [e1]
        omega
    · split
      · rw [e4]
        omega
      · next z =>
        have z := mt iLt.mpr z
        rw [e1, e4] at z
        rw [e1]
        omega
  obtain ⟨M, m1, m2, m3⟩ := hm
  rw [m1] at e
  split at e
  · next z =>
    have z := iLt.mp z
    rw [← e]
    rw [e2] at z ⊢
    refine ⟨by omega, by omega, by omega, Or.inl rfl, by omega⟩
  · next z =>
    have z := mt iLt.mpr z
    rw [e2] at z
    rw [← e]
    refine ⟨by omega, by omega, by omega, Or.inr (by omega), by omega⟩
theorem y_copyOf {S : Cst} {z : Nat} {N : Int32} (h : clS S) (k : iK S z 20) (h1 : (lnC S z : Int) < N.toInt) (h2 : N.toInt ≤ 4200) : ∃ f, f_K7_copyOf_59c91 S z N = (some S.1, sfC (puC S [(20, N.toNatClampNeg, fun _ => 0, fun _ => none)] N.toNatClampNeg) S.1 f) ∧ (∀ lc ls, S.1 + 1 ≤ lc → S.2.1 + N.toNatClampNeg ≤ ls → p_K7_copyOf_59c91 S z lc ls N) ∧ ∀ i, i < lnC S z → f i = giC S z i := by
  have hn := iNat (x := N) (by omega)
  have eL : (Int32.ofNat (lnC S z)).toInt = lnC S z := Int32.toInt_ofNat_of_lt (by omega)
  have ne : ¬ N = Int32.ofNat (lnC S z) := fun e => by rw [e, eL] at h1; omega
  have z0 : (0 : Int32).toNatClampNeg = 0 := rfl
  have lz : lnC (puC S [(20, N.toNatClampNeg, fun _ => 0, fun _ => none)] N.toNatClampNeg) z = lnC S z := by
    unfold lnC
    rw [puC_old k.1]
  have ln : lnC (puC S [(20, N.toNatClampNeg, fun _ => 0, fun _ => none)] N.toNatClampNeg) S.1 = N.toNatClampNeg := (nw_ln (cs := [(20, N.toNatClampNeg, fun _ => 0, fun _ => none)]) 0).trans rfl
  have kn : iK (puC S [(20, N.toNatClampNeg, fun _ => 0, fun _ => none)] N.toNatClampNeg) S.1 20 := nw_ik (i := 0) (show 0 < 1 by omega) rfl
  have em : (if N < (Int32.ofNat (lnC S z)) then N else (Int32.ofNat (lnC S z))) = Int32.ofNat (lnC S z) := by
    rw [if_neg (fun y => by have := iLt.mp y; rw [eL] at this; omega)]
  have et : (Int32.ofNat (lnC S z)).toNatClampNeg = lnC S z := by
    have := iNat (x := Int32.ofNat (lnC S z)) (by omega)
    omega
  unfold f_K7_copyOf_59c91 p_K7_copyOf_59c91
  simp only [if_neg ne]
  unfold b_K7_copyOf_59c91_17a q_K7_copyOf_59c91_17a
  rw [Option.getD_some, lz, em, et, z0, ln]
  refine ⟨_, rfl, fun lc ls a b => ⟨⟨⟨h, fun y => by have := iLt.mp y; rw [i0] at this; omega, by omega⟩, a, b⟩, ir_so.mpr kn, ⟨⟨by decide, by decide, fun y => by have := iLt.mp y; rw [i0, eL] at this; omega⟩, by omega, by omega⟩, trivial⟩, fun i hi => ?_⟩
  rw [pk_cpy_in (Nat.zero_le i) (by omega), Nat.zero_add, Nat.sub_zero, pu_gi k.1]
section
variable {E E0 : Nat → Prop} {x : Nat} {S S1 : Cst} {T T1 : Nat → List Nat} {F F1 : List Nat} {col c1 : Nat → Nat}
/-- what a ledger's growth leaves: all other cells, its numbers, its rows -/
def LG (E : Nat → Prop) (T : Nat → List Nat) (F : List Nat) (l : Nat) (S : Cst) (col : Nat → Nat) (S2 : Cst) (c2 : Nat → Nat) : Prop := CI E S2 T F c2 ∧ eN S S2 ∧ (∀ q, q < S.1 → c2 q = col q) ∧ (∀ q, q < S.1 → q ≠ l → S2.2.2 q = S.2.2 q) ∧ (∀ k, giC S2 l k = giC S l k) ∧ (S2.1 + lcl S l ≤ S.1 + lcl S2 l ∧ S2.2.1 + psL S l ≤ S.2.1 + psL S2 l) ∧ ∀ i, i < lcl S l → giC S2 ((grC S2 l 2).getD 0) i = giC S ((grC S l 2).getD 0) i
theorem y_room (h : CI E S T F col) {l : Nat} (k : iK S l 2) {r : Int32} (hr : rg r 0 600) : ∃ S2 c2, f_Y3_makeRoom S l r = (0, S2) ∧ (∀ lc ls, S2.1 ≤ lc → S2.2.1 ≤ ls → p_Y3_makeRoom S l lc ls r) ∧ LG E T F l S col S2 c2 ∧ r.toInt * (giC S l 0).toInt ≤ lcl S2 l ∧ ((grC S2 l 2).getD 0 = (grC S l 2).getD 0 ∨ S.1 ≤ (grC S2 l 2).getD 0) := by
  have w := h.wf.w2 k
  obtain ⟨e1, e2, e3, e4, hg⟩ := led_e (L := lnC S ((grC S l 2).getD 0)) w.1.1 w.1.2.1 hr w.2.2.2
  have kz := w.2.1.2
  have hL := w.2.2.2
  unfold f_Y3_makeRoom p_Y3_makeRoom
  by_cases c : r * giC S l 0 ≤ Int32.ofNat (lnC S ((grC S l 2).getD 0))
  · simp only [if_pos c]
    have c := iLe.mp c
    rw [e1, e3] at c
    exact ⟨S, col, rfl, fun _ _ _ _ => ⟨w.2.1, trivial⟩, ⟨h, eN.rf S, fun _ _ => rfl, fun _ _ _ => rfl, fun _ => rfl, ⟨Nat.le_refl _, Nat.le_refl _⟩, fun _ _ => rfl⟩, c, Or.inl rfl⟩
  · simp only [if_neg c]
    generalize hN : (if ((giC S l 1) * (giC S l 0)) < (if (r * (giC S l 0)) < (2 * (Int32.ofNat (lnC S ((grC S l 2).getD 0)))) then (2 * (Int32.ofNat (lnC S ((grC S l 2).getD 0)))) else (r * (giC S l 0))) then ((giC S l 1) * (giC S l 0)) else (if (r * (giC S l 0)) < (2 * (Int32.ofNat (lnC S ((grC S l 2).getD 0)))) then (2 * (Int32.ofNat (lnC S ((grC S l 2).getD 0)))) else (r * (giC S l 0)))) = N
    obtain ⟨n1, n2, n3, n4, n5⟩ := led_N w.1.1 w.1.2.1 hr w.2.2.2 c hN
    have hn := iNat (x := N) (by omega)
    obtain ⟨f, q1, q2, q3⟩ := y_copyOf h.wf.1 kz n1 n5
    rw [q1]
    have ek : kdC (puC S [(20, N.toNatClampNeg, fun _ => 0, fun _ => none)] N.toNatClampNeg) S.1 = 20 := (nw_kd (cs := [(20, N.toNatClampNeg, fun _ => 0, fun _ => none)]) 0).trans rfl
    have el : lnC (puC S [(20, N.toNatClampNeg, fun _ => 0, fun _ => none)] N.toNatClampNeg) S.1 = N.toNatClampNeg := (nw_ln (cs := [(20, N.toNatClampNeg, fun _ => 0, fun _ => none)]) 0).trans rfl
    have g := eN.pu S [(20, N.toNatClampNeg, fun _ => 0, fun _ => none)] N.toNatClampNeg
    have wf : wfS (puC S [(20, N.toNatClampNeg, fun _ => 0, fun _ => none)] N.toNatClampNeg) := by
      refine wf_pu h.wf (fun i hi k z e => ?_) (fun i hi => ?_)
      · have hi : i < 1 := hi
        have : i = 0 := by omega
        subst this
        cases e
      · have hi : i < 1 := hi
        have : i = 0 := by omega
        subst this
        exact WA.one ek (fun z => by omega) (fun z => by omega) (fun z => by omega) (fun z => by omega) (fun z => by omega) (fun z => by omega) (fun z => by omega) (fun z => by omega) (fun z => by omega) (fun z => by omega) (fun z => by omega)
    have nk : ∀ q, S.1 ≤ q → ¬ iK (puC S [(20, N.toNatClampNeg, fun _ => 0, fun _ => none)] N.toNatClampNeg) q 4 ∧ ¬ iK (puC S [(20, N.toNatClampNeg, fun _ => 0, fun _ => none)] N.toNatClampNeg) q 0 ∧ ¬ iK (puC S [(20, N.toNatClampNeg, fun _ => 0, fun _ => none)] N.toNatClampNeg) q 2 := fun q a => by
      have hq : ∀ c, iK (puC S [(20, N.toNatClampNeg, fun _ => 0, fun _ => none)] N.toNatClampNeg) q c → c = 20 := fun c kq => by
        have b : q < S.1 + 1 := kq.1
        have : q = S.1 := by omega
        subst this
        exact kq.2.symm.trans ek
      exact ⟨fun z => by have := hq _ z; omega, fun z => by have := hq _ z; omega, fun z => by have := hq _ z; omega⟩
    have ci := h.pu (x := col l) wf (G := []) nk ⟨List.nodup_nil, fun q m => by cases m⟩
    have ci2 := ci.sf (a := S.1) (f := f) (Or.inl ek)
    have k2 : iK (sfC (puC S [(20, N.toNatClampNeg, fun _ => 0, fun _ => none)] N.toNatClampNeg) S.1 f) l 2 := ik_sf.mpr (k.n g)
    have hgl : ∀ j, giC (sfC (puC S [(20, N.toNatClampNeg, fun _ => 0, fun _ => none)] N.toNatClampNeg) S.1 f) l j = giC S l j := fun j => by
      rw [gi_sf, if_neg (fun y => by have := k.1; omega), pu_gi k.1]
    have ci3 := ci2.led (l := l) (z := S.1) k2 (ik_sf.mpr ⟨Nat.lt_add_one _, ek⟩) (by rw [ln_sf, el]; omega) (by rw [ln_sf, el, hgl]; omega) (by rw [cN_new (Nat.le_refl _), cN_old k.1])
    have hl3 : (grC (srC (sfC (puC S [(20, N.toNatClampNeg, fun _ => 0, fun _ => none)] N.toNatClampNeg) S.1 f) l 2 (some S.1)) l 2).getD 0 = S.1 := by
      rw [gr_sr, if_pos ⟨rfl, rfl⟩]
      rfl
    have lc2 : lcl (srC (sfC (puC S [(20, N.toNatClampNeg, fun _ => 0, fun _ => none)] N.toNatClampNeg) S.1 f) l 2 (some S.1)) l = N.toNatClampNeg := by
      unfold lcl
      rw [hl3, ln_sr, ln_sf, el]
    unfold b_Y3_makeRoom_47a q_Y3_makeRoom_47a b_Y3_makeRoom_50
    refine ⟨_, _, rfl, fun lc ls a b => ?_, ⟨ci3, (g.tr (eK.sf ..).n).tr (eK.sr ..).n, fun q a => cN_old a, fun q a n => ?_, fun j => ?_, ⟨?_, ?_⟩, fun i hi => ?_⟩, ?_, Or.inr (Nat.le_of_eq hl3.symm)⟩
    · have a' : S.1 + 1 ≤ lc := a
      have b' : S.2.1 + N.toNatClampNeg ≤ ls := b
      refine ⟨w.2.1, w.2.1, w.2.1, ⟨⟨?_, a'⟩, ?_, b'⟩, q2 _ _ (Nat.le_refl _) (Nat.le_refl _), trivial⟩
      · show S.1 ≤ S.1 + 1
        omega
      · show S.2.1 ≤ S.2.1 + N.toNatClampNeg
        omega
    · rw [ce_sr _ _ n, ce_sf _ (by omega), puC_old a]
    · rw [gi_sr, hgl]
    · show S.1 + 1 + _ ≤ _
      rw [lc2]
      have : lcl S l = lnC S ((grC S l 2).getD 0) := rfl
      omega
    · show S.2.1 + N.toNatClampNeg + _ ≤ _
      unfold psL
      rw [lc2, gi_sr, hgl]
      have e : lcl S l = lnC S ((grC S l 2).getD 0) := rfl
      rw [e]
      have hc := iNat (x := giC S l 0) (by omega)
      rw [if_neg (by omega)]
      split <;> omega
    · rw [hl3, gi_sr, gi_sf, if_pos rfl]
      exact q3 i hi
    · rw [lc2]
      omega
end
