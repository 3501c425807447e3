/-! ===== cells made anew: old ones stand ===== -/
theorem pu_gi {S : Cst} {cs : List Cel} {sl q : Nat} (h : q < S.1) (k : Nat) : giC (puC S cs sl) q k = giC S q k := by
  unfold giC
  rw [puC_old h]
theorem pu_gr {S : Cst} {cs : List Cel} {sl q : Nat} (h : q < S.1) (k : Nat) : grC (puC S cs sl) q k = grC S q k := by
  unfold grC
  rw [puC_old h]
theorem nw_gi {S : Cst} {cs : List Cel} {sl : Nat} (i k : Nat) : giC (puC S cs sl) (S.1 + i) k = (cs.getD i dCe).2.2.1 k := by
  unfold giC
  rw [puC_new]
theorem nw_gr {S : Cst} {cs : List Cel} {sl : Nat} (i k : Nat) : grC (puC S cs sl) (S.1 + i) k = (cs.getD i dCe).2.2.2 k := by
  unfold grC
  rw [puC_new]
theorem nw_kd {S : Cst} {cs : List Cel} {sl : Nat} (i : Nat) : kdC (puC S cs sl) (S.1 + i) = (cs.getD i dCe).1 := by
  unfold kdC
  rw [puC_new]
theorem nw_ln {S : Cst} {cs : List Cel} {sl : Nat} (i : Nat) : lnC (puC S cs sl) (S.1 + i) = (cs.getD i dCe).2.1 := by
  unfold lnC
  rw [puC_new]
theorem nw_ik {S : Cst} {cs : List Cel} {sl : Nat} {i c : Nat} (h : i < cs.length) (e : (cs.getD i dCe).1 = c) : iK (puC S cs sl) (S.1 + i) c := ⟨Nat.add_lt_add_left h _, (nw_kd i).trans e⟩
theorem rK.n {S S' : Cst} {r : Option Nat} {c : Nat} (h : rK S r c) (g : eN S S') : rK S' r c := by
  rcases h with h | ⟨z, e, k⟩
  · exact Or.inl h
  · exact Or.inr ⟨z, e, k.n g⟩
def WA (S : Cst) (q : Nat) : Prop := (iK S q 0 → W0 S q) ∧ (iK S q 1 → W1 S q) ∧ (iK S q 2 → W2 S q) ∧ (iK S q 3 → W3 S q) ∧ (iK S q 4 → W4 S q) ∧ (iK S q 5 → W5 S q) ∧ (iK S q 6 → W6 S q) ∧ (iK S q 7 → W7 S q) ∧ (iK S q 22 → W22 S q) ∧ (iK S q 23 → W23 S q) ∧ (iK S q 24 → W24 S q)
theorem WA.old {S S' : Cst} {q : Nat} (h : WA S q) (g : eN S S') (hq : q < S.1) (e : S'.2.2 q = S.2.2 q) : WA S' q := by
  have eg : ∀ k, giC S' q k = giC S q k := fun k => by unfold giC; rw [e]
  have er : ∀ k, grC S' q k = grC S q k := fun k => by unfold grC; rw [e]
  have ek : ∀ c, iK S' q c → iK S q c := fun c k => ⟨hq, by rw [← (g.2 q hq).1]; exact k.2⟩
  have el : ∀ {z c : Nat}, iK S z c → lnC S' z = lnC S z := fun k => (g.2 _ k.1).2
  obtain ⟨h0, h1, h2, h3, h4, h5, h6, h7, h22, h23, h24⟩ := h
  refine ⟨fun k => ?_, fun k => ?_, fun k => ?_, fun k => ?_, fun k => ?_, fun k => ?_, fun k => ?_, fun k => ?_, fun k => ?_, fun k => ?_, fun k => ?_⟩
  · have w := h0 (ek _ k)
    unfold W0 at w ⊢
    simp only [er]
    exact ⟨⟨w.1.1.n g, w.1.2.1.n g, w.1.2.2.1.n g, w.1.2.2.2.1.n g, w.1.2.2.2.2.1.n g, w.1.2.2.2.2.2.1.n g, w.1.2.2.2.2.2.2.n g⟩, w.2.1, w.2.2.n g⟩
  · have w := h1 (ek _ k)
    unfold W1 at w ⊢
    simp only [er, eg, el w.1.1, el w.1.2.2.1]
    exact ⟨⟨w.1.1.n g, w.1.2.1, w.1.2.2.1.n g, w.1.2.2.2⟩, w.2⟩
  · have w := h2 (ek _ k)
    unfold W2 at w ⊢
    simp only [er, eg, el w.2.1.2]
    exact ⟨w.1, w.2.1.n g, w.2.2⟩
  · have w := h3 (ek _ k)
    unfold W3 at w ⊢
    simp only [er, eg, el w.1.2.1]
    exact ⟨⟨w.1.1.n g, w.1.2.1.n g, w.1.2.2⟩, w.2.1, w.2.2.1, w.2.2.2.n g⟩
  · have w := h4 (ek _ k)
    unfold W4 at w ⊢
    simp only [er, eg, el w.1.1]
    exact ⟨⟨w.1.1.n g, w.1.2⟩, w.2⟩
  · have w := h5 (ek _ k)
    unfold W5 at w ⊢
    simp only [er]
    exact ⟨w.1.n g, w.2⟩
  · have w := h6 (ek _ k)
    unfold W6 at w ⊢
    simp only [er, eg, el w.1.1]
    exact ⟨⟨w.1.1.n g, w.1.2⟩, w.2⟩
  · have w := h7 (ek _ k)
    unfold W7 at w ⊢
    simp only [er]
    exact ⟨w.1.n g, w.2.1.n g, w.2.2.1.n g, w.2.2.2.1.n g, w.2.2.2.2.n g⟩
  · have w := h22 (ek _ k)
    unfold W22 at w ⊢
    simp only [eg]
    exact w
  · have w := h23 (ek _ k)
    intro i
    rw [er]
    exact (w i).n g
  · have w := h24 (ek _ k)
    unfold W24 at w ⊢
    simp only [er, el (ek _ k)]
    exact ⟨w.1, fun i hi => ⟨(w.2 i hi).1, (w.2 i hi).2.n g⟩⟩
theorem wf_pu {S : Cst} {cs : List Cel} {sl : Nat} (h : wfS S) (hc : ∀ i, i < cs.length → ∀ k z, (cs.getD i dCe).2.2.2 k = some z → z < S.1 + cs.length) (hn : ∀ i, i < cs.length → WA (puC S cs sl) (S.1 + i)) : wfS (puC S cs sl) := by
  refine ⟨fun q hq k z e => ?_, fun q => ?_⟩
  · have hq : q < S.1 + cs.length := hq
    show z < S.1 + cs.length
    by_cases c : q < S.1
    · rw [pu_gr c] at e
      have := h.1 q c k z e
      omega
    · obtain ⟨i, rfl⟩ : ∃ i, q = S.1 + i := ⟨q - S.1, by omega⟩
      rw [nw_gr] at e
      exact hc i (by omega) k z e
  · by_cases c : q < S.1
    · exact WA.old (h.2 q) (eN.pu S cs sl) c (puC_old c)
    · by_cases d : q < S.1 + cs.length
      · obtain ⟨i, rfl⟩ : ∃ i, q = S.1 + i := ⟨q - S.1, by omega⟩
        exact hn i (by omega)
      · have no : ∀ c, ¬ iK (puC S cs sl) q c := fun c k => d k.1
        exact ⟨fun k => absurd k (no _), fun k => absurd k (no _), fun k => absurd k (no _), fun k => absurd k (no _), fun k => absurd k (no _), fun k => absurd k (no _), fun k => absurd k (no _), fun k => absurd k (no _), fun k => absurd k (no _), fun k => absurd k (no _), fun k => absurd k (no _)⟩
theorem WA.one {S : Cst} {q c : Nat} (k : kdC S q = c) (h0 : c = 0 → W0 S q) (h1 : c = 1 → W1 S q) (h2 : c = 2 → W2 S q) (h3 : c = 3 → W3 S q) (h4 : c = 4 → W4 S q) (h5 : c = 5 → W5 S q) (h6 : c = 6 → W6 S q) (h7 : c = 7 → W7 S q) (h22 : c = 22 → W22 S q) (h23 : c = 23 → W23 S q) (h24 : c = 24 → W24 S q) : WA S q :=
  ⟨fun z => h0 (k.symm.trans z.2), fun z => h1 (k.symm.trans z.2), fun z => h2 (k.symm.trans z.2), fun z => h3 (k.symm.trans z.2), fun z => h4 (k.symm.trans z.2), fun z => h5 (k.symm.trans z.2), fun z => h6 (k.symm.trans z.2), fun z => h7 (k.symm.trans z.2), fun z => h22 (k.symm.trans z.2), fun z => h23 (k.symm.trans z.2), fun z => h24 (k.symm.trans z.2)⟩
theorem wf_mk4 {S : Cst} (h : wfS S) : wfS (mkX4 S) ∧ iK (mkX4 S) S.1 3 := by
  have k0 : iK (mkX4 S) (S.1 + 0) 3 := nw_ik (show 0 < 4 by omega) rfl
  have k1 : iK (mkX4 S) (S.1 + 1) 6 := nw_ik (show 1 < 4 by omega) rfl
  have k2 : iK (mkX4 S) (S.1 + 2) 20 := nw_ik (show 2 < 4 by omega) rfl
  have k3 : iK (mkX4 S) (S.1 + 3) 22 := nw_ik (show 3 < 4 by omega) rfl
  have l2 : lnC (mkX4 S) (S.1 + 2) = 400 := (nw_ln 2).trans rfl
  have l3 : lnC (mkX4 S) (S.1 + 3) = 200 := (nw_ln 3).trans rfl
  refine ⟨wf_pu h (fun i hi k z e => ?_) (fun i hi => ?_), k0⟩
  · have hi : i < 4 := hi
    show z < S.1 + 4
    have : i = 0 ∨ i = 1 ∨ i = 2 ∨ i = 3 := by omega
    rcases this with rfl | rfl | rfl | rfl
    · have e : (if k = 12 then some (S.1 + 1) else if k = 13 then some (S.1 + 3) else none) = some z := e
      split at e
      · cases e
        omega
      · split at e
        · cases e
          omega
        · cases e
    · have e : (if k = 0 then some (S.1 + 2) else none) = some z := e
      split at e
      · cases e
        omega
      · cases e
    · cases e
    · cases e
  · have hi : i < 4 := hi
    have : i = 0 ∨ i = 1 ∨ i = 2 ∨ i = 3 := by omega
    rcases this with rfl | rfl | rfl | rfl
    · refine WA.one k0.2 (fun z => by omega) (fun z => by omega) (fun z => by omega) (fun _ => ?_) (fun z => by omega) (fun z => by omega) (fun z => by omega) (fun z => by omega) (fun z => by omega) (fun z => by omega) (fun z => by omega)
      exact ⟨⟨k1, k3, l3⟩, ⟨(nw_gr 0 12).trans rfl, (nw_gr 0 13).trans rfl⟩, ⟨Or.inl ((nw_gi 0 7).trans rfl), Or.inl ((nw_gi 0 10).trans rfl), Or.inl ((nw_gi 0 11).trans rfl)⟩, Or.inl ((nw_gr 0 15).trans rfl)⟩
    · refine WA.one k1.2 (fun z => by omega) (fun z => by omega) (fun z => by omega) (fun z => by omega) (fun z => by omega) (fun z => by omega) (fun _ => ?_) (fun z => by omega) (fun z => by omega) (fun z => by omega) (fun z => by omega)
      refine ⟨⟨k2, l2⟩, (nw_gr 1 0).trans rfl, ?_⟩
      have e : giC (mkX4 S) (S.1 + 1) 1 = 0 := (nw_gi 1 1).trans rfl
      show rg (giC (mkX4 S) (S.1 + 1) 1) 0 400
      rw [e]
      exact ⟨by rw [i0]; omega, by rw [i0]; omega⟩
    · exact WA.one k2.2 (fun z => by omega) (fun z => by omega) (fun z => by omega) (fun z => by omega) (fun z => by omega) (fun z => by omega) (fun z => by omega) (fun z => by omega) (fun z => by omega) (fun z => by omega) (fun z => by omega)
    · refine WA.one k3.2 (fun z => by omega) (fun z => by omega) (fun z => by omega) (fun z => by omega) (fun z => by omega) (fun z => by omega) (fun z => by omega) (fun z => by omega) (fun _ i => ?_) (fun z => by omega) (fun z => by omega)
      have e : giC (mkX4 S) (S.1 + 3) i = 0 := (nw_gi 3 i).trans rfl
      show fits .byte (.int (giC (mkX4 S) (S.1 + 3) i)) = true
      rw [e]
      rfl
def cN (S : Cst) (x : Nat) (col : Nat → Nat) : Nat → Nat := fun j => if j < S.1 then col j else x
theorem cN_old {S : Cst} {x : Nat} {col : Nat → Nat} {q : Nat} (h : q < S.1) : cN S x col q = col q := if_pos h
theorem cN_new {S : Cst} {x : Nat} {col : Nat → Nat} {q : Nat} (h : S.1 ≤ q) : cN S x col q = x := if_neg (by omega)
section
variable {E E0 : Nat → Prop} {x : Nat} {S S1 : Cst} {T T1 : Nat → List Nat} {F F1 : List Nat} {col c1 : Nat → Nat}
/-- new cells, none of them a pile, an assembly or a ledger: all stands; motions among them come afloat -/
theorem CI.pu (h : CI E S T F col) {cs : List Cel} {sl : Nat} (wf : wfS (puC S cs sl)) {G : List Nat} (nk : ∀ q, S.1 ≤ q → ¬ iK (puC S cs sl) q 4 ∧ ¬ iK (puC S cs sl) q 0 ∧ ¬ iK (puC S cs sl) q 2) (hG : G.Nodup ∧ ∀ q, q ∈ G → iK (puC S cs sl) q 3 ∧ S.1 ≤ q) : CI E (puC S cs sl) T (G ++ F) (cN S x col) := by
  have g := eN.pu S cs sl
  have old : ∀ q c, q < S.1 → iK (puC S cs sl) q c → iK S q c := fun q c a k => ⟨a, by rw [← (g.2 q a).1]; exact k.2⟩
  have lt : ∀ c q, q ∈ T c → q < S.1 := fun c q m => (h.tk c q m).1.1
  refine ⟨wf, fun c n => Nat.lt_of_lt_of_le (h.tz c n) g.1.1, fun c q m => ⟨(h.tk c q m).1.n g, ?_⟩, h.td, h.tn, ⟨?_, fun q m => ?_⟩, fun P e k => ?_, fun y k => ?_, fun y k j hj => ?_, fun q k j hj => ?_, fun l k => ?_⟩
  · rw [cN_old (lt c q m), cN_old (h.tz c (fun z => by rw [z] at m; cases m))]
    exact (h.tk c q m).2
  · refine List.nodup_append.mpr ⟨hG.1, h.tf.1, fun a m b m' z => ?_⟩
    have := (hG.2 a m).2
    have := (h.tf.2 b m').1.1
    omega
  · rcases List.mem_append.mp m with m | m
    · refine ⟨(hG.2 q m).1, fun c y => ?_⟩
      have := (hG.2 q m).2
      have := lt c q y
      omega
    · exact ⟨(h.tf.2 q m).1.n g, (h.tf.2 q m).2⟩
  · have a : P < S.1 := Nat.lt_of_not_le (fun z => (nk P z).1 k)
    have kS := old P 4 a k
    have w := h.tp P e kS
    rw [pu_gi a]
    refine ⟨w.1, w.2.1, fun i hi => ?_⟩
    rw [pu_gr (h.wf.w4 kS).1.1.1]
    exact w.2.2 i hi
  · have a : y < S.1 := Nat.lt_of_not_le (fun z => (nk y z).2.1 k)
    rw [pu_gr a]
    exact (h.tc y (old y 0 a k)).cg _ _ (fun q m => pu_gr (lt y q m) _)
  · have a : y < S.1 := Nat.lt_of_not_le (fun z => (nk y z).2.1 k)
    have k0 := old y 0 a k
    have b := (h.wf.w1 (h.wf.w0 k0).1.1).1.2.2.1.1
    rw [cN_old (by omega)]
    exact h.c0 y k0 j hj
  · by_cases a : q < S.1
    · have k3 := old q 3 a k
      have b := (h.wf.w3 k3).1.2.1.1
      rw [cN_old (by omega), cN_old a]
      exact h.c3 q k3 j hj
    · rw [cN_new (by omega), cN_new (by omega)]
  · have a : l < S.1 := Nat.lt_of_not_le (fun z => (nk l z).2.2 k)
    have k2 := old l 2 a k
    rw [pu_gr a, cN_old (h.wf.w2 k2).2.1.2.1, cN_old a]
    exact h.c2 l k2
theorem Sst.n (h : Sst E x S T F col S1 T1 F1 c1) : True := trivial
/-- a motion made anew -/
theorem Sst.mk (h : Sst E x S T F col S1 T1 F1 c1) (hb : mT T1 x + F1.length ≤ 89) : Sst E x S T F col (mkX4 S1) T1 (S1.1 :: F1) (cN S1 x c1) := by
  have w := wf_mk4 h.ci.wf
  have g := eN.pu S1 [(3, 0, fun k => 0, fun k => if k = 12 then some (S1.1 + 1) else if k = 13 then some (S1.1 + 3) else none), (6, 0, fun k => 0, fun k => if k = 0 then some (S1.1 + 2) else none), (20, 400, (fun _ => 0), fun _ => none), (22, 200, (fun _ => 0), fun _ => none)] 618
  have nk : ∀ q, S1.1 ≤ q → ¬ iK (mkX4 S1) q 4 ∧ ¬ iK (mkX4 S1) q 0 ∧ ¬ iK (mkX4 S1) q 2 := fun q a => by
    by_cases b : q < S1.1 + 4
    · obtain ⟨i, rfl⟩ : ∃ i, q = S1.1 + i := ⟨q - S1.1, by omega⟩
      have : i = 0 ∨ i = 1 ∨ i = 2 ∨ i = 3 := by omega
      have hk : kdC (mkX4 S1) (S1.1 + i) = 3 ∨ kdC (mkX4 S1) (S1.1 + i) = 6 ∨ kdC (mkX4 S1) (S1.1 + i) = 20 ∨ kdC (mkX4 S1) (S1.1 + i) = 22 := by
        rcases this with rfl | rfl | rfl | rfl
        · exact Or.inl ((nw_kd 0).trans rfl)
        · exact Or.inr (Or.inl ((nw_kd 1).trans rfl))
        · exact Or.inr (Or.inr (Or.inl ((nw_kd 2).trans rfl)))
        · exact Or.inr (Or.inr (Or.inr ((nw_kd 3).trans rfl)))
      refine ⟨fun k => ?_, fun k => ?_, fun k => ?_⟩ <;> (have := k.2; omega)
    · refine ⟨fun k => b k.1, fun k => b k.1, fun k => b k.1⟩
  have w0 := h.ci.wf.w0 h.k1
  have e7 : ∀ l, iK S1 l 2 → lcl (mkX4 S1) l = lcl S1 l ∧ psL (mkX4 S1) l = psL S1 l := fun l k => by
    have a : lcl (mkX4 S1) l = lcl S1 l := by
      unfold lcl
      have e : grC (mkX4 S1) l 2 = grC S1 l 2 := pu_gr k.1 2
      rw [e]
      exact (g.2 _ (h.ci.wf.w2 k).2.1.2.1).2
    refine ⟨a, ?_⟩
    have e : giC (mkX4 S1) l 0 = giC S1 l 0 := pu_gi k.1 0
    unfold psL
    rw [a, e]
  refine h.tr ⟨h.ci.pu w.1 (G := [S1.1]) nk ⟨by simp, fun q m => by rw [List.mem_singleton.mp m]; exact ⟨w.2, Nat.le_refl _⟩⟩, g, fun q a => cN_old a, fun q a _ => puC_old a, fun _ _ _ => rfl, ?_, ?_, h.k1, fun q m => ?_, fun _ => by rw [List.length_cons]; omega⟩
  · unfold pcL
    rw [(e7 _ w0.1.2.2.2.2.1).1, (e7 _ w0.1.2.2.2.2.2.1).1]
    show S1.1 + 4 + _ + _ ≤ _
    rw [List.length_cons]
    omega
  · unfold plL
    rw [(e7 _ w0.1.2.2.2.2.1).2, (e7 _ w0.1.2.2.2.2.2.1).2]
    show S1.2.1 + 618 + _ + _ ≤ _
    rw [List.length_cons]
    omega
  · rcases List.mem_cons.mp m with rfl | m
    · exact cN_new (Nat.le_refl _)
    · rw [cN_old (h.ci.tf.2 q m).1.1]
      exact h.fc q m
end
