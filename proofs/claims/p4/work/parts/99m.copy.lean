/-! ===== an assembly begun anew; motions, ledgers copied ===== -/
section
variable {x : Nat} {S S1 S2 S3 : Cst} {T T1 T2 : Nat → List Nat} {F F1 : List Nat} {col c1 c2 : Nat → Nat}
theorem PI.clr (h : clr S1 T1 x) : PI S1 T1 x := by
  have hn : ¬ nd S1 (T1 (x + 1)) := by rw [h.1]; exact nd_nil
  refine ⟨fun d o => ?_, fun n => absurd n hn, fun n => ?_, fun n => absurd n hn⟩
  · rcases o with rfl | ⟨p, hp, rfl⟩
    · refine ⟨fun _ => h.2.1, fun _ => ?_, ?_, fun _ => ?_⟩
      · rw [show x + 3 + 1 = x + 4 by omega, h.2.1]
        exact Nat.zero_le _
      · rw [h.2.2.1]
        exact s0
      · rw [h.2.2.1]
        decide
    · have w := h.2.2.2 p hp
      have e : T1 (x + 13 + 3 * p + 1) = [] := by rw [show x + 13 + 3 * p + 1 = x + 14 + 3 * p by omega]; exact w.2
      refine ⟨fun _ => e, fun _ => ?_, ?_, fun z => by omega⟩
      · rw [e]
        exact Nat.zero_le _
      · rw [w.1]
        exact s0
  · rw [h.2.2.1] at n
    exact absurd n (by decide)
theorem QU.lN {E : Nat → Prop} (u : QU E x S T F col T1 F1 c1 S1 S2) {j : Nat} (hj : j = 7 ∨ j = 9) (v : Int32) (hv : rg v 0 600) : QU E x S T F col T1 F1 c1 S1 (siC S2 (x + j) 3 v) := by
  have w0 := u.w0
  have e : kdC S2 (x + j) = 2 := by
    rcases hj with rfl | rfl
    · exact w0.1.2.2.2.2.1.2
    · exact w0.1.2.2.2.2.2.1.2
  exact u.si (u.1.cx j (by omega)) (by rw [e]; decide) ⟨fun z => by omega, fun _ => ⟨rfl, hv⟩, fun z => by omega, fun z => by omega, fun z => by omega, fun z => by omega⟩ (fun z => by omega) (fun z => by omega)
theorem y_abegin (h : Sst noE x S T [] col S1 T1 [] c1) {n : Int32} (hn : rg n 0 200) : bm x S T col c1 S1 (p_Y0_begin S1 x n) (f_Y0_begin S1 x n) := by
  obtain ⟨p1, S2, T2, f1, f2, f3, f4⟩ := y_clear noE_n h
  have w2 := f2.ci.wf.w0 f2.k1
  obtain ⟨p2, v, S3, g1, u3⟩ := y_hbegin f2 hn
  have w3 := u3.w0
  have r0 : rg 0 0 600 := ⟨by rw [i0]; omega, by rw [i0]; omega⟩
  have r4 : rg 0 0 400 := ⟨by rw [i0]; omega, by rw [i0]; omega⟩
  have u4 := u3.lN (j := 7) (Or.inl rfl) 0 r0
  have w4 := u4.w0
  have u5 := u4.lN (j := 9) (Or.inr rfl) 0 r0
  have w5 := u5.w0
  have u6 := u5.tI w5.1.2.2.2.2.2.2 (f2.cx 11 (by omega)) 0 r4
  have u7 := ((u6.aI 7 0).aI 8 0).aI 9 0
  unfold bm p_Y0_begin f_Y0_begin q_Y0_begin_4a b_Y0_begin_4a q_Y0_begin_12a b_Y0_begin_12a q_Y0_begin_36a b_Y0_begin_36a
  rw [f1]
  simp only
  rw [w2.2.1.1, Option.getD_some, g1]
  simp only
  rw [w3.2.1.2.2.2.2.1, Option.getD_some, w4.2.1.2.2.2.2.2.1, Option.getD_some, w5.2.1.2.2.2.2.2.2, Option.getD_some]
  refine ⟨⟨p1, ir_so.mpr w2.1.1, p2, ir_so.mpr w3.1.2.2.2.2.1, ir_so.mpr w4.1.2.2.2.2.2.1, ir_so.mpr w5.1.2.2.2.2.2.2, trivial⟩, _, _, T2, rfl, ⟨u7.1, (PI.clr f4).kp f2.ci f2.k1 u7.2.1 (fun _ _ _ => rfl)⟩, f3.1.tr u7.2.2.n⟩
theorem mT_b2 (hl : ∀ c, own x c → c ≠ x → (T1 c).length ≤ 9) : mT T1 x ≤ (T1 x).length + 90 := by
  have hs : ∀ n, n ≤ 8 → sT T1 x n ≤ 9 * n := by
    intro n
    induction n with
    | zero => intro _; exact Nat.le_refl _
    | succ n ih =>
      intro hn
      have i := ih (by omega)
      have w := hl (x + 14 + 3 * n) (Or.inr (Or.inr (Or.inr ⟨n, by omega, rfl⟩))) (by omega)
      rw [sT]
      omega
  have h1 := hl (x + 1) (Or.inr (Or.inl rfl)) (by omega)
  have h4 := hl (x + 4) (Or.inr (Or.inr (Or.inl rfl))) (by omega)
  have h8 := hs 8 (by omega)
  unfold mT
  omega
theorem mT_b3 (h : Sst noE x S T F col S1 T1 F1 c1) {P : Nat} (o : own x P) (n : P ≠ x) (hP : (T1 P).length ≤ 8) : mT T1 x + 1 ≤ (T1 x).length + 90 := by
  have w := mT_b2 (T1 := tU T1 P (0 :: T1 P)) (x := x) (fun c oc nc => by
    by_cases e : c = P
    · rw [e, tU_at, List.length_cons]
      omega
    · rw [tU_ne _ _ e]
      exact (h.ci.tp c (noE_n _) (own.k h oc nc)).2.1)
  have u := mT_U (T := T1) (l := 0 :: T1 P) o
  rw [List.length_cons] at u
  rw [tU_ne _ _ (fun z => n z.symm)] at w
  omega
/-- what a copy leaves: the sorts, all motions where they were, with their kinds -/
def gW (x : Nat) (T : Nat → List Nat) (S : Cst) (T' : Nat → List Nat) (S' : Cst) : Prop := eN S S' ∧ (∀ q, q < S.1 → kdC S q = 5 → giC S' q 0 = giC S q 0) ∧ (∀ c z, c ≠ x → z ∈ T c → z ∈ T' c ∧ giC S' z 2 = giC S z 2)
theorem gW.rf (x : Nat) (T : Nat → List Nat) (S : Cst) : gW x T S T S := ⟨eN.rf S, fun _ _ _ => rfl, fun _ _ _ m => ⟨m, rfl⟩⟩
theorem gW.tr (h : gW x T S T1 S1) (g : gW x T1 S1 T2 S2) : gW x T S T2 S2 := ⟨h.1.tr g.1, fun q a k => (g.2.1 q (Nat.lt_of_lt_of_le a h.1.1.1) (by rw [(h.1.2 q a).1]; exact k)).trans (h.2.1 q a k), fun c z n m => ⟨(g.2.2 c z n (h.2.2 c z n m).1).1, (g.2.2 c z n (h.2.2 c z n m).1).2.trans (h.2.2 c z n m).2⟩⟩
theorem gP.W (h : CI noE S1 T1 F1 c1) (g : gP S1 S2) : gW x T1 S1 T1 S2 := ⟨g.1, g.2.1, fun c z _ m => ⟨m, g.2.2 z (h.tk c z m).1.1 (h.tk c z m).1.2⟩⟩
/-- kinds of a copied pile's motions -/
def kC (S : Cst) (L : List Nat) (S' : Cst) (L' : List Nat) : Prop := ∀ q, q ∈ L' → ∃ z, z ∈ L ∧ giC S' q 2 = giC S z 2
theorem copy_lp {P' P : Nat} (kP' : iK S1 P' 4) (cP' : c1 P' ≠ x) (o : own x P) (nP : P ≠ x) (h0 : CI noE S1 T1 [] c1) : ∀ (n : Nat) (Sk : Cst) (Tk : Nat → List Nat) (ck : Nat → Nat) (i : Int32), Sst noE x S1 T1 [] c1 Sk Tk [] ck → gW x T1 S1 Tk Sk → 0 ≤ i.toInt → (Tk P).length = i.toInt → i.toInt ≤ (T1 P').length → (T1 P').length - i.toInt < n → kC S1 (T1 P') Sk (Tk P) → (∀ c, c ≠ P → c ≠ x → Tk c = T1 c) → ∃ S2 T2 c2, lp_Y0_copy_2 x P' P n Sk i = (0, S2) ∧ (∀ lc ls, S2.1 ≤ lc → S2.2.1 ≤ ls → lq_Y0_copy_2 x P' P lc ls n Sk i) ∧ Sst noE x S1 T1 [] c1 S2 T2 [] c2 ∧ gW x T1 S1 T2 S2 ∧ (T2 P).length = (T1 P').length ∧ kC S1 (T1 P') S2 (T2 P) ∧ (∀ c, c ≠ P → c ≠ x → T2 c = T1 c) ∧ eN Sk S2 := by
  intro n
  induction n with
  | zero => intro Sk Tk ck i hk W h1 h2 h3 h4; omega
  | succ n ih =>
    intro Sk Tk ck i hk W h1 h2 h3 h4 hK hF
    have nPP : P' ≠ P := fun z => by
      have e := hk.oc o
      rw [← z, hk.cl P' kP'.1] at e
      exact cP' e
    have nPx : P' ≠ x := fun z => by
      have e := kP'.2
      rw [z, hk.k.2] at e
      omega
    have kPk := kP'.n hk.en
    have eT : Tk P' = T1 P' := hF P' nPP nPx
    have w := hk.ci.tp P' (noE_n _) kPk
    rw [eT] at w
    rw [lp_Y0_copy_2]
    simp only [lq_Y0_copy_2]
    unfold ps_Y0_copy_2 st_Y0_copy_2
    by_cases c : i.toInt = (T1 P').length
    · have c' : giC Sk P' 1 ≤ i := iLe.mpr (by omega)
      simp only [if_pos c']
      exact ⟨Sk, Tk, ck, rfl, fun _ _ _ _ => ⟨trivial, trivial⟩, hk, W, by omega, hK, hF, eN.rf _⟩
    · have c' : ¬ giC Sk P' 1 ≤ i := fun z => by have := iLe.mp z; omega
      have ea := at_s hk.ci (noE_n _) kPk (i := i) h1 (by rw [eT]; omega)
      have pa := y_at hk.ci.wf kPk i
      have hn := iNat h1
      have mz : (Tk P').getD i.toNatClampNeg 0 ∈ Tk P' := by
        rw [List.getD_eq_getElem?_getD, List.getElem?_eq_getElem (show i.toNatClampNeg < _ by rw [eT]; omega)]
        exact List.getElem_mem _
      rw [ea]
      generalize (Tk P').getD i.toNatClampNeg 0 = z at mz ⊢
      have kz := hk.ci.tk P' z mz
      rw [eT] at mz
      have kz1 := h0.tk P' z mz
      simp only [if_neg c', reduceCtorEq, if_false, Option.getD_some, ir_so]
      have b1 := mT_b3 hk o nP (by omega)
      obtain ⟨S2', T2', q, c2', g1, g2, g3, g4, g5, g6⟩ := y_newMotion hk (fun e => by rw [e] at b1; simp only [List.length_nil] at b1 ⊢; omega) (giC Sk z 2)
      rw [g1]
      have kq := (g3.ci.tf.2 q (List.mem_cons_self ..))
      have kz2 := kz.1.n g4.1
      have eT2 : T2' P = Tk P := g6 P nP
      obtain ⟨p2, S3', r1, r2, r3⟩ := y_mBecome g3 kq.1 (g3.fc q (List.mem_cons_self ..)) kz2
      have kz3 := kz2.n r2.2.1.1
      obtain ⟨p3, S4', t1, t2, t3, _⟩ := y_put r2.1 (P := P) (noE_n _) o nP (by rw [eT2]; omega)
      have nqz : ∀ c z', c ≠ x → z' ∈ Tk c → z' ≠ q := fun c z' nc m e => kq.2 c (by rw [g6 c nc, ← e]; exact m)
      have kk : ∀ c z', c ≠ x → z' ∈ Tk c → giC S4' z' 2 = giC Sk z' 2 := fun c z' nc m => by
        have k1 := (hk.ci.tk c z' m).1
        have k2 := k1.n g4.1
        have k3 := k2.n r2.2.1.1
        rw [t3.2.1 z' k3.1 (by rw [k3.2]; decide), gX_k r2.2.1 k2 (dM_n r2.1.ci.wf r2.2.2.1 (nqz c z' nc m) (Or.inl k3.2)), gX_k g4 k1 (dM_n g3.ci.wf kq.1 (nqz c z' nc m) (Or.inl k2.2))]
      have ks : ∀ d, iK Sk d 5 → giC S4' d 0 = giC Sk d 0 := fun d k1 => by
        have k2 := k1.n g4.1
        have k3 := k2.n r2.2.1.1
        have nq : d ≠ q := fun e => by
          have := kq.1.2
          rw [← e, k2.2] at this
          omega
        rw [t3.2.1 d k3.1 (by rw [k3.2]; decide), gX_s r2.2.1 k2 (dM_n r2.1.ci.wf r2.2.2.1 nq (Or.inr k3.2)), gX_s g4 k1 (dM_n g3.ci.wf kq.1 nq (Or.inr k2.2))]
      have W2 : gW x Tk Sk (tU T2' P (T2' P ++ [q])) S4' := ⟨(g4.1.tr r2.2.1.1).tr t3.1, fun d a k => ks d ⟨a, k⟩, fun c z' nc m => ⟨by
        by_cases e : c = P
        · rw [e, tU_at, eT2]
          rw [e] at m
          exact List.mem_append_left _ m
        · rw [tU_ne _ _ e, g6 c nc]
          exact m, kk c z' nc m⟩⟩
      have e1 := iAdd (x := i) (y := 1) (by rw [i1]; omega) (by rw [i1]; omega)
      rw [i1] at e1
      have hK2 : kC S1 (T1 P') S4' (tU T2' P (T2' P ++ [q]) P) := fun q' m => by
        rw [tU_at, eT2] at m
        rcases List.mem_append.mp m with m | m
        · obtain ⟨z', m', e'⟩ := hK q' m
          exact ⟨z', m', (kk P q' nP m).trans e'⟩
        · rw [List.mem_singleton.mp m]
          refine ⟨z, mz, ?_⟩
          have k3 := r2.2.2.1
          rw [t3.2.1 q k3.1 (by rw [k3.2]; decide), r3, gX_k g4 kz.1 (dM_n g3.ci.wf kq.1 (nqz P' z nPx (by rw [eT]; exact mz)) (Or.inl kz2.2)), (W.2.2 P' z nPx mz).2]
      obtain ⟨S5, T5, c5, l1, l2, l3, l4, l5, l6, l7, l8⟩ := ih S4' (tU T2' P (T2' P ++ [q])) c2' (i + 1) t2 (W.tr W2) (by omega) (by rw [tU_at, eT2, List.length_append, List.length_singleton]; omega) (by omega) (by omega) hK2 (fun c a b => by rw [tU_ne _ _ a, g6 c b]; exact hF c a b)
      unfold b_Y0_copy_31a q_Y0_copy_31a b_Y0_copy_40a q_Y0_copy_40a b_Y0_copy_46 q_Y0_copy_46
      simp only [Option.getD_some]
      rw [r1]
      simp only
      rw [t1]
      refine ⟨S5, T5, c5, l1, fun lc ls A B => ⟨⟨pa, kz.1, ⟨⟨g4.1.1.1, ?_⟩, g4.1.1.2, ?_⟩, g2 _ _ (Nat.le_refl _) (Nat.le_refl _), fun z' e => by cases e; exact kz.1.1, ir_so.mpr kq.1, p2, p3, trivial⟩, l2 lc ls A B⟩, l3, l4, l5, l6, l7, W2.1.tr l8⟩
      · exact Nat.le_trans ((r2.2.1.1.tr t3.1).tr l8).1.1 A
      · exact Nat.le_trans ((r2.2.1.1.tr t3.1).tr l8).1.2 B
theorem y_copy {P' P : Nat} (h0 : CI noE S1 T1 [] c1) (k : iK S1 x 0) (kP' : iK S1 P' 4) (cP' : c1 P' ≠ x) (o : own x P) (nP : P ≠ x) (hT : T1 P = []) : ∃ S2 T2 c2, f_Y0_copy S1 x P' P = (0, S2) ∧ (∀ lc ls, S2.1 ≤ lc → S2.2.1 ≤ ls → p_Y0_copy S1 x P' P lc ls) ∧ Sst noE x S1 T1 [] c1 S2 T2 [] c2 ∧ gW x T1 S1 T2 S2 ∧ (T2 P).length = (T1 P').length ∧ kC S1 (T1 P') S2 (T2 P) ∧ (∀ c, c ≠ P → c ≠ x → T2 c = T1 c) ∧ eN S1 S2 := by
  have w := h0.tp P' (noE_n _) kP'
  exact copy_lp kP' cP' o nP h0 100000 S1 T1 c1 0 (Sst.rf h0 k (fun q m => by cases m)) (gW.rf x T1 S1) (by rw [i0]; omega) (by rw [hT, i0]; rfl) (by rw [i0]; omega) (by rw [i0]; omega) (fun q m => by rw [hT] at m; cases m) (fun _ _ _ => rfl)
end
