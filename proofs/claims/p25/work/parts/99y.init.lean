/-! ===== the two sides as they are made ===== -/
def S0e : Cst := (0, 0, fun _ => dCe)
theorem clS_e : clS S0e := fun _ hq => absurd hq (Nat.not_lt_zero _)
theorem nk_e {q c : Nat} : ¬ iK S0e q c := fun k => absurd k.1 (Nat.not_lt_zero _)
theorem ci_e : CI noE S0e (fun _ => []) [] (fun q => q) :=
  ⟨⟨clS_e, fun q => ⟨fun k => absurd k nk_e, fun k => absurd k nk_e, fun k => absurd k nk_e, fun k => absurd k nk_e, fun k => absurd k nk_e, fun k => absurd k nk_e, fun k => absurd k nk_e, fun k => absurd k nk_e, fun k => absurd k nk_e, fun k => absurd k nk_e, fun k => absurd k nk_e⟩⟩, fun c n => absurd rfl n, fun c q m => (by cases m), fun c d q m _ => (by cases m), fun c => List.nodup_nil, ⟨List.nodup_nil, fun q m => (by cases m)⟩, fun P _ k => absurd k nk_e, fun x k => absurd k nk_e, fun x k => absurd k nk_e, fun x k => absurd k nk_e, fun x k => absurd k nk_e⟩
def S1e : Cst := mkX0 S0e
def S2e : Cst := mkX0 S1e
def c1e : Nat → Nat := cN S0e 0 (fun q => q)
def c2e : Nat → Nat := cN S1e 40 c1e
theorem ci_1e : CI noE S1e (fun _ => []) [] c1e := ci_e.mk0
theorem ci_2e : CI noE S2e (fun _ => []) [] c2e := ci_1e.mk0
def cs00 : List Cel := [(2, 0, fun k => if k = 0 then 6 else if k = 1 then 600 else 0, fun k => if k = 2 then some 81 else none), (20, 96, (fun _ => 0), fun _ => none), (7, 0, fun _ => 0, fun k => if k = 0 then some 0 else if k = 1 then some 40 else if k = 4 then some 80 else none)]
def S00 : Cst := puC S2e cs00 105
theorem clS_1 : clS S1e := ci_1e.wf.1
theorem clS_2 : clS S2e := ci_2e.wf.1
theorem en_12 : eN S1e S2e := eN.pu S1e _ _
theorem en_20 : eN S2e S00 := eN.pu S2e _ _
theorem ik_0 : iK S00 0 0 := ((show iK S1e (0 + 0) 0 from m0_0 (S := S0e)).n en_12).n en_20
theorem ik_40 : iK S00 40 0 := (show iK S2e (40 + 0) 0 from m0_0 (S := S1e)).n en_20
theorem ik_80 : iK S00 80 2 := nw_ik (S := S2e) (cs := cs00) (i := 0) (show 0 < 3 by omega) rfl
theorem ik_81 : iK S00 81 20 := nw_ik (S := S2e) (cs := cs00) (i := 1) (show 1 < 3 by omega) rfl
theorem ik_82 : iK S00 82 7 := nw_ik (S := S2e) (cs := cs00) (i := 2) (show 2 < 3 by omega) rfl
theorem gr_80 : grC S00 80 2 = some 81 := (nw_gr (S := S2e) (cs := cs00) (sl := 105) 0 2).trans rfl
theorem gr_82 (k : Nat) : grC S00 82 k = if k = 0 then some 0 else if k = 1 then some 40 else if k = 4 then some 80 else none := (nw_gr (S := S2e) (cs := cs00) (sl := 105) 2 k).trans rfl
set_option maxHeartbeats 1000000 in
theorem wf_00 : wfS S00 := by
  refine wf_pu ci_2e.wf (fun i hi k z e => ?_) (fun i hi => ?_)
  · have hi : i < 3 := hi
    show z < 80 + 3
    rcases (show i = 0 ∨ i = 1 ∨ i = 2 by omega) with rfl | rfl | rfl
    · have e : (if k = 2 then some 81 else none) = some z := e
      repeat' split at e
      all_goals first | (cases e; omega) | cases e
    · cases e
    · have e : (if k = 0 then some 0 else if k = 1 then some 40 else if k = 4 then some 80 else none) = some z := e
      repeat' split at e
      all_goals first | (cases e; omega) | cases e
  · have hi : i < 3 := hi
    rcases (show i = 0 ∨ i = 1 ∨ i = 2 by omega) with rfl | rfl | rfl
    · refine WA.one ik_80.2 (fun z => by omega) (fun z => by omega) (fun _ => ?_) (fun z => by omega) (fun z => by omega) (fun z => by omega) (fun z => by omega) (fun z => by omega) (fun z => by omega) (fun z => by omega) (fun z => by omega)
      show W2 S00 80
      have e0 : giC S00 80 0 = 6 := (nw_gi (S := S2e) (cs := cs00) (sl := 105) 0 0).trans rfl
      have e1 : giC S00 80 1 = 600 := (nw_gi (S := S2e) (cs := cs00) (sl := 105) 0 1).trans rfl
      have e3 : giC S00 80 3 = 0 := (nw_gi (S := S2e) (cs := cs00) (sl := 105) 0 3).trans rfl
      have el : lnC S00 81 = 96 := (nw_ln (S := S2e) (cs := cs00) (sl := 105) 1).trans rfl
      unfold W2
      rw [e0, e1, gr_80, e3, Option.getD_some, el]
      exact ⟨⟨by decide, rfl, by rw [rg, i0]; omega⟩, ir_so.mpr ik_81, by decide, by decide⟩
    · exact WA.one ik_81.2 (fun z => by omega) (fun z => by omega) (fun z => by omega) (fun z => by omega) (fun z => by omega) (fun z => by omega) (fun z => by omega) (fun z => by omega) (fun z => by omega) (fun z => by omega) (fun z => by omega)
    · refine WA.one ik_82.2 (fun z => by omega) (fun z => by omega) (fun z => by omega) (fun z => by omega) (fun z => by omega) (fun z => by omega) (fun z => by omega) (fun _ => ?_) (fun z => by omega) (fun z => by omega) (fun z => by omega)
      show W7 S00 82
      unfold W7
      rw [gr_82, gr_82, gr_82, gr_82, gr_82]
      exact ⟨ir_so.mpr ik_0, ir_so.mpr ik_40, Or.inl rfl, Or.inl rfl, ir_so.mpr ik_80⟩
section
variable {S : Cst} {T : Nat → List Nat} {col : Nat → Nat} {x : Nat}
/-- cells that are no assembly, no pile, no motion -/
theorem CI.pl (h : CI noE S T [] col) {cs : List Cel} {sl : Nat} (wf : wfS (puC S cs sl)) (nk : ∀ q, S.1 ≤ q → ¬ iK (puC S cs sl) q 4 ∧ ¬ iK (puC S cs sl) q 0 ∧ ¬ iK (puC S cs sl) q 3) (nl : ∀ q, S.1 ≤ q → iK (puC S cs sl) q 2 → S.1 ≤ (grC (puC S cs sl) q 2).getD 0) : CI noE (puC S cs sl) T [] (cN S x col) := by
  have g := eN.pu S cs sl
  have old : ∀ q c, q < S.1 → iK (puC S cs sl) q c → iK S q c := fun q c a k => ⟨a, by rw [← (g.2 q a).1]; exact k.2⟩
  have lt : ∀ c q, q ∈ T c → q < S.1 := fun c q m => (h.tk c q m).1.1
  refine ⟨wf, fun c n => Nat.lt_of_lt_of_le (h.tz c n) g.1.1, fun c q m => ⟨(h.tk c q m).1.n g, ?_⟩, h.td, h.tn, ⟨List.nodup_nil, fun q m => by cases m⟩, fun P e k => ?_, fun y k => ?_, fun y k j hj => ?_, fun q k j hj => ?_, fun l k => ?_⟩
  · rw [cN_old (lt c q m), cN_old (h.tz c (fun z => by rw [z] at m; cases m))]
    exact (h.tk c q m).2
  · have a : P < S.1 := Nat.lt_of_not_le (fun z => (nk P z).1 k)
    have kS := old P 4 a k
    have w := h.tp P e kS
    rw [pu_gi a]
    refine ⟨w.1, w.2.1, fun i hi => ?_⟩
    rw [pu_gr (h.wf.w4 kS).1.1.1]
    exact w.2.2 i hi
  · have a : y < S.1 := Nat.lt_of_not_le (fun z => (nk y z).2.1 k)
    rw [pu_gr a]
    exact (h.tc y (old y 0 a k)).cg _ _ (fun q m => pu_gr (lt y q m) _)
  · have a : y < S.1 := Nat.lt_of_not_le (fun z => (nk y z).2.1 k)
    have k0 := old y 0 a k
    have b := (h.wf.w1 (h.wf.w0 k0).1.1).1.2.2.1.1
    rw [cN_old (by omega)]
    exact h.c0 y k0 j hj
  · have a : q < S.1 := Nat.lt_of_not_le (fun z => (nk q z).2.2 k)
    have k3 := old q 3 a k
    have b := (h.wf.w3 k3).1.2.1.1
    rw [cN_old (by omega), cN_old a]
    exact h.c3 q k3 j hj
  · by_cases a : l < S.1
    · have k2 := old l 2 a k
      rw [pu_gr a, cN_old (h.wf.w2 k2).2.1.2.1, cN_old a]
      exact h.c2 l k2
    · rw [cN_new (nl l (Nat.le_of_not_lt a) k), cN_new (Nat.le_of_not_lt a)]
end
def c0e : Nat → Nat := cN S2e 82 c2e
theorem ci_00 : CI noE S00 (fun _ => []) [] c0e := by
  have three : ∀ q, S2e.1 ≤ q → ∀ c, iK S00 q c → (q = 80 ∧ c = 2) ∨ (q = 81 ∧ c = 20) ∨ (q = 82 ∧ c = 7) := fun q a c k => by
    have a : 80 ≤ q := a
    have b : q < 80 + 3 := k.1
    rcases (show q = 80 ∨ q = 81 ∨ q = 82 by omega) with rfl | rfl | rfl
    · exact Or.inl ⟨rfl, k.2.symm.trans ik_80.2⟩
    · exact Or.inr (Or.inl ⟨rfl, k.2.symm.trans ik_81.2⟩)
    · exact Or.inr (Or.inr ⟨rfl, k.2.symm.trans ik_82.2⟩)
  refine ci_2e.pl wf_00 (fun q a => ⟨fun k => ?_, fun k => ?_, fun k => ?_⟩) (fun q a k => ?_)
  · have := three q a 4 k
    omega
  · have := three q a 0 k
    omega
  · have := three q a 3 k
    omega
  · have := three q a 2 k
    have e : q = 80 := by omega
    subst e
    show 80 ≤ (grC S00 80 2).getD 0
    rw [gr_80, Option.getD_some]
    omega
theorem ki_start : KI S00 82 := by
  have z1 := clr_mk0 ci_e
  have z2 := clr_mk0 ci_1e
  have p0 : PI S1e (fun _ => []) 0 := PI.clr z1.1
  have p1 : PI S2e (fun _ => []) 40 := PI.clr z2.1
  have k1 : iK S1e 0 0 := m0_0 (S := S0e)
  have k2 : iK S2e 0 0 := k1.n en_12
  have k3 : iK S2e 40 0 := m0_0 (S := S1e)
  have o0 := (oth_g (S2 := S2e) (T2 := fun _ => []) ci_1e k1 en_12 (fun q a _ => puC_old a) (fun _ _ _ => rfl) p0).1
  have o1 := (oth_g (S2 := S00) (T2 := fun _ => []) ci_2e k2 en_20 (fun q a _ => puC_old a) (fun _ _ _ => rfl) o0).1
  have o2 := (oth_g (S2 := S00) (T2 := fun _ => []) ci_2e k3 en_20 (fun q a _ => puC_old a) (fun _ _ _ => rfl) p1).1
  have m1 : mT (fun _ => []) 0 = 0 := z1.2
  have m2 : mT (fun _ => []) 40 = 0 := z2.2
  have cm : c0e 82 = 82 := cN_new (by show 80 ≤ 82; omega)
  have cl : c0e 80 = 82 := cN_new (by show 80 ≤ 80; omega)
  refine ⟨0, 40, none, none, 80, fun _ => [], c0e, ci_00, ⟨ik_82, ik_80, cm, cl⟩, ⟨gr_82 0, gr_82 1, gr_82 2, gr_82 3, gr_82 4⟩, by decide, fun x mx => ?_, ?_, ?_⟩
  · rw [cm, cl]
    have : x = 0 ∨ x = 40 := by
      rcases List.mem_cons.mp mx with e | mx
      · exact Or.inl e
      · rcases List.mem_cons.mp mx with e | mx
        · exact Or.inr e
        · cases mx
    rcases this with rfl | rfl
    · exact ⟨ik_0, o1, by rw [m1]; omega, by omega, by omega⟩
    · exact ⟨ik_40, o2, by rw [m2]; omega, by omega, by omega⟩
  · have : S00.1 = 83 := rfl
    omega
  · have : S00.2.1 = 2037 := rfl
    omega
/-! ===== the reference as it is made ===== -/
def M00 : MS := (((fun k => 0), (fun k => match k with | 3 => (fun _ => (-1)) | _ => fun _ => 0)), ((fun k => match k with | 0 => 1 | 2 => (-1) | 5 => (-1) | 39 => (-1) | _ => 0), (fun k => match k with | 12 => (upd (fun _ => 1) 6 2) | _ => fun _ => 0)), ((fun k => 0), (fun k => fun _ => 0)))
def SM0 : Nat := 138262 - 2037
theorem ha_0 {S : HS} (n : ∀ g, g < 10 → hN S g = 0) (u : ∀ m, S.2 13 m = 0) (z : hZ S) (e7 : S.1 7 = 0) (e8 : S.1 8 = 0) : HA S := by
  have nl : ∀ g i, ¬ hL S g i := fun g i a => by
    have := a.2
    rw [n g a.1] at this
    omega
  refine ⟨⟨⟨fun g hg => by rw [n g hg]; omega, fun g i a => absurd a (nl g i), fun m _ y => absurd (u m) y, fun g a => absurd a (nl g 0), fun g i a => absurd a (nl g i), fun g i a => absurd a (nl g i), fun g i _ _ a => absurd a (nl g i), fun g i a => absurd a (nl g (i + 1)), fun g i a => absurd a (nl g (i + 2))⟩, ⟨fun h => ?_, fun h => ?_⟩, z⟩, ?_, ?_⟩
  · rcases h with ⟨i, a, _⟩ | ⟨a, _⟩
    · exact absurd a (nl 0 i)
    · rw [n 1 (by omega)] at a
      omega
  · obtain ⟨⟨i, a, _⟩, _⟩ := h
    exact absurd a (nl 0 i)
  · rw [e7, i0]
    omega
  · rw [e7, e8, i0]
    omega
theorem mi_start : MI M00 := by
  refine ⟨ha_0 (fun g hg => ?_) (fun m => rfl) ⟨⟨by decide, by decide⟩, ⟨by decide, by decide⟩, Or.inl rfl, fun p _ => Or.inl rfl⟩ rfl rfl, ⟨Or.inl rfl, fun p _ => Or.inl rfl⟩, ⟨by decide, by decide⟩, fun k hk => Or.inl rfl⟩
  match g, hg with
  | 0, _ => exact i0
  | 1, _ => exact i0
  | p + 2, _ => exact i0
theorem sv_00 : sV S00 := fun q k => by
  have s2 : sV S2e := sV_mk ci_1e (sV_mk ci_e (fun q k => absurd k nk_e))
  by_cases a : q < 80
  · have kS : iK S2e q 3 := ⟨a, by rw [← (en_20.2 q a).1]; exact k.2⟩
    have W := W3k ci_2e.wf kS
    rw [vCn_cg (S2 := S00) (S1 := S2e) (fun k => pu_gi W.2.2.1 k), show giC S00 q 14 = giC S2e q 14 from pu_gi a 14]
    exact s2 q kS
  · have hq : q < 83 := k.1
    rcases (show q = 80 ∨ q = 81 ∨ q = 82 by omega) with rfl | rfl | rfl
    · exact absurd (k.2.symm.trans ik_80.2) (by decide)
    · exact absurd (k.2.symm.trans ik_81.2) (by decide)
    · exact absurd (k.2.symm.trans ik_82.2) (by decide)
theorem js_00 : jS S00 0 ∧ jS S00 40 := by
  have k1 : iK S1e 0 0 := m0_0 (S := S0e)
  have k2 : iK S2e 0 0 := k1.n en_12
  have k3 : iK S2e 40 0 := m0_0 (S := S1e)
  have j1 : jS S1e 0 := jS_mk ci_e
  have j2 : jS S2e 0 := j1.og ci_1e k1 en_12 (fun q a _ => puC_old a)
  have j3 : jS S2e 40 := jS_mk ci_1e
  exact ⟨j2.og ci_2e k2 en_20 (fun q a _ => puC_old a), j3.og ci_2e k3 en_20 (fun q a _ => puC_old a)⟩
theorem gi_00 (i k : Nat) (h : i < 40) : giC S00 i k = giC S1e i k := (pu_gi (S := S2e) (show i < 80 by omega) k).trans (pu_gi (S := S1e) (show i < 40 by omega) k)
theorem frc_00 : frC 1 S00 (fun _ => []) 0 := by
  refine ⟨⟨?_, ?_, ?_, ?_, ?_, ?_⟩, fun s hs => ?_, fun k hk => ?_, fun _ _ => rfl, ⟨?_, fun p hp => ?_⟩, ⟨?_, ?_⟩, js_00.1, ⟨?_, ?_, ?_, ?_⟩, sv_00⟩
  · exact (gi_00 37 0 (by omega)).trans ((nw_gi (S := S0e) 37 0).trans rfl)
  · exact (gi_00 37 2 (by omega)).trans ((nw_gi (S := S0e) 37 2).trans rfl)
  · exact (gi_00 37 3 (by omega)).trans ((nw_gi (S := S0e) 37 3).trans rfl)
  · exact (gi_00 37 4 (by omega)).trans ((nw_gi (S := S0e) 37 4).trans rfl)
  · exact (gi_00 37 5 (by omega)).trans ((nw_gi (S := S0e) 37 5).trans rfl)
  · exact (gi_00 37 6 (by omega)).trans ((nw_gi (S := S0e) 37 6).trans rfl)
  · exact (gi_00 38 s (by omega)).trans ((nw_gi (S := S0e) 38 s).trans rfl)
  · exact (gi_00 39 k (by omega)).trans ((nw_gi (S := S0e) 39 k).trans rfl)
  · exact (gi_00 3 0 (by omega)).trans ((nw_gi (S := S0e) 3 0).trans rfl)
  · rcases (show p = 0 ∨ p = 1 ∨ p = 2 ∨ p = 3 ∨ p = 4 ∨ p = 5 ∨ p = 6 ∨ p = 7 by omega) with rfl | rfl | rfl | rfl | rfl | rfl | rfl | rfl
    · exact (gi_00 13 0 (by omega)).trans ((nw_gi (S := S0e) 13 0).trans rfl)
    · exact (gi_00 16 0 (by omega)).trans ((nw_gi (S := S0e) 16 0).trans rfl)
    · exact (gi_00 19 0 (by omega)).trans ((nw_gi (S := S0e) 19 0).trans rfl)
    · exact (gi_00 22 0 (by omega)).trans ((nw_gi (S := S0e) 22 0).trans rfl)
    · exact (gi_00 25 0 (by omega)).trans ((nw_gi (S := S0e) 25 0).trans rfl)
    · exact (gi_00 28 0 (by omega)).trans ((nw_gi (S := S0e) 28 0).trans rfl)
    · exact (gi_00 31 0 (by omega)).trans ((nw_gi (S := S0e) 31 0).trans rfl)
    · exact (gi_00 34 0 (by omega)).trans ((nw_gi (S := S0e) 34 0).trans rfl)
  · exact (gi_00 7 3 (by omega)).trans ((nw_gi (S := S0e) 7 3).trans rfl)
  · exact (gi_00 9 3 (by omega)).trans ((nw_gi (S := S0e) 9 3).trans rfl)
  · exact (gi_00 0 7 (by omega)).trans ((nw_gi (S := S0e) 0 7).trans rfl)
  · exact (gi_00 0 8 (by omega)).trans ((nw_gi (S := S0e) 0 8).trans rfl)
  · exact (gi_00 0 9 (by omega)).trans ((nw_gi (S := S0e) 0 9).trans rfl)
  · exact (gi_00 11 1 (by omega)).trans ((nw_gi (S := S0e) 11 1).trans rfl)
theorem frr_00 : frR 1 M00.2.1 := ⟨⟨rfl, rfl, rfl, rfl, rfl, rfl⟩, ⟨rfl, rfl, rfl, rfl, rfl⟩, ⟨rfl, rfl⟩, fun _ _ => rfl, fun _ _ => rfl, fun _ _ => rfl⟩
theorem rl_start : RQ S00 M00 := by
  have h1 : 1 ≤ (1 : Int32).toInt ∧ (1 : Int32).toInt ≤ 200 := by rw [i1]; omega
  refine RQ.mk (a := 0) (b := 40) (r2 := none) (r3 := none) (l := 80) ki_start ((gr_82 0).trans rfl) ((gr_82 1).trans rfl) ((gr_82 2).trans rfl) ((gr_82 3).trans rfl) ((gr_82 4).trans rfl) ci_00 ⟨⟨fun _ => 0, ?_, ?_⟩, js_00.2, ⟨⟨fun _ => rfl, fun c y => absurd y (by simp)⟩, ⟨fun _ => rfl, fun c y => absurd y (by simp)⟩⟩, ?_, ?_, ?_, fun q k => ?_, fun i j hi => ?_⟩
  · exact frRR (n := 1) ⟨by omega, h1.2⟩ frc_00 frr_00 (fun _ => 0)
  · exact frJX (n := 1) h1 frc_00 (M00.2.1.2 40) (fun _ => 0)
  · exact (nw_gi (S := S2e) (cs := cs00) (sl := 105) 0 0).trans rfl
  · exact (nw_gi (S := S2e) (cs := cs00) (sl := 105) 0 3).trans rfl
  · have : (0 : Int) ≤ (lcl S00 80 : Nat) := Int.natCast_nonneg _
    have e : (M00.1.1 6).toInt = 0 := i0
    omega
  · rw [gr_80, Option.getD_some]
    exact fun y => ik_ne k ik_80 (by decide) (by omega)
  · have e : (M00.1.1 6).toInt = 0 := i0
    omega
set_option maxHeartbeats 4000000 in
set_option maxRecDepth 100000 in
/-- the world at the start is the two sides' -/
theorem w_start (K : Nat → ClassId) (q2 q3 q4 q5 q6 q7 q8 q9 q10 q11 q12 q13 q14 q15 q16 q17 q18 q19 q20 q21 q22 q23 q24 q25 q26 q27 q28 q29 q30 q31 q32 q33 q34 q35 q36 q37 q38 q39 q40 q41 q42 q43 q44 q45 q46 q47 q48 q49 q50 q51 q52 q53 q54 q55 q56 q57 q58 q59 q60 q61 q62 q63 q64 q65 q66 q67 q68 q69 q70 q71 q72 q73 q74 q75 q76 q77 q78 q79 q80 q81 q82 q83 q1 q84 q136 q137 q138 q139 q140 q141 q142 q143 q85 q86 q87 q88 q89 q90 q91 q92 q93 q94 q95 q96 q97 q98 q99 q100 q101 q102 q103 q144 q104 q105 q106 q107 q108 q109 q110 q111 q112 q113 q114 q115 q116 q117 q118 q119 q120 q121 q122 q123 q124 q125 q126 q127 q128 q129 q130 q131 q132 q133 q134 q135 : Nat) : [(q2, .inr (0, [.ref q39, .ref q3, .ref q5, .ref q8, .ref q9, .ref q11, .ref q13, .int 0, .int 0, .int 0, .null])), (q3, .inr (4, [.ref q4, .int 0])), (q4, .inl (K 3, 9, .inr (.inr (.inr (.inr (fun _ => none)))))), (q5, .inr (5, [.int 0, .ref q6])), (q6, .inr (4, [.ref q7, .int 0])), (q7, .inl (K 3, 9, .inr (.inr (.inr (.inr (fun _ => none)))))), (q8, .inl (K 4, 8, .inr (.inr (.inr (.inr (va_up (va_up (va_up (va_up (va_up (va_up (va_up (va_up (fun _ => none) 0 (some q15)) 1 (some q18)) 2 (some q21)) 3 (some q24)) 4 (some q27)) 5 (some q30)) 6 (some q33)) 7 (some q36))))))), (q9, .inr (2, [.int 7, .int 600, .ref q10, .int 0])), (q10, .inl (K 0, 112, .inl (fun _ => 0))), (q11, .inr (2, [.int 5, .int 600, .ref q12, .int 0])), (q12, .inl (K 0, 80, .inl (fun _ => 0))), (q13, .inr (6, [.ref q14, .int 0])), (q14, .inl (K 0, 400, .inl (fun _ => 0))), (q15, .inr (5, [.int 0, .ref q16])), (q16, .inr (4, [.ref q17, .int 0])), (q17, .inl (K 3, 9, .inr (.inr (.inr (.inr (fun _ => none)))))), (q18, .inr (5, [.int 0, .ref q19])), (q19, .inr (4, [.ref q20, .int 0])), (q20, .inl (K 3, 9, .inr (.inr (.inr (.inr (fun _ => none)))))), (q21, .inr (5, [.int 0, .ref q22])), (q22, .inr (4, [.ref q23, .int 0])), (q23, .inl (K 3, 9, .inr (.inr (.inr (.inr (fun _ => none)))))), (q24, .inr (5, [.int 0, .ref q25])), (q25, .inr (4, [.ref q26, .int 0])), (q26, .inl (K 3, 9, .inr (.inr (.inr (.inr (fun _ => none)))))), (q27, .inr (5, [.int 0, .ref q28])), (q28, .inr (4, [.ref q29, .int 0])), (q29, .inl (K 3, 9, .inr (.inr (.inr (.inr (fun _ => none)))))), (q30, .inr (5, [.int 0, .ref q31])), (q31, .inr (4, [.ref q32, .int 0])), (q32, .inl (K 3, 9, .inr (.inr (.inr (.inr (fun _ => none)))))), (q33, .inr (5, [.int 0, .ref q34])), (q34, .inr (4, [.ref q35, .int 0])), (q35, .inl (K 3, 9, .inr (.inr (.inr (.inr (fun _ => none)))))), (q36, .inr (5, [.int 0, .ref q37])), (q37, .inr (4, [.ref q38, .int 0])), (q38, .inl (K 3, 9, .inr (.inr (.inr (.inr (fun _ => none)))))), (q39, .inr (1, [.int 1, .ref q40, .int 0, .int (-1), .int 0, .int 0, .int (-1), .ref q41])), (q40, .inl (K 1, 200, .inl (fun _ => 0))), (q41, .inl (K 0, 9, .inl (upd (fun _ => 1) 6 2))), (q42, .inr (0, [.ref q79, .ref q43, .ref q45, .ref q48, .ref q49, .ref q51, .ref q53, .int 0, .int 0, .int 0, .null])), (q43, .inr (4, [.ref q44, .int 0])), (q44, .inl (K 3, 9, .inr (.inr (.inr (.inr (fun _ => none)))))), (q45, .inr (5, [.int 0, .ref q46])), (q46, .inr (4, [.ref q47, .int 0])), (q47, .inl (K 3, 9, .inr (.inr (.inr (.inr (fun _ => none)))))), (q48, .inl (K 4, 8, .inr (.inr (.inr (.inr (va_up (va_up (va_up (va_up (va_up (va_up (va_up (va_up (fun _ => none) 0 (some q55)) 1 (some q58)) 2 (some q61)) 3 (some q64)) 4 (some q67)) 5 (some q70)) 6 (some q73)) 7 (some q76))))))), (q49, .inr (2, [.int 7, .int 600, .ref q50, .int 0])), (q50, .inl (K 0, 112, .inl (fun _ => 0))), (q51, .inr (2, [.int 5, .int 600, .ref q52, .int 0])), (q52, .inl (K 0, 80, .inl (fun _ => 0))), (q53, .inr (6, [.ref q54, .int 0])), (q54, .inl (K 0, 400, .inl (fun _ => 0))), (q55, .inr (5, [.int 0, .ref q56])), (q56, .inr (4, [.ref q57, .int 0])), (q57, .inl (K 3, 9, .inr (.inr (.inr (.inr (fun _ => none)))))), (q58, .inr (5, [.int 0, .ref q59])), (q59, .inr (4, [.ref q60, .int 0])), (q60, .inl (K 3, 9, .inr (.inr (.inr (.inr (fun _ => none)))))), (q61, .inr (5, [.int 0, .ref q62])), (q62, .inr (4, [.ref q63, .int 0])), (q63, .inl (K 3, 9, .inr (.inr (.inr (.inr (fun _ => none)))))), (q64, .inr (5, [.int 0, .ref q65])), (q65, .inr (4, [.ref q66, .int 0])), (q66, .inl (K 3, 9, .inr (.inr (.inr (.inr (fun _ => none)))))), (q67, .inr (5, [.int 0, .ref q68])), (q68, .inr (4, [.ref q69, .int 0])), (q69, .inl (K 3, 9, .inr (.inr (.inr (.inr (fun _ => none)))))), (q70, .inr (5, [.int 0, .ref q71])), (q71, .inr (4, [.ref q72, .int 0])), (q72, .inl (K 3, 9, .inr (.inr (.inr (.inr (fun _ => none)))))), (q73, .inr (5, [.int 0, .ref q74])), (q74, .inr (4, [.ref q75, .int 0])), (q75, .inl (K 3, 9, .inr (.inr (.inr (.inr (fun _ => none)))))), (q76, .inr (5, [.int 0, .ref q77])), (q77, .inr (4, [.ref q78, .int 0])), (q78, .inl (K 3, 9, .inr (.inr (.inr (.inr (fun _ => none)))))), (q79, .inr (1, [.int 1, .ref q80, .int 0, .int (-1), .int 0, .int 0, .int (-1), .ref q81])), (q80, .inl (K 1, 200, .inl (fun _ => 0))), (q81, .inl (K 0, 9, .inl (upd (fun _ => 1) 6 2))), (q82, .inr (2, [.int 6, .int 600, .ref q83, .int 0])), (q83, .inl (K 0, 96, .inl (fun _ => 0))), (q1, .inr (7, [.ref q2, .ref q42, .null, .null, .ref q82])), (q84, .inr (9, [.ref q140, .ref q108, .ref q136, .ref q137, .ref q138, .ref q139, .int 0])), (q136, .inl (K 0, 2, .inl (fun _ => 0))), (q137, .inl (K 0, 2, .inl (fun _ => (-1)))), (q138, .inl (K 0, 7200, .inl (fun _ => 0))), (q139, .inl (K 0, 3600, .inl (fun _ => 0))), (q140, .inr (8, [.int 1, .int 0, .int (-1), .int 0, .int 0, .int (-1), .int 0, .int 0, .int 0, .int 0, .int 0, .ref q141, .ref q142, .ref q143, .ref q85, .ref q86, .ref q87, .ref q88, .ref q89, .ref q90, .ref q91, .ref q92, .ref q93, .ref q94, .ref q95, .ref q96, .ref q97, .ref q98, .ref q99, .ref q100, .int 0, .ref q101, .ref q102, .ref q103, .ref q144, .int 0, .int 0, .ref q104, .ref q105, .int (-1), .ref q106, .ref q107])), (q141, .inl (K 1, 200, .inl (fun _ => 0))), (q142, .inl (K 0, 9, .inl (upd (fun _ => 1) 6 2))), (q143, .inl (K 1, 90, .inl (fun _ => 0))), (q85, .inl (K 0, 90, .inl (fun _ => 0))), (q86, .inl (K 0, 90, .inl (fun _ => 0))), (q87, .inl (K 0, 90, .inl (fun _ => 0))), (q88, .inl (K 0, 90, .inl (fun _ => 0))), (q89, .inl (K 0, 90, .inl (fun _ => 0))), (q90, .inl (K 0, 90, .inl (fun _ => 0))), (q91, .inl (K 0, 90, .inl (fun _ => 0))), (q92, .inl (K 0, 90, .inl (fun _ => 0))), (q93, .inl (K 0, 90, .inl (fun _ => 0))), (q94, .inl (K 0, 90, .inl (fun _ => 0))), (q95, .inl (K 1, 90, .inl (fun _ => 0))), (q96, .inl (K 1, 90, .inl (fun _ => 0))), (q97, .inl (K 1, 90, .inl (fun _ => 0))), (q98, .inl (K 1, 90, .inl (fun _ => 0))), (q99, .inl (K 0, 36000, .inl (fun _ => 0))), (q100, .inl (K 2, 18000, .inl (fun _ => 0))), (q101, .inl (K 0, 9, .inl (fun _ => 0))), (q102, .inl (K 0, 9, .inl (fun _ => 0))), (q103, .inl (K 0, 72, .inl (fun _ => 0))), (q144, .inl (K 0, 8, .inl (fun _ => 0))), (q104, .inl (K 1, 8, .inl (fun _ => 0))), (q105, .inl (K 0, 400, .inl (fun _ => 0))), (q106, .inl (K 0, 3600, .inl (fun _ => 0))), (q107, .inl (K 0, 3000, .inl (fun _ => 0))), (q108, .inr (8, [.int 0, .int 0, .int 0, .int 0, .int 0, .int 0, .int 0, .int 0, .int 0, .int 0, .int 0, .ref q109, .ref q110, .ref q111, .ref q112, .ref q113, .ref q114, .ref q115, .ref q116, .ref q117, .ref q118, .ref q119, .ref q120, .ref q121, .ref q122, .ref q123, .ref q124, .ref q125, .ref q126, .ref q127, .int 0, .ref q128, .ref q129, .ref q130, .ref q131, .int 0, .int 0, .ref q132, .ref q133, .int 0, .ref q134, .ref q135])), (q109, .inl (K 1, 200, .inl (fun _ => 0))), (q110, .inl (K 0, 9, .inl (fun _ => 0))), (q111, .inl (K 1, 90, .inl (fun _ => 0))), (q112, .inl (K 0, 90, .inl (fun _ => 0))), (q113, .inl (K 0, 90, .inl (fun _ => 0))), (q114, .inl (K 0, 90, .inl (fun _ => 0))), (q115, .inl (K 0, 90, .inl (fun _ => 0))), (q116, .inl (K 0, 90, .inl (fun _ => 0))), (q117, .inl (K 0, 90, .inl (fun _ => 0))), (q118, .inl (K 0, 90, .inl (fun _ => 0))), (q119, .inl (K 0, 90, .inl (fun _ => 0))), (q120, .inl (K 0, 90, .inl (fun _ => 0))), (q121, .inl (K 0, 90, .inl (fun _ => 0))), (q122, .inl (K 1, 90, .inl (fun _ => 0))), (q123, .inl (K 1, 90, .inl (fun _ => 0))), (q124, .inl (K 1, 90, .inl (fun _ => 0))), (q125, .inl (K 1, 90, .inl (fun _ => 0))), (q126, .inl (K 0, 36000, .inl (fun _ => 0))), (q127, .inl (K 2, 18000, .inl (fun _ => 0))), (q128, .inl (K 0, 9, .inl (fun _ => 0))), (q129, .inl (K 0, 9, .inl (fun _ => 0))), (q130, .inl (K 0, 72, .inl (fun _ => 0))), (q131, .inl (K 0, 8, .inl (fun _ => 0))), (q132, .inl (K 1, 8, .inl (fun _ => 0))), (q133, .inl (K 0, 400, .inl (fun _ => 0))), (q134, .inl (K 0, 3600, .inl (fun _ => 0))), (q135, .inl (K 0, 3000, .inl (fun _ => 0)))] = wsC K (adX (adX (adX (fun _ => 0) 0 [q2, q3, q4, q5, q6, q7, q8, q9, q10, q11, q12, q13, q14, q15, q16, q17, q18, q19, q20, q21, q22, q23, q24, q25, q26, q27, q28, q29, q30, q31, q32, q33, q34, q35, q36, q37, q38, q39, q40, q41]) 40 [q42, q43, q44, q45, q46, q47, q48, q49, q50, q51, q52, q53, q54, q55, q56, q57, q58, q59, q60, q61, q62, q63, q64, q65, q66, q67, q68, q69, q70, q71, q72, q73, q74, q75, q76, q77, q78, q79, q80, q81]) 80 [q82, q83, q1]) S00 ++ mW K q84 (fun k => match k with | 2 => q136 | 3 => q137 | 4 => q138 | 5 => q139 | _ => 0) q140 (fun k => match k with | 11 => q141 | 12 => q142 | 13 => q143 | 14 => q85 | 15 => q86 | 16 => q87 | 17 => q88 | 18 => q89 | 19 => q90 | 20 => q91 | 21 => q92 | 22 => q93 | 23 => q94 | 24 => q95 | 25 => q96 | 26 => q97 | 27 => q98 | 28 => q99 | 29 => q100 | 31 => q101 | 32 => q102 | 33 => q103 | 34 => q144 | 37 => q104 | 38 => q105 | 40 => q106 | 41 => q107 | _ => 0) q108 (fun k => match k with | 11 => q109 | 12 => q110 | 13 => q111 | 14 => q112 | 15 => q113 | 16 => q114 | 17 => q115 | 18 => q116 | 19 => q117 | 20 => q118 | 21 => q119 | 22 => q120 | 23 => q121 | 24 => q122 | 25 => q123 | 26 => q124 | 27 => q125 | 28 => q126 | 29 => q127 | 31 => q128 | 32 => q129 | 33 => q130 | 34 => q131 | 37 => q132 | 38 => q133 | 40 => q134 | 41 => q135 | _ => 0) M00 := by
  have e1 : (wsC K (fun _ => 0) S0e) ++ [(q2, .inr (0, [.ref q39, .ref q3, .ref q5, .ref q8, .ref q9, .ref q11, .ref q13, .int 0, .int 0, .int 0, .null])), (q3, .inr (4, [.ref q4, .int 0])), (q4, .inl (K 3, 9, .inr (.inr (.inr (.inr (fun _ => none)))))), (q5, .inr (5, [.int 0, .ref q6])), (q6, .inr (4, [.ref q7, .int 0])), (q7, .inl (K 3, 9, .inr (.inr (.inr (.inr (fun _ => none)))))), (q8, .inl (K 4, 8, .inr (.inr (.inr (.inr (va_up (va_up (va_up (va_up (va_up (va_up (va_up (va_up (fun _ => none) 0 (some q15)) 1 (some q18)) 2 (some q21)) 3 (some q24)) 4 (some q27)) 5 (some q30)) 6 (some q33)) 7 (some q36))))))), (q9, .inr (2, [.int 7, .int 600, .ref q10, .int 0])), (q10, .inl (K 0, 112, .inl (fun _ => 0))), (q11, .inr (2, [.int 5, .int 600, .ref q12, .int 0])), (q12, .inl (K 0, 80, .inl (fun _ => 0))), (q13, .inr (6, [.ref q14, .int 0])), (q14, .inl (K 0, 400, .inl (fun _ => 0))), (q15, .inr (5, [.int 0, .ref q16])), (q16, .inr (4, [.ref q17, .int 0])), (q17, .inl (K 3, 9, .inr (.inr (.inr (.inr (fun _ => none)))))), (q18, .inr (5, [.int 0, .ref q19])), (q19, .inr (4, [.ref q20, .int 0])), (q20, .inl (K 3, 9, .inr (.inr (.inr (.inr (fun _ => none)))))), (q21, .inr (5, [.int 0, .ref q22])), (q22, .inr (4, [.ref q23, .int 0])), (q23, .inl (K 3, 9, .inr (.inr (.inr (.inr (fun _ => none)))))), (q24, .inr (5, [.int 0, .ref q25])), (q25, .inr (4, [.ref q26, .int 0])), (q26, .inl (K 3, 9, .inr (.inr (.inr (.inr (fun _ => none)))))), (q27, .inr (5, [.int 0, .ref q28])), (q28, .inr (4, [.ref q29, .int 0])), (q29, .inl (K 3, 9, .inr (.inr (.inr (.inr (fun _ => none)))))), (q30, .inr (5, [.int 0, .ref q31])), (q31, .inr (4, [.ref q32, .int 0])), (q32, .inl (K 3, 9, .inr (.inr (.inr (.inr (fun _ => none)))))), (q33, .inr (5, [.int 0, .ref q34])), (q34, .inr (4, [.ref q35, .int 0])), (q35, .inl (K 3, 9, .inr (.inr (.inr (.inr (fun _ => none)))))), (q36, .inr (5, [.int 0, .ref q37])), (q37, .inr (4, [.ref q38, .int 0])), (q38, .inl (K 3, 9, .inr (.inr (.inr (.inr (fun _ => none)))))), (q39, .inr (1, [.int 1, .ref q40, .int 0, .int (-1), .int 0, .int 0, .int (-1), .ref q41])), (q40, .inl (K 1, 200, .inl (fun _ => 0))), (q41, .inl (K 0, 9, .inl (upd (fun _ => 1) 6 2)))] = _ := mkX0_w clS_e q2 q3 q4 q5 q6 q7 q8 q9 q10 q11 q12 q13 q14 q15 q16 q17 q18 q19 q20 q21 q22 q23 q24 q25 q26 q27 q28 q29 q30 q31 q32 q33 q34 q35 q36 q37 q38 q39 q40 q41
  have e2 := mkX0_w (K := K) (ad := adX (fun _ => 0) 0 [q2, q3, q4, q5, q6, q7, q8, q9, q10, q11, q12, q13, q14, q15, q16, q17, q18, q19, q20, q21, q22, q23, q24, q25, q26, q27, q28, q29, q30, q31, q32, q33, q34, q35, q36, q37, q38, q39, q40, q41]) clS_1 q42 q43 q44 q45 q46 q47 q48 q49 q50 q51 q52 q53 q54 q55 q56 q57 q58 q59 q60 q61 q62 q63 q64 q65 q66 q67 q68 q69 q70 q71 q72 q73 q74 q75 q76 q77 q78 q79 q80 q81
  have e3 : wsC K (adX (adX (fun _ => 0) 0 [q2, q3, q4, q5, q6, q7, q8, q9, q10, q11, q12, q13, q14, q15, q16, q17, q18, q19, q20, q21, q22, q23, q24, q25, q26, q27, q28, q29, q30, q31, q32, q33, q34, q35, q36, q37, q38, q39, q40, q41]) 40 [q42, q43, q44, q45, q46, q47, q48, q49, q50, q51, q52, q53, q54, q55, q56, q57, q58, q59, q60, q61, q62, q63, q64, q65, q66, q67, q68, q69, q70, q71, q72, q73, q74, q75, q76, q77, q78, q79, q80, q81]) S2e ++ [(q82, .inr (2, [.int 6, .int 600, .ref q83, .int 0])), (q83, .inl (K 0, 96, .inl (fun _ => 0))), (q1, .inr (7, [.ref q2, .ref q42, .null, .null, .ref q82]))] = wsC K (adX (adX (adX (fun _ => 0) 0 [q2, q3, q4, q5, q6, q7, q8, q9, q10, q11, q12, q13, q14, q15, q16, q17, q18, q19, q20, q21, q22, q23, q24, q25, q26, q27, q28, q29, q30, q31, q32, q33, q34, q35, q36, q37, q38, q39, q40, q41]) 40 [q42, q43, q44, q45, q46, q47, q48, q49, q50, q51, q52, q53, q54, q55, q56, q57, q58, q59, q60, q61, q62, q63, q64, q65, q66, q67, q68, q69, q70, q71, q72, q73, q74, q75, q76, q77, q78, q79, q80, q81]) 80 [q82, q83, q1]) S00 := by
    refine wsC_app [q82, q83, q1] _ _ clS_2 ?_
    rfl
  rw [← e3]
  have e2' : wsC K (adX (fun _ => 0) 0 [q2, q3, q4, q5, q6, q7, q8, q9, q10, q11, q12, q13, q14, q15, q16, q17, q18, q19, q20, q21, q22, q23, q24, q25, q26, q27, q28, q29, q30, q31, q32, q33, q34, q35, q36, q37, q38, q39, q40, q41]) S1e ++ [(q42, .inr (0, [.ref q79, .ref q43, .ref q45, .ref q48, .ref q49, .ref q51, .ref q53, .int 0, .int 0, .int 0, .null])), (q43, .inr (4, [.ref q44, .int 0])), (q44, .inl (K 3, 9, .inr (.inr (.inr (.inr (fun _ => none)))))), (q45, .inr (5, [.int 0, .ref q46])), (q46, .inr (4, [.ref q47, .int 0])), (q47, .inl (K 3, 9, .inr (.inr (.inr (.inr (fun _ => none)))))), (q48, .inl (K 4, 8, .inr (.inr (.inr (.inr (va_up (va_up (va_up (va_up (va_up (va_up (va_up (va_up (fun _ => none) 0 (some q55)) 1 (some q58)) 2 (some q61)) 3 (some q64)) 4 (some q67)) 5 (some q70)) 6 (some q73)) 7 (some q76))))))), (q49, .inr (2, [.int 7, .int 600, .ref q50, .int 0])), (q50, .inl (K 0, 112, .inl (fun _ => 0))), (q51, .inr (2, [.int 5, .int 600, .ref q52, .int 0])), (q52, .inl (K 0, 80, .inl (fun _ => 0))), (q53, .inr (6, [.ref q54, .int 0])), (q54, .inl (K 0, 400, .inl (fun _ => 0))), (q55, .inr (5, [.int 0, .ref q56])), (q56, .inr (4, [.ref q57, .int 0])), (q57, .inl (K 3, 9, .inr (.inr (.inr (.inr (fun _ => none)))))), (q58, .inr (5, [.int 0, .ref q59])), (q59, .inr (4, [.ref q60, .int 0])), (q60, .inl (K 3, 9, .inr (.inr (.inr (.inr (fun _ => none)))))), (q61, .inr (5, [.int 0, .ref q62])), (q62, .inr (4, [.ref q63, .int 0])), (q63, .inl (K 3, 9, .inr (.inr (.inr (.inr (fun _ => none)))))), (q64, .inr (5, [.int 0, .ref q65])), (q65, .inr (4, [.ref q66, .int 0])), (q66, .inl (K 3, 9, .inr (.inr (.inr (.inr (fun _ => none)))))), (q67, .inr (5, [.int 0, .ref q68])), (q68, .inr (4, [.ref q69, .int 0])), (q69, .inl (K 3, 9, .inr (.inr (.inr (.inr (fun _ => none)))))), (q70, .inr (5, [.int 0, .ref q71])), (q71, .inr (4, [.ref q72, .int 0])), (q72, .inl (K 3, 9, .inr (.inr (.inr (.inr (fun _ => none)))))), (q73, .inr (5, [.int 0, .ref q74])), (q74, .inr (4, [.ref q75, .int 0])), (q75, .inl (K 3, 9, .inr (.inr (.inr (.inr (fun _ => none)))))), (q76, .inr (5, [.int 0, .ref q77])), (q77, .inr (4, [.ref q78, .int 0])), (q78, .inl (K 3, 9, .inr (.inr (.inr (.inr (fun _ => none)))))), (q79, .inr (1, [.int 1, .ref q80, .int 0, .int (-1), .int 0, .int 0, .int (-1), .ref q81])), (q80, .inl (K 1, 200, .inl (fun _ => 0))), (q81, .inl (K 0, 9, .inl (upd (fun _ => 1) 6 2)))] = wsC K (adX (adX (fun _ => 0) 0 [q2, q3, q4, q5, q6, q7, q8, q9, q10, q11, q12, q13, q14, q15, q16, q17, q18, q19, q20, q21, q22, q23, q24, q25, q26, q27, q28, q29, q30, q31, q32, q33, q34, q35, q36, q37, q38, q39, q40, q41]) 40 [q42, q43, q44, q45, q46, q47, q48, q49, q50, q51, q52, q53, q54, q55, q56, q57, q58, q59, q60, q61, q62, q63, q64, q65, q66, q67, q68, q69, q70, q71, q72, q73, q74, q75, q76, q77, q78, q79, q80, q81]) S2e := e2
  rw [← e2']
  have e1' : [(q2, .inr (0, [.ref q39, .ref q3, .ref q5, .ref q8, .ref q9, .ref q11, .ref q13, .int 0, .int 0, .int 0, .null])), (q3, .inr (4, [.ref q4, .int 0])), (q4, .inl (K 3, 9, .inr (.inr (.inr (.inr (fun _ => none)))))), (q5, .inr (5, [.int 0, .ref q6])), (q6, .inr (4, [.ref q7, .int 0])), (q7, .inl (K 3, 9, .inr (.inr (.inr (.inr (fun _ => none)))))), (q8, .inl (K 4, 8, .inr (.inr (.inr (.inr (va_up (va_up (va_up (va_up (va_up (va_up (va_up (va_up (fun _ => none) 0 (some q15)) 1 (some q18)) 2 (some q21)) 3 (some q24)) 4 (some q27)) 5 (some q30)) 6 (some q33)) 7 (some q36))))))), (q9, .inr (2, [.int 7, .int 600, .ref q10, .int 0])), (q10, .inl (K 0, 112, .inl (fun _ => 0))), (q11, .inr (2, [.int 5, .int 600, .ref q12, .int 0])), (q12, .inl (K 0, 80, .inl (fun _ => 0))), (q13, .inr (6, [.ref q14, .int 0])), (q14, .inl (K 0, 400, .inl (fun _ => 0))), (q15, .inr (5, [.int 0, .ref q16])), (q16, .inr (4, [.ref q17, .int 0])), (q17, .inl (K 3, 9, .inr (.inr (.inr (.inr (fun _ => none)))))), (q18, .inr (5, [.int 0, .ref q19])), (q19, .inr (4, [.ref q20, .int 0])), (q20, .inl (K 3, 9, .inr (.inr (.inr (.inr (fun _ => none)))))), (q21, .inr (5, [.int 0, .ref q22])), (q22, .inr (4, [.ref q23, .int 0])), (q23, .inl (K 3, 9, .inr (.inr (.inr (.inr (fun _ => none)))))), (q24, .inr (5, [.int 0, .ref q25])), (q25, .inr (4, [.ref q26, .int 0])), (q26, .inl (K 3, 9, .inr (.inr (.inr (.inr (fun _ => none)))))), (q27, .inr (5, [.int 0, .ref q28])), (q28, .inr (4, [.ref q29, .int 0])), (q29, .inl (K 3, 9, .inr (.inr (.inr (.inr (fun _ => none)))))), (q30, .inr (5, [.int 0, .ref q31])), (q31, .inr (4, [.ref q32, .int 0])), (q32, .inl (K 3, 9, .inr (.inr (.inr (.inr (fun _ => none)))))), (q33, .inr (5, [.int 0, .ref q34])), (q34, .inr (4, [.ref q35, .int 0])), (q35, .inl (K 3, 9, .inr (.inr (.inr (.inr (fun _ => none)))))), (q36, .inr (5, [.int 0, .ref q37])), (q37, .inr (4, [.ref q38, .int 0])), (q38, .inl (K 3, 9, .inr (.inr (.inr (.inr (fun _ => none)))))), (q39, .inr (1, [.int 1, .ref q40, .int 0, .int (-1), .int 0, .int 0, .int (-1), .ref q41])), (q40, .inl (K 1, 200, .inl (fun _ => 0))), (q41, .inl (K 0, 9, .inl (upd (fun _ => 1) 6 2)))] = wsC K (adX (fun _ => 0) 0 [q2, q3, q4, q5, q6, q7, q8, q9, q10, q11, q12, q13, q14, q15, q16, q17, q18, q19, q20, q21, q22, q23, q24, q25, q26, q27, q28, q29, q30, q31, q32, q33, q34, q35, q36, q37, q38, q39, q40, q41]) S1e := e1
  rw [← e1']
  rfl
