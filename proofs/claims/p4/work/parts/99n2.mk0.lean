/-! ===== an assembly made anew ===== -/
section
variable {S S1 : Cst} {T T1 : Nat → List Nat} {col c1 : Nat → Nat}
theorem m0_0 : iK (mkX0 S) (S.1 + 0) 0 := nw_ik (show 0 < 40 by omega) rfl
theorem m0_1 : iK (mkX0 S) (S.1 + 1) 4 := nw_ik (show 1 < 40 by omega) rfl
theorem m0_2 : iK (mkX0 S) (S.1 + 2) 23 := nw_ik (show 2 < 40 by omega) rfl
theorem m0_3 : iK (mkX0 S) (S.1 + 3) 5 := nw_ik (show 3 < 40 by omega) rfl
theorem m0_4 : iK (mkX0 S) (S.1 + 4) 4 := nw_ik (show 4 < 40 by omega) rfl
theorem m0_5 : iK (mkX0 S) (S.1 + 5) 23 := nw_ik (show 5 < 40 by omega) rfl
theorem m0_6 : iK (mkX0 S) (S.1 + 6) 24 := nw_ik (show 6 < 40 by omega) rfl
theorem m0_7 : iK (mkX0 S) (S.1 + 7) 2 := nw_ik (show 7 < 40 by omega) rfl
theorem m0_8 : iK (mkX0 S) (S.1 + 8) 20 := nw_ik (show 8 < 40 by omega) rfl
theorem m0_9 : iK (mkX0 S) (S.1 + 9) 2 := nw_ik (show 9 < 40 by omega) rfl
theorem m0_10 : iK (mkX0 S) (S.1 + 10) 20 := nw_ik (show 10 < 40 by omega) rfl
theorem m0_11 : iK (mkX0 S) (S.1 + 11) 6 := nw_ik (show 11 < 40 by omega) rfl
theorem m0_12 : iK (mkX0 S) (S.1 + 12) 20 := nw_ik (show 12 < 40 by omega) rfl
theorem m0_13 : iK (mkX0 S) (S.1 + 13) 5 := nw_ik (show 13 < 40 by omega) rfl
theorem m0_14 : iK (mkX0 S) (S.1 + 14) 4 := nw_ik (show 14 < 40 by omega) rfl
theorem m0_15 : iK (mkX0 S) (S.1 + 15) 23 := nw_ik (show 15 < 40 by omega) rfl
theorem m0_16 : iK (mkX0 S) (S.1 + 16) 5 := nw_ik (show 16 < 40 by omega) rfl
theorem m0_17 : iK (mkX0 S) (S.1 + 17) 4 := nw_ik (show 17 < 40 by omega) rfl
theorem m0_18 : iK (mkX0 S) (S.1 + 18) 23 := nw_ik (show 18 < 40 by omega) rfl
theorem m0_19 : iK (mkX0 S) (S.1 + 19) 5 := nw_ik (show 19 < 40 by omega) rfl
theorem m0_20 : iK (mkX0 S) (S.1 + 20) 4 := nw_ik (show 20 < 40 by omega) rfl
theorem m0_21 : iK (mkX0 S) (S.1 + 21) 23 := nw_ik (show 21 < 40 by omega) rfl
theorem m0_22 : iK (mkX0 S) (S.1 + 22) 5 := nw_ik (show 22 < 40 by omega) rfl
theorem m0_23 : iK (mkX0 S) (S.1 + 23) 4 := nw_ik (show 23 < 40 by omega) rfl
theorem m0_24 : iK (mkX0 S) (S.1 + 24) 23 := nw_ik (show 24 < 40 by omega) rfl
theorem m0_25 : iK (mkX0 S) (S.1 + 25) 5 := nw_ik (show 25 < 40 by omega) rfl
theorem m0_26 : iK (mkX0 S) (S.1 + 26) 4 := nw_ik (show 26 < 40 by omega) rfl
theorem m0_27 : iK (mkX0 S) (S.1 + 27) 23 := nw_ik (show 27 < 40 by omega) rfl
theorem m0_28 : iK (mkX0 S) (S.1 + 28) 5 := nw_ik (show 28 < 40 by omega) rfl
theorem m0_29 : iK (mkX0 S) (S.1 + 29) 4 := nw_ik (show 29 < 40 by omega) rfl
theorem m0_30 : iK (mkX0 S) (S.1 + 30) 23 := nw_ik (show 30 < 40 by omega) rfl
theorem m0_31 : iK (mkX0 S) (S.1 + 31) 5 := nw_ik (show 31 < 40 by omega) rfl
theorem m0_32 : iK (mkX0 S) (S.1 + 32) 4 := nw_ik (show 32 < 40 by omega) rfl
theorem m0_33 : iK (mkX0 S) (S.1 + 33) 23 := nw_ik (show 33 < 40 by omega) rfl
theorem m0_34 : iK (mkX0 S) (S.1 + 34) 5 := nw_ik (show 34 < 40 by omega) rfl
theorem m0_35 : iK (mkX0 S) (S.1 + 35) 4 := nw_ik (show 35 < 40 by omega) rfl
theorem m0_36 : iK (mkX0 S) (S.1 + 36) 23 := nw_ik (show 36 < 40 by omega) rfl
theorem m0_37 : iK (mkX0 S) (S.1 + 37) 1 := nw_ik (show 37 < 40 by omega) rfl
theorem m0_38 : iK (mkX0 S) (S.1 + 38) 21 := nw_ik (show 38 < 40 by omega) rfl
theorem m0_39 : iK (mkX0 S) (S.1 + 39) 20 := nw_ik (show 39 < 40 by omega) rfl
theorem m0_k {i c : Nat} (hi : i < 40) (k : kdC (mkX0 S) (S.1 + i) = c) : ((i = 0 ∧ c = 0) ∨ (i = 1 ∧ c = 4) ∨ (i = 2 ∧ c = 23) ∨ (i = 3 ∧ c = 5) ∨ (i = 4 ∧ c = 4) ∨ (i = 5 ∧ c = 23) ∨ (i = 6 ∧ c = 24) ∨ (i = 7 ∧ c = 2) ∨ (i = 8 ∧ c = 20) ∨ (i = 9 ∧ c = 2) ∨ (i = 10 ∧ c = 20) ∨ (i = 11 ∧ c = 6) ∨ (i = 12 ∧ c = 20) ∨ (i = 13 ∧ c = 5) ∨ (i = 14 ∧ c = 4) ∨ (i = 15 ∧ c = 23) ∨ (i = 16 ∧ c = 5) ∨ (i = 17 ∧ c = 4) ∨ (i = 18 ∧ c = 23) ∨ (i = 19 ∧ c = 5) ∨ (i = 20 ∧ c = 4) ∨ (i = 21 ∧ c = 23) ∨ (i = 22 ∧ c = 5) ∨ (i = 23 ∧ c = 4) ∨ (i = 24 ∧ c = 23) ∨ (i = 25 ∧ c = 5) ∨ (i = 26 ∧ c = 4) ∨ (i = 27 ∧ c = 23) ∨ (i = 28 ∧ c = 5) ∨ (i = 29 ∧ c = 4) ∨ (i = 30 ∧ c = 23) ∨ (i = 31 ∧ c = 5) ∨ (i = 32 ∧ c = 4) ∨ (i = 33 ∧ c = 23) ∨ (i = 34 ∧ c = 5) ∨ (i = 35 ∧ c = 4) ∨ (i = 36 ∧ c = 23) ∨ (i = 37 ∧ c = 1) ∨ (i = 38 ∧ c = 21) ∨ (i = 39 ∧ c = 20)) := by
  have : i = 0 ∨ i = 1 ∨ i = 2 ∨ i = 3 ∨ i = 4 ∨ i = 5 ∨ i = 6 ∨ i = 7 ∨ i = 8 ∨ i = 9 ∨ i = 10 ∨ i = 11 ∨ i = 12 ∨ i = 13 ∨ i = 14 ∨ i = 15 ∨ i = 16 ∨ i = 17 ∨ i = 18 ∨ i = 19 ∨ i = 20 ∨ i = 21 ∨ i = 22 ∨ i = 23 ∨ i = 24 ∨ i = 25 ∨ i = 26 ∨ i = 27 ∨ i = 28 ∨ i = 29 ∨ i = 30 ∨ i = 31 ∨ i = 32 ∨ i = 33 ∨ i = 34 ∨ i = 35 ∨ i = 36 ∨ i = 37 ∨ i = 38 ∨ i = 39 := by omega
  rcases this with rfl | rfl | rfl | rfl | rfl | rfl | rfl | rfl | rfl | rfl | rfl | rfl | rfl | rfl | rfl | rfl | rfl | rfl | rfl | rfl | rfl | rfl | rfl | rfl | rfl | rfl | rfl | rfl | rfl | rfl | rfl | rfl | rfl | rfl | rfl | rfl | rfl | rfl | rfl | rfl
  · have e : c = 0 := k.symm.trans (m0_0 (S := S)).2
    subst e
    simp
  · have e : c = 4 := k.symm.trans (m0_1 (S := S)).2
    subst e
    simp
  · have e : c = 23 := k.symm.trans (m0_2 (S := S)).2
    subst e
    simp
  · have e : c = 5 := k.symm.trans (m0_3 (S := S)).2
    subst e
    simp
  · have e : c = 4 := k.symm.trans (m0_4 (S := S)).2
    subst e
    simp
  · have e : c = 23 := k.symm.trans (m0_5 (S := S)).2
    subst e
    simp
  · have e : c = 24 := k.symm.trans (m0_6 (S := S)).2
    subst e
    simp
  · have e : c = 2 := k.symm.trans (m0_7 (S := S)).2
    subst e
    simp
  · have e : c = 20 := k.symm.trans (m0_8 (S := S)).2
    subst e
    simp
  · have e : c = 2 := k.symm.trans (m0_9 (S := S)).2
    subst e
    simp
  · have e : c = 20 := k.symm.trans (m0_10 (S := S)).2
    subst e
    simp
  · have e : c = 6 := k.symm.trans (m0_11 (S := S)).2
    subst e
    simp
  · have e : c = 20 := k.symm.trans (m0_12 (S := S)).2
    subst e
    simp
  · have e : c = 5 := k.symm.trans (m0_13 (S := S)).2
    subst e
    simp
  · have e : c = 4 := k.symm.trans (m0_14 (S := S)).2
    subst e
    simp
  · have e : c = 23 := k.symm.trans (m0_15 (S := S)).2
    subst e
    simp
  · have e : c = 5 := k.symm.trans (m0_16 (S := S)).2
    subst e
    simp
  · have e : c = 4 := k.symm.trans (m0_17 (S := S)).2
    subst e
    simp
  · have e : c = 23 := k.symm.trans (m0_18 (S := S)).2
    subst e
    simp
  · have e : c = 5 := k.symm.trans (m0_19 (S := S)).2
    subst e
    simp
  · have e : c = 4 := k.symm.trans (m0_20 (S := S)).2
    subst e
    simp
  · have e : c = 23 := k.symm.trans (m0_21 (S := S)).2
    subst e
    simp
  · have e : c = 5 := k.symm.trans (m0_22 (S := S)).2
    subst e
    simp
  · have e : c = 4 := k.symm.trans (m0_23 (S := S)).2
    subst e
    simp
  · have e : c = 23 := k.symm.trans (m0_24 (S := S)).2
    subst e
    simp
  · have e : c = 5 := k.symm.trans (m0_25 (S := S)).2
    subst e
    simp
  · have e : c = 4 := k.symm.trans (m0_26 (S := S)).2
    subst e
    simp
  · have e : c = 23 := k.symm.trans (m0_27 (S := S)).2
    subst e
    simp
  · have e : c = 5 := k.symm.trans (m0_28 (S := S)).2
    subst e
    simp
  · have e : c = 4 := k.symm.trans (m0_29 (S := S)).2
    subst e
    simp
  · have e : c = 23 := k.symm.trans (m0_30 (S := S)).2
    subst e
    simp
  · have e : c = 5 := k.symm.trans (m0_31 (S := S)).2
    subst e
    simp
  · have e : c = 4 := k.symm.trans (m0_32 (S := S)).2
    subst e
    simp
  · have e : c = 23 := k.symm.trans (m0_33 (S := S)).2
    subst e
    simp
  · have e : c = 5 := k.symm.trans (m0_34 (S := S)).2
    subst e
    simp
  · have e : c = 4 := k.symm.trans (m0_35 (S := S)).2
    subst e
    simp
  · have e : c = 23 := k.symm.trans (m0_36 (S := S)).2
    subst e
    simp
  · have e : c = 1 := k.symm.trans (m0_37 (S := S)).2
    subst e
    simp
  · have e : c = 21 := k.symm.trans (m0_38 (S := S)).2
    subst e
    simp
  · have e : c = 20 := k.symm.trans (m0_39 (S := S)).2
    subst e
    simp
set_option maxHeartbeats 4000000 in
theorem wf_mk0 (h : wfS S) : wfS (mkX0 S) := by
  refine wf_pu h (fun i hi k z e => ?_) (fun i hi => ?_)
  · have hi : i < 40 := hi
    show z < S.1 + 40
    have : i = 0 ∨ i = 1 ∨ i = 2 ∨ i = 3 ∨ i = 4 ∨ i = 5 ∨ i = 6 ∨ i = 7 ∨ i = 8 ∨ i = 9 ∨ i = 10 ∨ i = 11 ∨ i = 12 ∨ i = 13 ∨ i = 14 ∨ i = 15 ∨ i = 16 ∨ i = 17 ∨ i = 18 ∨ i = 19 ∨ i = 20 ∨ i = 21 ∨ i = 22 ∨ i = 23 ∨ i = 24 ∨ i = 25 ∨ i = 26 ∨ i = 27 ∨ i = 28 ∨ i = 29 ∨ i = 30 ∨ i = 31 ∨ i = 32 ∨ i = 33 ∨ i = 34 ∨ i = 35 ∨ i = 36 ∨ i = 37 ∨ i = 38 ∨ i = 39 := by omega
    rcases this with rfl | rfl | rfl | rfl | rfl | rfl | rfl | rfl | rfl | rfl | rfl | rfl | rfl | rfl | rfl | rfl | rfl | rfl | rfl | rfl | rfl | rfl | rfl | rfl | rfl | rfl | rfl | rfl | rfl | rfl | rfl | rfl | rfl | rfl | rfl | rfl | rfl | rfl | rfl | rfl
    · have e : (if k = 0 then some (S.1 + 37) else if k = 1 then some (S.1 + 1) else if k = 2 then some (S.1 + 3) else if k = 3 then some (S.1 + 6) else if k = 4 then some (S.1 + 7) else if k = 5 then some (S.1 + 9) else if k = 6 then some (S.1 + 11) else none) = some z := e
      repeat' split at e
      all_goals first | (cases e; omega) | cases e
    · have e : (if k = 0 then some (S.1 + 2) else none) = some z := e
      repeat' split at e
      all_goals first | (cases e; omega) | cases e
    · cases e
    · have e : (if k = 1 then some (S.1 + 4) else none) = some z := e
      repeat' split at e
      all_goals first | (cases e; omega) | cases e
    · have e : (if k = 0 then some (S.1 + 5) else none) = some z := e
      repeat' split at e
      all_goals first | (cases e; omega) | cases e
    · cases e
    · have e : va_up (va_up (va_up (va_up (va_up (va_up (va_up (va_up (fun _ => none) 0 (some (S.1 + 13))) 1 (some (S.1 + 16))) 2 (some (S.1 + 19))) 3 (some (S.1 + 22))) 4 (some (S.1 + 25))) 5 (some (S.1 + 28))) 6 (some (S.1 + 31))) 7 (some (S.1 + 34)) k = some z := e
      unfold va_up at e
      repeat' split at e
      all_goals first | (cases e; omega) | cases e
    · have e : (if k = 2 then some (S.1 + 8) else none) = some z := e
      repeat' split at e
      all_goals first | (cases e; omega) | cases e
    · cases e
    · have e : (if k = 2 then some (S.1 + 10) else none) = some z := e
      repeat' split at e
      all_goals first | (cases e; omega) | cases e
    · cases e
    · have e : (if k = 0 then some (S.1 + 12) else none) = some z := e
      repeat' split at e
      all_goals first | (cases e; omega) | cases e
    · cases e
    · have e : (if k = 1 then some (S.1 + 14) else none) = some z := e
      repeat' split at e
      all_goals first | (cases e; omega) | cases e
    · have e : (if k = 0 then some (S.1 + 15) else none) = some z := e
      repeat' split at e
      all_goals first | (cases e; omega) | cases e
    · cases e
    · have e : (if k = 1 then some (S.1 + 17) else none) = some z := e
      repeat' split at e
      all_goals first | (cases e; omega) | cases e
    · have e : (if k = 0 then some (S.1 + 18) else none) = some z := e
      repeat' split at e
      all_goals first | (cases e; omega) | cases e
    · cases e
    · have e : (if k = 1 then some (S.1 + 20) else none) = some z := e
      repeat' split at e
      all_goals first | (cases e; omega) | cases e
    · have e : (if k = 0 then some (S.1 + 21) else none) = some z := e
      repeat' split at e
      all_goals first | (cases e; omega) | cases e
    · cases e
    · have e : (if k = 1 then some (S.1 + 23) else none) = some z := e
      repeat' split at e
      all_goals first | (cases e; omega) | cases e
    · have e : (if k = 0 then some (S.1 + 24) else none) = some z := e
      repeat' split at e
      all_goals first | (cases e; omega) | cases e
    · cases e
    · have e : (if k = 1 then some (S.1 + 26) else none) = some z := e
      repeat' split at e
      all_goals first | (cases e; omega) | cases e
    · have e : (if k = 0 then some (S.1 + 27) else none) = some z := e
      repeat' split at e
      all_goals first | (cases e; omega) | cases e
    · cases e
    · have e : (if k = 1 then some (S.1 + 29) else none) = some z := e
      repeat' split at e
      all_goals first | (cases e; omega) | cases e
    · have e : (if k = 0 then some (S.1 + 30) else none) = some z := e
      repeat' split at e
      all_goals first | (cases e; omega) | cases e
    · cases e
    · have e : (if k = 1 then some (S.1 + 32) else none) = some z := e
      repeat' split at e
      all_goals first | (cases e; omega) | cases e
    · have e : (if k = 0 then some (S.1 + 33) else none) = some z := e
      repeat' split at e
      all_goals first | (cases e; omega) | cases e
    · cases e
    · have e : (if k = 1 then some (S.1 + 35) else none) = some z := e
      repeat' split at e
      all_goals first | (cases e; omega) | cases e
    · have e : (if k = 0 then some (S.1 + 36) else none) = some z := e
      repeat' split at e
      all_goals first | (cases e; omega) | cases e
    · cases e
    · have e : (if k = 1 then some (S.1 + 38) else if k = 7 then some (S.1 + 39) else none) = some z := e
      repeat' split at e
      all_goals first | (cases e; omega) | cases e
    · cases e
    · cases e
  · have hi : i < 40 := hi
    have r0 : ∀ n : Int, 0 ≤ n → rg 0 0 n := fun n hn => ⟨by rw [i0]; omega, by rw [i0]; exact hn⟩
    have : i = 0 ∨ i = 1 ∨ i = 2 ∨ i = 3 ∨ i = 4 ∨ i = 5 ∨ i = 6 ∨ i = 7 ∨ i = 8 ∨ i = 9 ∨ i = 10 ∨ i = 11 ∨ i = 12 ∨ i = 13 ∨ i = 14 ∨ i = 15 ∨ i = 16 ∨ i = 17 ∨ i = 18 ∨ i = 19 ∨ i = 20 ∨ i = 21 ∨ i = 22 ∨ i = 23 ∨ i = 24 ∨ i = 25 ∨ i = 26 ∨ i = 27 ∨ i = 28 ∨ i = 29 ∨ i = 30 ∨ i = 31 ∨ i = 32 ∨ i = 33 ∨ i = 34 ∨ i = 35 ∨ i = 36 ∨ i = 37 ∨ i = 38 ∨ i = 39 := by omega
    rcases this with rfl | rfl | rfl | rfl | rfl | rfl | rfl | rfl | rfl | rfl | rfl | rfl | rfl | rfl | rfl | rfl | rfl | rfl | rfl | rfl | rfl | rfl | rfl | rfl | rfl | rfl | rfl | rfl | rfl | rfl | rfl | rfl | rfl | rfl | rfl | rfl | rfl | rfl | rfl | rfl
    · refine WA.one (m0_0 (S := S)).2 (fun _ => ?_) (fun z => by omega) (fun z => by omega) (fun z => by omega) (fun z => by omega) (fun z => by omega) (fun z => by omega) (fun z => by omega) (fun z => by omega) (fun z => by omega) (fun z => by omega)
      exact ⟨⟨m0_37, m0_1, m0_3, m0_6, m0_7, m0_9, m0_11⟩, ⟨(nw_gr 0 0).trans rfl, (nw_gr 0 1).trans rfl, (nw_gr 0 2).trans rfl, (nw_gr 0 3).trans rfl, (nw_gr 0 4).trans rfl, (nw_gr 0 5).trans rfl, (nw_gr 0 6).trans rfl⟩, Or.inl ((nw_gr 0 10).trans rfl)⟩
    · refine WA.one (m0_1 (S := S)).2 (fun z => by omega) (fun z => by omega) (fun z => by omega) (fun z => by omega) (fun _ => ?_) (fun z => by omega) (fun z => by omega) (fun z => by omega) (fun z => by omega) (fun z => by omega) (fun z => by omega)
      refine ⟨⟨m0_2, (nw_ln 2).trans rfl⟩, (nw_gr 1 0).trans rfl, ?_⟩
      have e : giC (mkX0 S) (S.1 + 1) 1 = 0 := (nw_gi 1 1).trans rfl
      show rg (giC (mkX0 S) (S.1 + 1) 1) 0 9
      rw [e]
      exact r0 9 (by omega)
    · refine WA.one (m0_2 (S := S)).2 (fun z => by omega) (fun z => by omega) (fun z => by omega) (fun z => by omega) (fun z => by omega) (fun z => by omega) (fun z => by omega) (fun z => by omega) (fun z => by omega) (fun _ => ?_) (fun z => by omega)
      exact fun j => Or.inl ((nw_gr 2 j).trans rfl)
    · refine WA.one (m0_3 (S := S)).2 (fun z => by omega) (fun z => by omega) (fun z => by omega) (fun z => by omega) (fun z => by omega) (fun _ => ?_) (fun z => by omega) (fun z => by omega) (fun z => by omega) (fun z => by omega) (fun z => by omega)
      exact ⟨m0_4, (nw_gr 3 1).trans rfl⟩
    · refine WA.one (m0_4 (S := S)).2 (fun z => by omega) (fun z => by omega) (fun z => by omega) (fun z => by omega) (fun _ => ?_) (fun z => by omega) (fun z => by omega) (fun z => by omega) (fun z => by omega) (fun z => by omega) (fun z => by omega)
      refine ⟨⟨m0_5, (nw_ln 5).trans rfl⟩, (nw_gr 4 0).trans rfl, ?_⟩
      have e : giC (mkX0 S) (S.1 + 4) 1 = 0 := (nw_gi 4 1).trans rfl
      show rg (giC (mkX0 S) (S.1 + 4) 1) 0 9
      rw [e]
      exact r0 9 (by omega)
    · refine WA.one (m0_5 (S := S)).2 (fun z => by omega) (fun z => by omega) (fun z => by omega) (fun z => by omega) (fun z => by omega) (fun z => by omega) (fun z => by omega) (fun z => by omega) (fun z => by omega) (fun _ => ?_) (fun z => by omega)
      exact fun j => Or.inl ((nw_gr 5 j).trans rfl)
    · refine WA.one (m0_6 (S := S)).2 (fun z => by omega) (fun z => by omega) (fun z => by omega) (fun z => by omega) (fun z => by omega) (fun z => by omega) (fun z => by omega) (fun z => by omega) (fun z => by omega) (fun z => by omega) (fun _ => ?_)
      refine ⟨(nw_ln 6).trans rfl, fun j hj => ?_⟩
      have : j = 0 ∨ j = 1 ∨ j = 2 ∨ j = 3 ∨ j = 4 ∨ j = 5 ∨ j = 6 ∨ j = 7 := by omega
      rcases this with rfl | rfl | rfl | rfl | rfl | rfl | rfl | rfl
      · exact ⟨(nw_gr 6 0).trans rfl, m0_13⟩
      · exact ⟨(nw_gr 6 1).trans rfl, m0_16⟩
      · exact ⟨(nw_gr 6 2).trans rfl, m0_19⟩
      · exact ⟨(nw_gr 6 3).trans rfl, m0_22⟩
      · exact ⟨(nw_gr 6 4).trans rfl, m0_25⟩
      · exact ⟨(nw_gr 6 5).trans rfl, m0_28⟩
      · exact ⟨(nw_gr 6 6).trans rfl, m0_31⟩
      · exact ⟨(nw_gr 6 7).trans rfl, m0_34⟩
    · refine WA.one (m0_7 (S := S)).2 (fun z => by omega) (fun z => by omega) (fun _ => ?_) (fun z => by omega) (fun z => by omega) (fun z => by omega) (fun z => by omega) (fun z => by omega) (fun z => by omega) (fun z => by omega) (fun z => by omega)
      have e0 : giC (mkX0 S) (S.1 + 7) 0 = 7 := (nw_gi 7 0).trans rfl
      have e1 : giC (mkX0 S) (S.1 + 7) 1 = 600 := (nw_gi 7 1).trans rfl
      have e3 : giC (mkX0 S) (S.1 + 7) 3 = 0 := (nw_gi 7 3).trans rfl
      have e2 : grC (mkX0 S) (S.1 + 7) 2 = some (S.1 + 8) := (nw_gr 7 2).trans rfl
      have el : lnC (mkX0 S) (S.1 + 8) = 112 := (nw_ln 8).trans rfl
      show W2 (mkX0 S) (S.1 + 7)
      unfold W2
      rw [e0, e1, e2, e3, Option.getD_some, el]
      exact ⟨⟨by decide, rfl, r0 600 (by omega)⟩, ir_so.mpr m0_8, by decide, by decide⟩
    · exact WA.one (m0_8 (S := S)).2 (fun z => by omega) (fun z => by omega) (fun z => by omega) (fun z => by omega) (fun z => by omega) (fun z => by omega) (fun z => by omega) (fun z => by omega) (fun z => by omega) (fun z => by omega) (fun z => by omega)
    · refine WA.one (m0_9 (S := S)).2 (fun z => by omega) (fun z => by omega) (fun _ => ?_) (fun z => by omega) (fun z => by omega) (fun z => by omega) (fun z => by omega) (fun z => by omega) (fun z => by omega) (fun z => by omega) (fun z => by omega)
      have e0 : giC (mkX0 S) (S.1 + 9) 0 = 5 := (nw_gi 9 0).trans rfl
      have e1 : giC (mkX0 S) (S.1 + 9) 1 = 600 := (nw_gi 9 1).trans rfl
      have e3 : giC (mkX0 S) (S.1 + 9) 3 = 0 := (nw_gi 9 3).trans rfl
      have e2 : grC (mkX0 S) (S.1 + 9) 2 = some (S.1 + 10) := (nw_gr 9 2).trans rfl
      have el : lnC (mkX0 S) (S.1 + 10) = 80 := (nw_ln 10).trans rfl
      show W2 (mkX0 S) (S.1 + 9)
      unfold W2
      rw [e0, e1, e2, e3, Option.getD_some, el]
      exact ⟨⟨by decide, rfl, r0 600 (by omega)⟩, ir_so.mpr m0_10, by decide, by decide⟩
    · exact WA.one (m0_10 (S := S)).2 (fun z => by omega) (fun z => by omega) (fun z => by omega) (fun z => by omega) (fun z => by omega) (fun z => by omega) (fun z => by omega) (fun z => by omega) (fun z => by omega) (fun z => by omega) (fun z => by omega)
    · refine WA.one (m0_11 (S := S)).2 (fun z => by omega) (fun z => by omega) (fun z => by omega) (fun z => by omega) (fun z => by omega) (fun z => by omega) (fun _ => ?_) (fun z => by omega) (fun z => by omega) (fun z => by omega) (fun z => by omega)
      refine ⟨⟨m0_12, (nw_ln 12).trans rfl⟩, (nw_gr 11 0).trans rfl, ?_⟩
      have e : giC (mkX0 S) (S.1 + 11) 1 = 0 := (nw_gi 11 1).trans rfl
      show rg (giC (mkX0 S) (S.1 + 11) 1) 0 400
      rw [e]
      exact r0 400 (by omega)
    · exact WA.one (m0_12 (S := S)).2 (fun z => by omega) (fun z => by omega) (fun z => by omega) (fun z => by omega) (fun z => by omega) (fun z => by omega) (fun z => by omega) (fun z => by omega) (fun z => by omega) (fun z => by omega) (fun z => by omega)
    · refine WA.one (m0_13 (S := S)).2 (fun z => by omega) (fun z => by omega) (fun z => by omega) (fun z => by omega) (fun z => by omega) (fun _ => ?_) (fun z => by omega) (fun z => by omega) (fun z => by omega) (fun z => by omega) (fun z => by omega)
      exact ⟨m0_14, (nw_gr 13 1).trans rfl⟩
    · refine WA.one (m0_14 (S := S)).2 (fun z => by omega) (fun z => by omega) (fun z => by omega) (fun z => by omega) (fun _ => ?_) (fun z => by omega) (fun z => by omega) (fun z => by omega) (fun z => by omega) (fun z => by omega) (fun z => by omega)
      refine ⟨⟨m0_15, (nw_ln 15).trans rfl⟩, (nw_gr 14 0).trans rfl, ?_⟩
      have e : giC (mkX0 S) (S.1 + 14) 1 = 0 := (nw_gi 14 1).trans rfl
      show rg (giC (mkX0 S) (S.1 + 14) 1) 0 9
      rw [e]
      exact r0 9 (by omega)
    · refine WA.one (m0_15 (S := S)).2 (fun z => by omega) (fun z => by omega) (fun z => by omega) (fun z => by omega) (fun z => by omega) (fun z => by omega) (fun z => by omega) (fun z => by omega) (fun z => by omega) (fun _ => ?_) (fun z => by omega)
      exact fun j => Or.inl ((nw_gr 15 j).trans rfl)
    · refine WA.one (m0_16 (S := S)).2 (fun z => by omega) (fun z => by omega) (fun z => by omega) (fun z => by omega) (fun z => by omega) (fun _ => ?_) (fun z => by omega) (fun z => by omega) (fun z => by omega) (fun z => by omega) (fun z => by omega)
      exact ⟨m0_17, (nw_gr 16 1).trans rfl⟩
    · refine WA.one (m0_17 (S := S)).2 (fun z => by omega) (fun z => by omega) (fun z => by omega) (fun z => by omega) (fun _ => ?_) (fun z => by omega) (fun z => by omega) (fun z => by omega) (fun z => by omega) (fun z => by omega) (fun z => by omega)
      refine ⟨⟨m0_18, (nw_ln 18).trans rfl⟩, (nw_gr 17 0).trans rfl, ?_⟩
      have e : giC (mkX0 S) (S.1 + 17) 1 = 0 := (nw_gi 17 1).trans rfl
      show rg (giC (mkX0 S) (S.1 + 17) 1) 0 9
      rw [e]
      exact r0 9 (by omega)
    · refine WA.one (m0_18 (S := S)).2 (fun z => by omega) (fun z => by omega) (fun z => by omega) (fun z => by omega) (fun z => by omega) (fun z => by omega) (fun z => by omega) (fun z => by omega) (fun z => by omega) (fun _ => ?_) (fun z => by omega)
      exact fun j => Or.inl ((nw_gr 18 j).trans rfl)
    · refine WA.one (m0_19 (S := S)).2 (fun z => by omega) (fun z => by omega) (fun z => by omega) (fun z => by omega) (fun z => by omega) (fun _ => ?_) (fun z => by omega) (fun z => by omega) (fun z => by omega) (fun z => by omega) (fun z => by omega)
      exact ⟨m0_20, (nw_gr 19 1).trans rfl⟩
    · refine WA.one (m0_20 (S := S)).2 (fun z => by omega) (fun z => by omega) (fun z => by omega) (fun z => by omega) (fun _ => ?_) (fun z => by omega) (fun z => by omega) (fun z => by omega) (fun z => by omega) (fun z => by omega) (fun z => by omega)
      refine ⟨⟨m0_21, (nw_ln 21).trans rfl⟩, (nw_gr 20 0).trans rfl, ?_⟩
      have e : giC (mkX0 S) (S.1 + 20) 1 = 0 := (nw_gi 20 1).trans rfl
      show rg (giC (mkX0 S) (S.1 + 20) 1) 0 9
      rw [e]
      exact r0 9 (by omega)
    · refine WA.one (m0_21 (S := S)).2 (fun z => by omega) (fun z => by omega) (fun z => by omega) (fun z => by omega) (fun z => by omega) (fun z => by omega) (fun z => by omega) (fun z => by omega) (fun z => by omega) (fun _ => ?_) (fun z => by omega)
      exact fun j => Or.inl ((nw_gr 21 j).trans rfl)
    · refine WA.one (m0_22 (S := S)).2 (fun z => by omega) (fun z => by omega) (fun z => by omega) (fun z => by omega) (fun z => by omega) (fun _ => ?_) (fun z => by omega) (fun z => by omega) (fun z => by omega) (fun z => by omega) (fun z => by omega)
      exact ⟨m0_23, (nw_gr 22 1).trans rfl⟩
    · refine WA.one (m0_23 (S := S)).2 (fun z => by omega) (fun z => by omega) (fun z => by omega) (fun z => by omega) (fun _ => ?_) (fun z => by omega) (fun z => by omega) (fun z => by omega) (fun z => by omega) (fun z => by omega) (fun z => by omega)
      refine ⟨⟨m0_24, (nw_ln 24).trans rfl⟩, (nw_gr 23 0).trans rfl, ?_⟩
      have e : giC (mkX0 S) (S.1 + 23) 1 = 0 := (nw_gi 23 1).trans rfl
      show rg (giC (mkX0 S) (S.1 + 23) 1) 0 9
      rw [e]
      exact r0 9 (by omega)
    · refine WA.one (m0_24 (S := S)).2 (fun z => by omega) (fun z => by omega) (fun z => by omega) (fun z => by omega) (fun z => by omega) (fun z => by omega) (fun z => by omega) (fun z => by omega) (fun z => by omega) (fun _ => ?_) (fun z => by omega)
      exact fun j => Or.inl ((nw_gr 24 j).trans rfl)
    · refine WA.one (m0_25 (S := S)).2 (fun z => by omega) (fun z => by omega) (fun z => by omega) (fun z => by omega) (fun z => by omega) (fun _ => ?_) (fun z => by omega) (fun z => by omega) (fun z => by omega) (fun z => by omega) (fun z => by omega)
      exact ⟨m0_26, (nw_gr 25 1).trans rfl⟩
    · refine WA.one (m0_26 (S := S)).2 (fun z => by omega) (fun z => by omega) (fun z => by omega) (fun z => by omega) (fun _ => ?_) (fun z => by omega) (fun z => by omega) (fun z => by omega) (fun z => by omega) (fun z => by omega) (fun z => by omega)
      refine ⟨⟨m0_27, (nw_ln 27).trans rfl⟩, (nw_gr 26 0).trans rfl, ?_⟩
      have e : giC (mkX0 S) (S.1 + 26) 1 = 0 := (nw_gi 26 1).trans rfl
      show rg (giC (mkX0 S) (S.1 + 26) 1) 0 9
      rw [e]
      exact r0 9 (by omega)
    · refine WA.one (m0_27 (S := S)).2 (fun z => by omega) (fun z => by omega) (fun z => by omega) (fun z => by omega) (fun z => by omega) (fun z => by omega) (fun z => by omega) (fun z => by omega) (fun z => by omega) (fun _ => ?_) (fun z => by omega)
      exact fun j => Or.inl ((nw_gr 27 j).trans rfl)
    · refine WA.one (m0_28 (S := S)).2 (fun z => by omega) (fun z => by omega) (fun z => by omega) (fun z => by omega) (fun z => by omega) (fun _ => ?_) (fun z => by omega) (fun z => by omega) (fun z => by omega) (fun z => by omega) (fun z => by omega)
      exact ⟨m0_29, (nw_gr 28 1).trans rfl⟩
    · refine WA.one (m0_29 (S := S)).2 (fun z => by omega) (fun z => by omega) (fun z => by omega) (fun z => by omega) (fun _ => ?_) (fun z => by omega) (fun z => by omega) (fun z => by omega) (fun z => by omega) (fun z => by omega) (fun z => by omega)
      refine ⟨⟨m0_30, (nw_ln 30).trans rfl⟩, (nw_gr 29 0).trans rfl, ?_⟩
      have e : giC (mkX0 S) (S.1 + 29) 1 = 0 := (nw_gi 29 1).trans rfl
      show rg (giC (mkX0 S) (S.1 + 29) 1) 0 9
      rw [e]
      exact r0 9 (by omega)
    · refine WA.one (m0_30 (S := S)).2 (fun z => by omega) (fun z => by omega) (fun z => by omega) (fun z => by omega) (fun z => by omega) (fun z => by omega) (fun z => by omega) (fun z => by omega) (fun z => by omega) (fun _ => ?_) (fun z => by omega)
      exact fun j => Or.inl ((nw_gr 30 j).trans rfl)
    · refine WA.one (m0_31 (S := S)).2 (fun z => by omega) (fun z => by omega) (fun z => by omega) (fun z => by omega) (fun z => by omega) (fun _ => ?_) (fun z => by omega) (fun z => by omega) (fun z => by omega) (fun z => by omega) (fun z => by omega)
      exact ⟨m0_32, (nw_gr 31 1).trans rfl⟩
    · refine WA.one (m0_32 (S := S)).2 (fun z => by omega) (fun z => by omega) (fun z => by omega) (fun z => by omega) (fun _ => ?_) (fun z => by omega) (fun z => by omega) (fun z => by omega) (fun z => by omega) (fun z => by omega) (fun z => by omega)
      refine ⟨⟨m0_33, (nw_ln 33).trans rfl⟩, (nw_gr 32 0).trans rfl, ?_⟩
      have e : giC (mkX0 S) (S.1 + 32) 1 = 0 := (nw_gi 32 1).trans rfl
      show rg (giC (mkX0 S) (S.1 + 32) 1) 0 9
      rw [e]
      exact r0 9 (by omega)
    · refine WA.one (m0_33 (S := S)).2 (fun z => by omega) (fun z => by omega) (fun z => by omega) (fun z => by omega) (fun z => by omega) (fun z => by omega) (fun z => by omega) (fun z => by omega) (fun z => by omega) (fun _ => ?_) (fun z => by omega)
      exact fun j => Or.inl ((nw_gr 33 j).trans rfl)
    · refine WA.one (m0_34 (S := S)).2 (fun z => by omega) (fun z => by omega) (fun z => by omega) (fun z => by omega) (fun z => by omega) (fun _ => ?_) (fun z => by omega) (fun z => by omega) (fun z => by omega) (fun z => by omega) (fun z => by omega)
      exact ⟨m0_35, (nw_gr 34 1).trans rfl⟩
    · refine WA.one (m0_35 (S := S)).2 (fun z => by omega) (fun z => by omega) (fun z => by omega) (fun z => by omega) (fun _ => ?_) (fun z => by omega) (fun z => by omega) (fun z => by omega) (fun z => by omega) (fun z => by omega) (fun z => by omega)
      refine ⟨⟨m0_36, (nw_ln 36).trans rfl⟩, (nw_gr 35 0).trans rfl, ?_⟩
      have e : giC (mkX0 S) (S.1 + 35) 1 = 0 := (nw_gi 35 1).trans rfl
      show rg (giC (mkX0 S) (S.1 + 35) 1) 0 9
      rw [e]
      exact r0 9 (by omega)
    · refine WA.one (m0_36 (S := S)).2 (fun z => by omega) (fun z => by omega) (fun z => by omega) (fun z => by omega) (fun z => by omega) (fun z => by omega) (fun z => by omega) (fun z => by omega) (fun z => by omega) (fun _ => ?_) (fun z => by omega)
      exact fun j => Or.inl ((nw_gr 36 j).trans rfl)
    · refine WA.one (m0_37 (S := S)).2 (fun z => by omega) (fun _ => ?_) (fun z => by omega) (fun z => by omega) (fun z => by omega) (fun z => by omega) (fun z => by omega) (fun z => by omega) (fun z => by omega) (fun z => by omega) (fun z => by omega)
      refine ⟨⟨m0_38, (nw_ln 38).trans rfl, m0_39, (nw_ln 39).trans rfl⟩, ⟨(nw_gr 37 1).trans rfl, (nw_gr 37 7).trans rfl⟩, ?_⟩
      have e : giC (mkX0 S) (S.1 + 37) 0 = 1 := (nw_gi 37 0).trans rfl
      show rg (giC (mkX0 S) (S.1 + 37) 0) 0 200
      rw [e]
      exact ⟨by decide, by decide⟩
    · exact WA.one (m0_38 (S := S)).2 (fun z => by omega) (fun z => by omega) (fun z => by omega) (fun z => by omega) (fun z => by omega) (fun z => by omega) (fun z => by omega) (fun z => by omega) (fun z => by omega) (fun z => by omega) (fun z => by omega)
    · exact WA.one (m0_39 (S := S)).2 (fun z => by omega) (fun z => by omega) (fun z => by omega) (fun z => by omega) (fun z => by omega) (fun z => by omega) (fun z => by omega) (fun z => by omega) (fun z => by omega) (fun z => by omega) (fun z => by omega)
theorem nw_i {q : Nat} (h : S.1 ≤ q) {c : Nat} (k : iK (mkX0 S) q c) : ∃ i, i < 40 ∧ q = S.1 + i := by
  have : q < S.1 + 40 := k.1
  exact ⟨q - S.1, by omega, by omega⟩
theorem CI.mk0 (h : CI noE S T [] col) : CI noE (mkX0 S) T [] (cN S S.1 col) := by
  have wf := wf_mk0 h.wf
  have g : eN S (mkX0 S) := eN.pu S _ _
  have og : ∀ {q : Nat}, q < S.1 → ∀ k, giC (mkX0 S) q k = giC S q k := fun a k => pu_gi a k
  have or : ∀ {q : Nat}, q < S.1 → ∀ k, grC (mkX0 S) q k = grC S q k := fun a k => pu_gr a k
  have old : ∀ q c, q < S.1 → iK (mkX0 S) q c → iK S q c := fun q c a k => ⟨a, by rw [← (g.2 q a).1]; exact k.2⟩
  have lt : ∀ c q, q ∈ T c → q < S.1 := fun c q m => (h.tk c q m).1.1
  have tn : ∀ c, S.1 ≤ c → T c = [] := fun c a => Classical.byContradiction (fun z => by have := h.tz c z; omega)
  refine ⟨wf, fun c n => Nat.lt_of_lt_of_le (h.tz c n) g.1.1, fun c q m => ⟨(h.tk c q m).1.n g, ?_⟩, h.td, h.tn, ⟨List.nodup_nil, fun q m => by cases m⟩, fun P e k => ?_, fun y k => ?_, fun y k j hj => ?_, fun q k j hj => ?_, fun l k => ?_⟩
  · rw [cN_old (lt c q m), cN_old (h.tz c (fun z => by rw [z] at m; cases m))]
    exact (h.tk c q m).2
  · by_cases a : P < S.1
    · have kS := old P 4 a k
      have w := h.tp P e kS
      rw [og a]
      refine ⟨w.1, w.2.1, fun i hi => ?_⟩
      rw [or (h.wf.w4 kS).1.1.1]
      exact w.2.2 i hi
    · obtain ⟨i, hi, rfl⟩ := nw_i (Nat.le_of_not_lt a) k
      rw [tn _ (Nat.le_add_right _ _)]
      have e1 : giC (mkX0 S) (S.1 + i) 1 = 0 := by
        rcases m0_k hi k.2 with ⟨rfl, z⟩ | ⟨rfl, z⟩ | ⟨rfl, z⟩ | ⟨rfl, z⟩ | ⟨rfl, z⟩ | ⟨rfl, z⟩ | ⟨rfl, z⟩ | ⟨rfl, z⟩ | ⟨rfl, z⟩ | ⟨rfl, z⟩ | ⟨rfl, z⟩ | ⟨rfl, z⟩ | ⟨rfl, z⟩ | ⟨rfl, z⟩ | ⟨rfl, z⟩ | ⟨rfl, z⟩ | ⟨rfl, z⟩ | ⟨rfl, z⟩ | ⟨rfl, z⟩ | ⟨rfl, z⟩ | ⟨rfl, z⟩ | ⟨rfl, z⟩ | ⟨rfl, z⟩ | ⟨rfl, z⟩ | ⟨rfl, z⟩ | ⟨rfl, z⟩ | ⟨rfl, z⟩ | ⟨rfl, z⟩ | ⟨rfl, z⟩ | ⟨rfl, z⟩ | ⟨rfl, z⟩ | ⟨rfl, z⟩ | ⟨rfl, z⟩ | ⟨rfl, z⟩ | ⟨rfl, z⟩ | ⟨rfl, z⟩ | ⟨rfl, z⟩ | ⟨rfl, z⟩ | ⟨rfl, z⟩ | ⟨rfl, z⟩
        · omega
        · exact (nw_gi 1 1).trans rfl
        · omega
        · omega
        · exact (nw_gi 4 1).trans rfl
        · omega
        · omega
        · omega
        · omega
        · omega
        · omega
        · omega
        · omega
        · omega
        · exact (nw_gi 14 1).trans rfl
        · omega
        · omega
        · exact (nw_gi 17 1).trans rfl
        · omega
        · omega
        · exact (nw_gi 20 1).trans rfl
        · omega
        · omega
        · exact (nw_gi 23 1).trans rfl
        · omega
        · omega
        · exact (nw_gi 26 1).trans rfl
        · omega
        · omega
        · exact (nw_gi 29 1).trans rfl
        · omega
        · omega
        · exact (nw_gi 32 1).trans rfl
        · omega
        · omega
        · exact (nw_gi 35 1).trans rfl
        · omega
        · omega
        · omega
        · omega
      rw [e1]
      exact ⟨rfl, Nat.zero_le _, fun i hi => by simp at hi⟩
  · by_cases a : y < S.1
    · rw [or a]
      exact (h.tc y (old y 0 a k)).cg _ _ (fun q m => or (lt y q m) _)
    · obtain ⟨i, hi, rfl⟩ := nw_i (Nat.le_of_not_lt a) k
      rw [tn _ (Nat.le_add_right _ _)]
      have e0 : i = 0 := by
        have := m0_k hi k.2
        omega
      subst e0
      exact (nw_gr 0 10).trans rfl
  · by_cases a : y < S.1
    · have k0 := old y 0 a k
      have b := (h.wf.w1 (h.wf.w0 k0).1.1).1.2.2.1.1
      rw [cN_old (by omega)]
      exact h.c0 y k0 j hj
    · obtain ⟨i, hi, rfl⟩ := nw_i (Nat.le_of_not_lt a) k
      have e0 : i = 0 := by
        have := m0_k hi k.2
        omega
      subst e0
      exact cN_new (by omega)
  · by_cases a : q < S.1
    · have k3 := old q 3 a k
      have b := (h.wf.w3 k3).1.2.1.1
      rw [cN_old (by omega), cN_old a]
      exact h.c3 q k3 j hj
    · obtain ⟨i, hi, rfl⟩ := nw_i (Nat.le_of_not_lt a) k
      have := m0_k hi k.2
      omega
  · by_cases a : l < S.1
    · have k2 := old l 2 a k
      rw [or a, cN_old (h.wf.w2 k2).2.1.2.1, cN_old a]
      exact h.c2 l k2
    · obtain ⟨i, hi, rfl⟩ := nw_i (Nat.le_of_not_lt a) k
      have e2 : i = 7 ∨ i = 9 := by
        have := m0_k hi k.2
        omega
      rcases e2 with rfl | rfl
      · have e : grC (mkX0 S) (S.1 + 7) 2 = some (S.1 + 8) := (nw_gr 7 2).trans rfl
        rw [e, Option.getD_some, cN_new (by omega), cN_new (by omega)]
      · have e : grC (mkX0 S) (S.1 + 9) 2 = some (S.1 + 10) := (nw_gr 9 2).trans rfl
        rw [e, Option.getD_some, cN_new (by omega), cN_new (by omega)]
/-- nothing is in it -/
theorem clr_mk0 (h : CI noE S T [] col) : clr (mkX0 S) T S.1 ∧ mT T S.1 = 0 := by
  have tn : ∀ c, S.1 ≤ c → T c = [] := fun c a => Classical.byContradiction (fun z => by have := h.tz c z; omega)
  refine ⟨⟨tn _ (by omega), tn _ (by omega), (nw_gi 3 0).trans rfl, fun p hp => ⟨?_, tn _ (by omega)⟩⟩, ?_⟩
  · have : p = 0 ∨ p = 1 ∨ p = 2 ∨ p = 3 ∨ p = 4 ∨ p = 5 ∨ p = 6 ∨ p = 7 := by omega
    rcases this with rfl | rfl | rfl | rfl | rfl | rfl | rfl | rfl
    · exact (nw_gi 13 0).trans rfl
    · exact (nw_gi 16 0).trans rfl
    · exact (nw_gi 19 0).trans rfl
    · exact (nw_gi 22 0).trans rfl
    · exact (nw_gi 25 0).trans rfl
    · exact (nw_gi 28 0).trans rfl
    · exact (nw_gi 31 0).trans rfl
    · exact (nw_gi 34 0).trans rfl
  · have hs : ∀ n, sT T S.1 n = 0 := by
      intro n
      induction n with
      | zero => rfl
      | succ n ih =>
        rw [sT, ih, tn _ (by omega)]
        rfl
    unfold mT
    rw [hs 8, tn _ (Nat.le_refl _), tn _ (by omega), tn _ (by omega)]
    rfl
end
