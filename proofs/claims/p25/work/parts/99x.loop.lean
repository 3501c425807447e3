set_option maxHeartbeats 4000000 in
set_option maxRecDepth 100000 in
/-- THE LAW from its loop on -/
theorem law_loop {p : Program} {l : Launch} {e : Env} {s : State} {m : MethodId} {below : List Frame} {meth : Method} {c : Code} {b L : Nat} {xs : Nat → Int32} (hL : L ≤ 3584) (C0 : lw_At p s m meth c b L xs) {G : va_G} {K : Nat → ClassId} (hK : va_K G vwCl (wTY K) s) (hE : wE s) {nt : Nat} (hN : zst nt (fun q : Nat => s.heap.size ≤ q) s s.heap) {m0 h1 h2 : Nat} {gm g1 g2 : Nat → Nat} {CM SM : Nat} (hCM : CM ≤ 10000) (hSM : SM ≤ 1000000) : ∀ (n : Nat) (i : Int32), 0 ≤ i.toInt → i.toInt ≤ 3584 → (L : Int) - i.toInt < n → lInv p l e s m below meth c b G K m0 gm h1 g1 h2 g2 CM SM 18 i := by
  obtain ⟨hx, hb, hr, hml, hown, hts, hX, hbl, hlocks, hgv⟩ := id C0
  have hA : ∀ q : Nat, s.heap.size ≤ q → (fun q : Nat => s.heap.size ≤ q) q := fun _ h => h
  have hbA : ¬ (fun q : Nat => s.heap.size ≤ q) b := Nat.not_le.mpr hbl
  have eL : (Int32.ofNat L).toInt = L := Int32.toInt_ofNat_of_lt (by omega)
  have e7 : (7 : Int32).toInt = 7 := by decide
  have e7' := iSub (x := Int32.ofNat L) (y := 7) (by rw [eL, e7]; omega) (by rw [eL, e7]; omega)
  rw [eL, e7] at e7'
  intro n
  induction n with
  | zero =>
    intro i h0 h1' h2' S ad M H locs ls hRL hKI hMI hP hD hS hl
    have bd := ki_bd hKI
    refine lv_iload_n hx hb dL_law_18 rfl (lv_at hl 0 rfl) ?_
    refine lv_aload_n hx hb dL_law_19 rfl (lv_at hl 3 rfl) ?_
    refine va_slen hx hb hX hbl hbA hS dL_law_20 ?_
    refine lv_bipush (v := 7) hx hb dL_law_21 (by decide) ?_
    refine lv_isub hx hb dL_law_23 ?_
    refine lv_icmp_gt (tgt := 1273) hx hb dL_law_24 (by decide) (fun _ => ?_) (fun c_ => absurd (iLt.mpr (by omega)) c_)
    refine lv_iconst (v := 1) hx hb dL_law_1273 (by decide) ?_
    refine va_forget (fun q hq => hS.2.2 q hq) ?_
    refine W.widen (k := 600000) (n := 7302249) (by omega) (by omega) ?_
    exact lw_ret hx hb hr hlocks dL_law_1274
  | succ n ih =>
    intro i h0 h1' h2' S ad M H locs ls hRL hKI hMI hP hD hS hl
    have bd := ki_bd hKI
    refine lv_iload_n hx hb dL_law_18 rfl (lv_at hl 0 rfl) ?_
    refine lv_aload_n hx hb dL_law_19 rfl (lv_at hl 3 rfl) ?_
    refine va_slen hx hb hX hbl hbA hS dL_law_20 ?_
    refine lv_bipush (v := 7) hx hb dL_law_21 (by decide) ?_
    refine lv_isub hx hb dL_law_23 ?_
    refine lv_icmp_gt (tgt := 1273) hx hb dL_law_24 (by decide) (fun _ => ?_) (fun c_ => ?_)
    · refine lv_iconst (v := 1) hx hb dL_law_1273 (by decide) ?_
      refine va_forget (fun q hq => hS.2.2 q hq) ?_
      refine W.widen (k := 600000) (n := 7302249) (by omega) (by omega) ?_
      exact lw_ret hx hb hr hlocks dL_law_1274
    · have c_ := mt iLt.mpr c_
      rw [e7'] at c_
      have ei := iAdd (x := i) (y := 7) (by rw [e7]; omega) (by rw [e7]; omega)
      rw [e7] at ei
      have hin : ∀ j : Int32, 0 ≤ j.toInt → j.toInt ≤ 6 → vp_in (i + j) L := fun j j0 j6 => by
        have ej := iAdd (x := i) (y := j) (by omega) (by omega)
        exact vIn (by omega) (by omega)
      have next := law_tail C0 (ih (i + 7) (by omega) (by omega) (by omega))
      have hin0 : vp_in i L := vIn (by omega) (by omega)
      refine lv_aload_n hx hb dL_law_27 rfl (lv_at hl 3 rfl) ?_
      refine lv_iload_n hx hb dL_law_28 rfl (lv_at hl 0 rfl) ?_
      refine va_sld hx hb hX hbl hbA hS hin0 dL_law_29 ?_
      refine lv_bipush (v := 63) hx hb dL_law_30 (by decide) ?_
      refine lv_iand hx hb dL_law_32 ?_
      refine lv_topi (fun x ex => ?_)
      rcases (show (x.toInt < 0 ∨ 40 < x.toInt) ∨ x.toInt = 0 ∨ x.toInt = 1 ∨ x.toInt = 2 ∨ x.toInt = 3 ∨ x.toInt = 4 ∨ x.toInt = 5 ∨ x.toInt = 6 ∨ x.toInt = 7 ∨ x.toInt = 8 ∨ x.toInt = 9 ∨ x.toInt = 10 ∨ x.toInt = 11 ∨ x.toInt = 12 ∨ x.toInt = 13 ∨ x.toInt = 14 ∨ x.toInt = 15 ∨ x.toInt = 16 ∨ x.toInt = 17 ∨ x.toInt = 18 ∨ x.toInt = 19 ∨ x.toInt = 20 ∨ x.toInt = 21 ∨ x.toInt = 22 ∨ x.toInt = 23 ∨ x.toInt = 24 ∨ x.toInt = 25 ∨ x.toInt = 26 ∨ x.toInt = 27 ∨ x.toInt = 28 ∨ x.toInt = 29 ∨ x.toInt = 30 ∨ x.toInt = 31 ∨ x.toInt = 32 ∨ x.toInt = 33 ∨ x.toInt = 34 ∨ x.toInt = 35 ∨ x.toInt = 36 ∨ x.toInt = 37 ∨ x.toInt = 38 ∨ x.toInt = 39 ∨ x.toInt = 40 from by omega) with c1 | c1 | c1 | c1 | c1 | c1 | c1 | c1 | c1 | c1 | c1 | c1 | c1 | c1 | c1 | c1 | c1 | c1 | c1 | c1 | c1 | c1 | c1 | c1 | c1 | c1 | c1 | c1 | c1 | c1 | c1 | c1 | c1 | c1 | c1 | c1 | c1 | c1 | c1 | c1 | c1 | c1
      · refine lv_tableOut (tgt := 1267) hx hb dL_law_33 c1 (by decide) ?_
        exact next S ad M H locs ls hRL hKI hMI hP hD hS hl
      · obtain rfl : x = 0 := wIs (b := 0) (by decide) c1
        refine lv_tableIn (off := 179) (tgt := 212) hx hb dL_law_33 (by decide) (by decide) (by decide) (by decide) ?_
        exact law_0 C0 hK hE hN hCM hSM hin next S ad M H locs ls hRL hKI hMI hP hD hS hl
      · obtain rfl : x = 1 := wIs (b := 1) (by decide) c1
        refine lv_tableIn (off := 202) (tgt := 235) hx hb dL_law_33 (by decide) (by decide) (by decide) (by decide) ?_
        exact law_1 C0 hK hE hN hCM hSM hin next S ad M H locs ls hRL hKI hMI hP hD hS hl
      · obtain rfl : x = 2 := wIs (b := 2) (by decide) c1
        refine lv_tableIn (off := 225) (tgt := 258) hx hb dL_law_33 (by decide) (by decide) (by decide) (by decide) ?_
        exact law_2 C0 hK hE hN hCM hSM hin next S ad M H locs ls hRL hKI hMI hP hD hS hl
      · obtain rfl : x = 3 := wIs (b := 3) (by decide) c1
        refine lv_tableIn (off := 248) (tgt := 281) hx hb dL_law_33 (by decide) (by decide) (by decide) (by decide) ?_
        exact law_3 C0 hK hE hN hCM hSM hin next S ad M H locs ls hRL hKI hMI hP hD hS hl
      · obtain rfl : x = 4 := wIs (b := 4) (by decide) c1
        refine lv_tableIn (off := 271) (tgt := 304) hx hb dL_law_33 (by decide) (by decide) (by decide) (by decide) ?_
        exact law_4 C0 hK hE hN hCM hSM hin next S ad M H locs ls hRL hKI hMI hP hD hS hl
      · obtain rfl : x = 5 := wIs (b := 5) (by decide) c1
        refine lv_tableIn (off := 294) (tgt := 327) hx hb dL_law_33 (by decide) (by decide) (by decide) (by decide) ?_
        exact law_5 C0 hK hE hN hCM hSM hin next S ad M H locs ls hRL hKI hMI hP hD hS hl
      · obtain rfl : x = 6 := wIs (b := 6) (by decide) c1
        refine lv_tableIn (off := 327) (tgt := 360) hx hb dL_law_33 (by decide) (by decide) (by decide) (by decide) ?_
        exact law_6 C0 hK hE hN hCM hSM hin next S ad M H locs ls hRL hKI hMI hP hD hS hl
      · obtain rfl : x = 7 := wIs (b := 7) (by decide) c1
        refine lv_tableIn (off := 350) (tgt := 383) hx hb dL_law_33 (by decide) (by decide) (by decide) (by decide) ?_
        exact law_7 C0 hK hE hN hCM hSM hin next S ad M H locs ls hRL hKI hMI hP hD hS hl
      · obtain rfl : x = 8 := wIs (b := 8) (by decide) c1
        refine lv_tableIn (off := 373) (tgt := 406) hx hb dL_law_33 (by decide) (by decide) (by decide) (by decide) ?_
        exact law_8 C0 hK hE hN hCM hSM hin next S ad M H locs ls hRL hKI hMI hP hD hS hl
      · obtain rfl : x = 9 := wIs (b := 9) (by decide) c1
        refine lv_tableIn (off := 386) (tgt := 419) hx hb dL_law_33 (by decide) (by decide) (by decide) (by decide) ?_
        exact law_9 C0 hK hE hN hCM hSM hin next S ad M H locs ls hRL hKI hMI hP hD hS hl
      · obtain rfl : x = 10 := wIs (b := 10) (by decide) c1
        refine lv_tableIn (off := 409) (tgt := 442) hx hb dL_law_33 (by decide) (by decide) (by decide) (by decide) ?_
        exact law_10 C0 hK hE hN hCM hSM hin next S ad M H locs ls hRL hKI hMI hP hD hS hl
      · obtain rfl : x = 11 := wIs (b := 11) (by decide) c1
        refine lv_tableIn (off := 432) (tgt := 465) hx hb dL_law_33 (by decide) (by decide) (by decide) (by decide) ?_
        exact law_11 C0 hK hE hN hCM hSM hin next S ad M H locs ls hRL hKI hMI hP hD hS hl
      · obtain rfl : x = 12 := wIs (b := 12) (by decide) c1
        refine lv_tableIn (off := 465) (tgt := 498) hx hb dL_law_33 (by decide) (by decide) (by decide) (by decide) ?_
        exact law_12 C0 hK hE hN hCM hSM hin next S ad M H locs ls hRL hKI hMI hP hD hS hl
      · obtain rfl : x = 13 := wIs (b := 13) (by decide) c1
        refine lv_tableIn (off := 518) (tgt := 551) hx hb dL_law_33 (by decide) (by decide) (by decide) (by decide) ?_
        exact law_13 C0 hK hE hN hCM hSM hin next S ad M H locs ls hRL hKI hMI hP hD hS hl
      · obtain rfl : x = 14 := wIs (b := 14) (by decide) c1
        refine lv_tableIn (off := 541) (tgt := 574) hx hb dL_law_33 (by decide) (by decide) (by decide) (by decide) ?_
        exact law_14 C0 hK hE hN hCM hSM hin next S ad M H locs ls hRL hKI hMI hP hD hS hl
      · obtain rfl : x = 15 := wIs (b := 15) (by decide) c1
        refine lv_tableIn (off := 564) (tgt := 597) hx hb dL_law_33 (by decide) (by decide) (by decide) (by decide) ?_
        exact law_15 C0 hK hE hN hCM hSM hin next S ad M H locs ls hRL hKI hMI hP hD hS hl
      · obtain rfl : x = 16 := wIs (b := 16) (by decide) c1
        refine lv_tableIn (off := 587) (tgt := 620) hx hb dL_law_33 (by decide) (by decide) (by decide) (by decide) ?_
        exact law_16 C0 hK hE hN hCM hSM hin next S ad M H locs ls hRL hKI hMI hP hD hS hl
      · obtain rfl : x = 17 := wIs (b := 17) (by decide) c1
        refine lv_tableIn (off := 610) (tgt := 643) hx hb dL_law_33 (by decide) (by decide) (by decide) (by decide) ?_
        exact law_17 C0 hK hE hN hCM hSM hin next S ad M H locs ls hRL hKI hMI hP hD hS hl
      · obtain rfl : x = 18 := wIs (b := 18) (by decide) c1
        refine lv_tableIn (off := 643) (tgt := 676) hx hb dL_law_33 (by decide) (by decide) (by decide) (by decide) ?_
        exact law_18 C0 hK hE hN hCM hSM hin next S ad M H locs ls hRL hKI hMI hP hD hS hl
      · obtain rfl : x = 19 := wIs (b := 19) (by decide) c1
        refine lv_tableIn (off := 666) (tgt := 699) hx hb dL_law_33 (by decide) (by decide) (by decide) (by decide) ?_
        exact law_19 C0 hK hE hN hCM hSM hin next S ad M H locs ls hRL hKI hMI hP hD hS hl
      · obtain rfl : x = 20 := wIs (b := 20) (by decide) c1
        refine lv_tableIn (off := 679) (tgt := 712) hx hb dL_law_33 (by decide) (by decide) (by decide) (by decide) ?_
        exact law_20 C0 hK hE hN hCM hSM hin next S ad M H locs ls hRL hKI hMI hP hD hS hl
      · obtain rfl : x = 21 := wIs (b := 21) (by decide) c1
        refine lv_tableIn (off := 702) (tgt := 735) hx hb dL_law_33 (by decide) (by decide) (by decide) (by decide) ?_
        exact law_21 C0 hK hE hN hCM hSM hin next S ad M H locs ls hRL hKI hMI hP hD hS hl
      · obtain rfl : x = 22 := wIs (b := 22) (by decide) c1
        refine lv_tableIn (off := 715) (tgt := 748) hx hb dL_law_33 (by decide) (by decide) (by decide) (by decide) ?_
        exact law_22 C0 hK hE hN hCM hSM hin next S ad M H locs ls hRL hKI hMI hP hD hS hl
      · obtain rfl : x = 23 := wIs (b := 23) (by decide) c1
        refine lv_tableIn (off := 728) (tgt := 761) hx hb dL_law_33 (by decide) (by decide) (by decide) (by decide) ?_
        exact law_23 C0 hK hE hN hCM hSM hin next S ad M H locs ls hRL hKI hMI hP hD hS hl
      · obtain rfl : x = 24 := wIs (b := 24) (by decide) c1
        refine lv_tableIn (off := 751) (tgt := 784) hx hb dL_law_33 (by decide) (by decide) (by decide) (by decide) ?_
        exact law_24 C0 hK hE hN hCM hSM hin next S ad M H locs ls hRL hKI hMI hP hD hS hl
      · obtain rfl : x = 25 := wIs (b := 25) (by decide) c1
        refine lv_tableIn (off := 764) (tgt := 797) hx hb dL_law_33 (by decide) (by decide) (by decide) (by decide) ?_
        exact law_25 C0 hK hE hN hCM hSM hin next S ad M H locs ls hRL hKI hMI hP hD hS hl
      · obtain rfl : x = 26 := wIs (b := 26) (by decide) c1
        refine lv_tableIn (off := 797) (tgt := 830) hx hb dL_law_33 (by decide) (by decide) (by decide) (by decide) ?_
        exact law_26 C0 hK hE hN hCM hSM hin next S ad M H locs ls hRL hKI hMI hP hD hS hl
      · obtain rfl : x = 27 := wIs (b := 27) (by decide) c1
        refine lv_tableIn (off := 830) (tgt := 863) hx hb dL_law_33 (by decide) (by decide) (by decide) (by decide) ?_
        exact law_27 C0 hK hE hN hCM hSM hin next S ad M H locs ls hRL hKI hMI hP hD hS hl
      · obtain rfl : x = 28 := wIs (b := 28) (by decide) c1
        refine lv_tableIn (off := 853) (tgt := 886) hx hb dL_law_33 (by decide) (by decide) (by decide) (by decide) ?_
        exact law_28 C0 hK hE hN hCM hSM hin next S ad M H locs ls hRL hKI hMI hP hD hS hl
      · obtain rfl : x = 29 := wIs (b := 29) (by decide) c1
        refine lv_tableIn (off := 886) (tgt := 919) hx hb dL_law_33 (by decide) (by decide) (by decide) (by decide) ?_
        exact law_29 C0 hK hE hN hCM hSM hin next S ad M H locs ls hRL hKI hMI hP hD hS hl
      · obtain rfl : x = 30 := wIs (b := 30) (by decide) c1
        refine lv_tableIn (off := 919) (tgt := 952) hx hb dL_law_33 (by decide) (by decide) (by decide) (by decide) ?_
        exact law_30 C0 hK hE hN hCM hSM hin next S ad M H locs ls hRL hKI hMI hP hD hS hl
      · obtain rfl : x = 31 := wIs (b := 31) (by decide) c1
        refine lv_tableIn (off := 952) (tgt := 985) hx hb dL_law_33 (by decide) (by decide) (by decide) (by decide) ?_
        exact law_31 C0 hK hE hN hCM hSM hin next S ad M H locs ls hRL hKI hMI hP hD hS hl
      · obtain rfl : x = 32 := wIs (b := 32) (by decide) c1
        refine lv_tableIn (off := 975) (tgt := 1008) hx hb dL_law_33 (by decide) (by decide) (by decide) (by decide) ?_
        exact law_32 C0 hK hE hN hCM hSM hin next S ad M H locs ls hRL hKI hMI hP hD hS hl
      · obtain rfl : x = 33 := wIs (b := 33) (by decide) c1
        refine lv_tableIn (off := 998) (tgt := 1031) hx hb dL_law_33 (by decide) (by decide) (by decide) (by decide) ?_
        exact law_33 C0 hK hE hN hCM hSM hin next S ad M H locs ls hRL hKI hMI hP hD hS hl
      · obtain rfl : x = 34 := wIs (b := 34) (by decide) c1
        refine lv_tableIn (off := 1031) (tgt := 1064) hx hb dL_law_33 (by decide) (by decide) (by decide) (by decide) ?_
        exact law_34 C0 hK hE hN hCM hSM hin next S ad M H locs ls hRL hKI hMI hP hD hS hl
      · obtain rfl : x = 35 := wIs (b := 35) (by decide) c1
        refine lv_tableIn (off := 1074) (tgt := 1107) hx hb dL_law_33 (by decide) (by decide) (by decide) (by decide) ?_
        exact law_35 C0 hK hE hN hCM hSM hin next S ad M H locs ls hRL hKI hMI hP hD hS hl
      · obtain rfl : x = 36 := wIs (b := 36) (by decide) c1
        refine lv_tableIn (off := 1087) (tgt := 1120) hx hb dL_law_33 (by decide) (by decide) (by decide) (by decide) ?_
        exact law_36 C0 hK hE hN hCM hSM hin next S ad M H locs ls hRL hKI hMI hP hD hS hl
      · obtain rfl : x = 37 := wIs (b := 37) (by decide) c1
        refine lv_tableIn (off := 1162) (tgt := 1195) hx hb dL_law_33 (by decide) (by decide) (by decide) (by decide) ?_
        exact law_37 C0 hK hE hN hCM hSM hin next S ad M H locs ls hRL hKI hMI hP hD hS hl
      · obtain rfl : x = 38 := wIs (b := 38) (by decide) c1
        refine lv_tableIn (off := 1175) (tgt := 1208) hx hb dL_law_33 (by decide) (by decide) (by decide) (by decide) ?_
        exact law_38 C0 hK hE hN hCM hSM hin next S ad M H locs ls hRL hKI hMI hP hD hS hl
      · obtain rfl : x = 39 := wIs (b := 39) (by decide) c1
        refine lv_tableIn (off := 1188) (tgt := 1221) hx hb dL_law_33 (by decide) (by decide) (by decide) (by decide) ?_
        exact law_39 C0 hK hE hN hCM hSM hin next S ad M H locs ls hRL hKI hMI hP hD hS hl
      · obtain rfl : x = 40 := wIs (b := 40) (by decide) c1
        refine lv_tableIn (off := 1211) (tgt := 1244) hx hb dL_law_33 (by decide) (by decide) (by decide) (by decide) ?_
        exact law_40 C0 hK hE hN hCM hSM hin next S ad M H locs ls hRL hKI hMI hP hD hS hl
