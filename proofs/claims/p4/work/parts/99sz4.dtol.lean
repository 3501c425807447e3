/-! ===== the deeds: a result told, whole ===== -/
section
variable {wF : Prop × (Nat → Int32) × Int32 × (Nat → Int32)} {x : Nat} {S S1 S2 S3 S4 : Cst} {T T1 T2 T3 : Nat → List Nat} {F F1 : List Nat} {col c1 c2 c3 : Nat → Nat} {H H2 G R : HS} {N M M2 : Int} {v w3 w4 f25 f27 m hd Y Z o : Int32} {p q : Nat}
theorem ds_21 (a : AS x S T col S1 T1 c1) (r : RR wF N S1 T1 x H) (h : HA H) (bN : 0 ≤ N ∧ N ≤ 1000000) (i b c d : Int32) (z : ¬ H.1 6 = 0) (h7 : (H.1 7).toInt < 600) : DS wF (N + 1) x S T col (f_Y1_perform S1 x 21 i b c d) (f_X11_does H 21 i b c d) := by
  have hra := h.1.ra
  obtain ⟨q, eu, mu, mq, eq⟩ := (rr_top a r.2.1 hra).2 z
  have kq := a.m3 mq
  have e1 : f_Y1_perform S1 x 21 i b c d = f_Y7_announce S1 x (some q) := by
    have e : f_Y1_perform S1 x 21 i b c d = if (f_Y5_top S1 ((grC S1 x 1).getD 0)) = none then (b_Y1_perform_296 S1 x 21 i b c d (f_Y5_top S1 ((grC S1 x 1).getD 0)) 0) else (b_Y1_perform_296 ((f_Y7_announce S1 x (f_Y5_top S1 ((grC S1 x 1).getD 0))).2) x 21 i b c d (f_Y5_top S1 ((grC S1 x 1).getD 0)) ((f_Y7_announce S1 x (f_Y5_top S1 ((grC S1 x 1).getD 0))).1)) := rfl
    rw [e, a.g1, Option.getD_some, eu, if_neg (by simp)]
    rfl
  have e2 : f_X11_does H 21 i b c d = f_X11_told H := rfl
  rw [e1, e2]
  clear e1 e2
  by_cases qu : (H.1 1).toInt < (H.1 3).toInt
  · have q1 : f_Y2_hasQuorum S1 (x + 37) = 0 := by
      unfold f_Y2_hasQuorum b_Y2_hasQuorum_16
      rw [r.1.1.2.1, r.1.1.2.2.2.1, if_pos (iLt.mpr qu)]
    refine ⟨S1, T1, c1, ?_, a.1, ?_⟩
    · unfold f_Y7_announce f_X11_told
      rw [a.g0, Option.getD_some, q1, if_pos rfl, if_neg (fun y => by have := iLe.mp y; omega)]
    · unfold f_X11_told
      rw [if_neg (fun y => by have := iLe.mp y; omega)]
      exact r.up (by omega)
  · have h80 := h.2.2
    have h8 : (H.1 8).toInt < 600 := by omega
    obtain ⟨hd, Y, Z, o, ea, et, k9, k4⟩ := ann_v a r h h8 z qu mu kq
    obtain ⟨S2, c2, f, g, -, r2⟩ := keepR_v a r ⟨h80.1, h8⟩ (H.2 14 (f_X11_top H).1.toNatClampNeg) o Y Z
    have a2 : AS x S T col S2 T1 c2 := a.led (Or.inr rfl) g
    rw [ea, f, et]
    obtain ⟨K, hK⟩ : ∃ K, K = kpH H (H.2 14 (f_X11_top H).1.toNatClampNeg) o Y Z := ⟨_, rfl⟩
    rw [← hK] at r2 ⊢
    have K1 : ∀ j, j ≠ 8 → K.1 j = H.1 j := fun j y => by rw [hK]; exact if_neg y
    have K8 : K.1 8 = H.1 8 + 1 := by rw [hK]; rfl
    have K2 : ∀ k, k ≠ 41 → K.2 k = H.2 k := fun k y => by rw [hK]; exact kpH_q _ _ _ _ _ y
    have hKi : HI (H.1 7).toInt K := by
      rw [hK]
      exact hi_8 (hi_41 (hi_41 (hi_41 (hi_41 (hi_41 h.1 _ _) _ _) _ _) _ _) _ _) _
    clear hK
    obtain ⟨G, hG⟩ : ∃ G, G = sI K 5 (-1) := ⟨_, rfl⟩
    rw [← hG]
    have G1 : ∀ j, j ≠ 5 → G.1 j = K.1 j := fun j y => by rw [hG]; exact if_neg y
    have G5 : G.1 5 = -1 := by rw [hG]; rfl
    have G2 : G.2 = K.2 := by rw [hG]; rfl
    have hGi : HI (H.1 7).toInt G := by rw [hG]; exact hi_5 hKi _
    have r3 : RR wF N S2 T1 x (sI G 5 (K.1 5)) := by
      rw [hG, sI_bk]
      exact r2
    clear hG
    have G6 : G.1 6 = H.1 6 := (G1 6 (by decide)).trans (K1 6 (by decide))
    have et' : (f_X11_top G).1 = (f_X11_top H).1 := by
      show G.2 31 (G.1 6 - 1).toNatClampNeg = H.2 31 (H.1 6 - 1).toNatClampNeg
      rw [G6, G2, K2 31 (by decide)]
    have ek : G.2 14 (f_X11_top G).1.toNatClampNeg = H.2 14 (f_X11_top H).1.toNatClampNeg := by rw [et', G2, K2 14 (by decide)]
    have mu2 : mR S2 q G (f_X11_top G).1.toNatClampNeg := by
      obtain ⟨q', -, m', -, e'⟩ := (rr_top a2 r3.2.1 (hi_5 hGi (K.1 5)).ra).2 (by show ¬ G.1 6 = 0; rw [G6]; exact z)
      have e' : q' = (T1 (x + 1)).getD (G.1 6 - 1).toNatClampNeg 0 := e'
      rw [e', G6, ← eq] at m'
      exact m'
    have eq2 : q = (T1 (x + 1)).getD (G.1 6 - 1).toNatClampNeg 0 := by rw [G6]; exact eq
    have z2 : ¬ G.1 6 = 0 := by rw [G6]; exact z
    have bM : 0 ≤ (H.1 7).toInt ∧ (H.1 7).toInt ≤ 1000000 := by omega
    have h98 : (G.1 9).toInt + 1 ≤ (G.1 8).toInt ∧ (G.1 8).toInt ≤ 1000 := by
      have p9 := r.2.2.2.2.1.1.2.1
      have e8 := iAdd (x := H.1 8) (y := 1) (by rw [i1]; omega) (by rw [i1]; omega)
      rw [i1] at e8
      rw [G1 9 (by decide), K1 9 (by decide), G1 8 (by decide), K8, e8]
      omega
    unfold b_Y7_announce_89a
    by_cases o1 : o = 1
    · rw [if_pos o1]
      subst o1
      obtain ⟨S4, T4, q1, q2, q3⟩ := car_B a2 r3 hGi bM bN.2 z2 G5 h98 mu2 mq eq2 hd Y Z (by rw [ek]; exact k9 rfl)
      rw [ek, et'] at q3
      refine ⟨S4, T4, c2, q1, q2, ?_⟩
      rw [if_pos rfl]
      exact q3
    · rw [if_neg o1]
      have hr := hGi.ra
      have p1 := pend_pos hr z2
      obtain ⟨S4, T4, q1, q2, q3⟩ := p173 (o := o) a2 r3 hr z2 G5 (fun o4 => by
        have tw := two_p hGi p1 (by rw [ek, k4 o4]; decide)
        have em := topN p1
        refine ⟨(goes_i hGi p1).ra, fun y => ?_⟩
        rw [goes_e] at y
        have y : G.1 6 - 1 = 0 := y
        have := congrArg Int32.toInt y
        rw [i0] at this
        omega) (some q) hd Y Z 0
      refine ⟨S4, T4, c2, ?_, q2, ?_⟩
      · unfold b_Y7_announce_100 b_Y7_announce_122 b_Y7_announce_142 b_Y7_announce_163
        rw [if_pos rfl, if_pos rfl, if_pos rfl, if_pos rfl]
        exact q1
      · rw [if_neg o1]
        exact q3.up (by omega)
end
