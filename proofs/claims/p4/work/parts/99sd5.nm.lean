section
variable {wF : Prop × (Nat → Int32) × Int32 × (Nat → Int32)} {E E0 : Nat → Prop} {x : Nat} {S S1 S2 S3 : Cst} {T T1 T2 : Nat → List Nat} {F F1 : List Nat} {col c1 : Nat → Nat} {H H2 H3 : HS} {N : Int}
theorem mk4_kd (S : Cst) : kdC (mkX4 S) (S.1 + 1) = 6 ∧ kdC (mkX4 S) (S.1 + 2) = 20 ∧ kdC (mkX4 S) (S.1 + 3) = 22 := ⟨(nw_kd 1).trans rfl, (nw_kd 2).trans rfl, (nw_kd 3).trans rfl⟩
theorem mk4_gi (S : Cst) (n : Nat) : giC (mkX4 S) (S.1 + 3) n = 0 ∧ giC (mkX4 S) S.1 14 = 0 := ⟨(nw_gi 3 n).trans rfl, (nw_gi 0 14).trans rfl⟩
theorem mk4_vC (S : Cst) : ∀ n, vCn (mkX4 S) S.1 n = 0 := by
  intro n
  induction n with
  | zero => rfl
  | succ n ih => rw [vCn, ih, if_pos (mk4_gi S n).1]
/-- a motion made anew: its numbers, and which motions there are -/
theorem newMot_v (h : Sst E x S T F col S1 T1 F1 c1) (hb : T1 x = [] → mT T1 x + F1.length ≤ 89) (v : Int32) (sv : sV S1) : ∃ S2 T2 q c2, f_Y0_newMotion S1 x v = (some q, S2) ∧ Sst E x S T F col S2 T2 (q :: F1) c2 ∧ gX (dM q) S1 S2 ∧ nM S2 q v ∧ giC S2 (q + 1) 1 = 0 ∧ (∀ c, c ≠ x → T2 c = T1 c) ∧ (∀ z, iK S2 z 3 → z = q ∨ iK S1 z 3) ∧ iK S2 q 3 ∧ ∀ c, c ≠ x → q ∉ T1 c := by
  unfold f_Y0_newMotion
  have cx := h.ci.tc x h.k1
  cases hT : T1 x with
  | nil =>
    rw [hT] at cx
    have z : grC S1 x 10 = none := cx
    have m := h.mk (hb hT)
    have km : iK (mkX4 S1) S1.1 3 := (wf_mk4 h.ci.wf).2
    obtain ⟨S2, f1, f2, f3, f4, f5⟩ := renew_v m km (cN_new (Nat.le_refl _)) v (by rw [mk4_vC, (mk4_gi S1 0).2]; exact i0)
    refine ⟨S2, T1, S1.1, _, ?_, f2.1, ?_, f3, f4, fun _ _ => rfl, fun y ky => ?_, f2.2.2.1, fun c _ m' => ?_⟩
    · rw [if_pos z]
      simp only [b_Y0_newMotion_38a, b_Y0_newMotion_33, b_Y0_newMotion_16a, Option.getD_some, f1]
    · exact ⟨(eN.pu S1 _ _ : eN S1 (mkX4 S1)).tr f2.2.1.1, fun z a b c k => by
        have a' : z < (mkX4 S1).1 := Nat.lt_of_lt_of_le a (Nat.le_add_right _ _)
        have ek : kdC (mkX4 S1) z = kdC S1 z := ((eN.pu S1 _ _).2 z a).1
        rw [f2.2.1.2.1 z a' (by rw [ek]; exact b) c]
        exact pu_gi a k, gL.tr (eN.pu S1 _ _ : eN S1 (mkX4 S1)) (fun l a _ => pu_gr a 2) f2.2.1.2.2⟩
    · by_cases a : y < S1.1
      · have g : eN S1 S2 := (eN.pu S1 _ _ : eN S1 (mkX4 S1)).tr f2.2.1.1
        exact Or.inr ⟨a, by rw [← (g.2 y a).1]; exact ky.2⟩
      · have b : y < S1.1 + 4 := by
          have := ky.1
          rw [f5] at this
          exact this
        have ek : kdC S2 y = kdC (mkX4 S1) y := (f2.2.1.1.2 y b).1
        obtain ⟨i, rfl⟩ : ∃ i, y = S1.1 + i := ⟨y - S1.1, by omega⟩
        have kk := ky.2
        rw [ek] at kk
        rcases (show i = 0 ∨ i = 1 ∨ i = 2 ∨ i = 3 by omega) with rfl | rfl | rfl | rfl
        · exact Or.inl rfl
        · rw [(mk4_kd S1).1] at kk
          exact absurd kk (by decide)
        · rw [(mk4_kd S1).2.1] at kk
          exact absurd kk (by decide)
        · rw [(mk4_kd S1).2.2] at kk
          exact absurd kk (by decide)
    · have := (h.ci.tk c _ m').1.1
      omega
  | cons q L =>
    rw [hT] at cx
    have z : grC S1 x 10 = some q := cx.1
    have m := h.pop hT
    have mq : q ∈ T1 x := by rw [hT]; exact List.mem_cons_self ..
    have kq := (h.ci.tk x q mq).1
    have kq' := (m.ci.tf.2 q (List.mem_cons_self ..)).1
    have hv : (giC (srC (srC S1 x 10 (grC S1 q 15)) q 15 none) q 14).toInt = vCn (srC (srC S1 x 10 (grC S1 q 15)) q 15 none) q 200 := by
      rw [vCn_cg (S1 := S1) (fun k => by rw [gi_sr, gi_sr]), gi_sr, gi_sr]
      exact sv q kq
    obtain ⟨S2, f1, f2, f3, f4, f5⟩ := renew_v m kq' (m.fc q (List.mem_cons_self ..)) v hv
    refine ⟨S2, _, q, _, ?_, f2.1, ?_, f3, f4, fun c n => tU_ne _ _ n, fun y ky => Or.inr ?_, f2.2.2.1, fun c n m' => n (h.ci.td c x q m' mq)⟩
    · rw [if_neg (by rw [z]; simp), z]
      simp only [b_Y0_newMotion_38a, b_Y0_newMotion_33, b_Y0_newMotion_16a, Option.getD_some, f1]
    · refine gX.tr ⟨((eK.sr S1 _ _ _).tr (eK.sr _ _ _ _)).n, fun z _ _ _ j => ?_, gL.tr (eK.sr S1 _ _ _).n (gL.sr S1 _ _ (by rw [h.k1.2]; decide)) (gL.sr _ _ _ (by rw [kd_sr, kq.2]; decide))⟩ f2.2.1
      rw [gi_sr, gi_sr]
    · have g : eN S1 S2 := (((eK.sr S1 _ _ _).tr (eK.sr _ _ _ _)).n).tr f2.2.1.1
      have a : y < S1.1 := by
        have := ky.1
        rw [f5] at this
        exact this
      exact ⟨a, by rw [← (g.2 y a).1]; exact ky.2⟩
end
