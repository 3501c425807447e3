/-! ===== a motion to be had; ledgers that grow ===== -/
section
variable {E E0 : Nat → Prop} {x : Nat} {S S1 : Cst} {T T1 : Nat → List Nat} {F F1 : List Nat} {col c1 : Nat → Nat}
theorem y_newMotion (h : Sst E x S T F col S1 T1 F1 c1) (hb : T1 x = [] → mT T1 x + F1.length ≤ 89) (v : Int32) : ∃ S2 T2 q c2, f_Y0_newMotion S1 x v = (some q, S2) ∧ (∀ lc ls, S2.1 ≤ lc → S2.2.1 ≤ ls → p_Y0_newMotion S1 x lc ls v) ∧ Sst E x S T F col S2 T2 (q :: F1) c2 ∧ gX (dM q) S1 S2 ∧ giC S2 q 2 = v ∧ ∀ c, c ≠ x → T2 c = T1 c := by
  have cx := h.ci.tc x h.k1
  unfold f_Y0_newMotion p_Y0_newMotion
  cases hT : T1 x with
  | nil =>
    rw [hT] at cx
    have z : grC S1 x 10 = none := cx
    have m := h.mk (hb hT)
    have km : iK (mkX4 S1) S1.1 3 := (wf_mk4 h.ci.wf).2
    obtain ⟨p1, S2, f1, f2, f3⟩ := y_renew m km (cN_new (Nat.le_refl _)) v
    refine ⟨S2, T1, S1.1, _, ?_, fun lc ls a b => ?_, f2.1, ?_, f3, fun _ _ => rfl⟩
    · rw [if_pos z]
      simp only [b_Y0_newMotion_38a, b_Y0_newMotion_33, b_Y0_newMotion_16a, Option.getD_some, f1]
    · rw [if_pos z, z]
      simp only [q_Y0_newMotion_38a, q_Y0_newMotion_33, q_Y0_newMotion_16a, Option.getD_some]
      have e1 : S1.1 + 4 ≤ S2.1 := f2.2.1.1.1.1
      have e2 : S1.2.1 + 618 ≤ S2.2.1 := f2.2.1.1.1.2
      exact ⟨⟨h.ci.wf.1, by omega, by omega⟩, fun z y => (by cases y), ir_so.mpr km, p1, trivial⟩
    · exact ⟨(eN.pu S1 _ _ : eN S1 (mkX4 S1)).tr f2.2.1.1, fun z a b c k => by
        have a' : z < (mkX4 S1).1 := Nat.lt_of_lt_of_le a (Nat.le_add_right _ _)
        have ek : kdC (mkX4 S1) z = kdC S1 z := ((eN.pu S1 _ _).2 z a).1
        rw [f2.2.1.2.1 z a' (by rw [ek]; exact b) c]
        exact pu_gi a k, gL.tr (eN.pu S1 _ _ : eN S1 (mkX4 S1)) (fun l a _ => pu_gr a 2) f2.2.1.2.2⟩
  | cons q L =>
    rw [hT] at cx
    have z : grC S1 x 10 = some q := cx.1
    have m := h.pop hT
    have mq : q ∈ T1 x := by rw [hT]; exact List.mem_cons_self ..
    have kq := (h.ci.tk x q mq).1
    have kq' := (m.ci.tf.2 q (List.mem_cons_self ..)).1
    obtain ⟨p1, S2, f1, f2, f3⟩ := y_renew m kq' (m.fc q (List.mem_cons_self ..)) v
    refine ⟨S2, _, q, _, ?_, fun lc ls _ _ => ?_, f2.1, ?_, f3, fun c n => tU_ne _ _ n⟩
    · rw [if_neg (by rw [z]; simp), z]
      simp only [b_Y0_newMotion_38a, b_Y0_newMotion_33, b_Y0_newMotion_16a, Option.getD_some, f1]
    · rw [if_neg (by rw [z]; simp), z]
      simp only [q_Y0_newMotion_38a, q_Y0_newMotion_33, q_Y0_newMotion_16a, Option.getD_some]
      exact ⟨ir_so.mpr kq, ir_so.mpr (ik_sr.mpr kq), ir_so.mpr kq', p1, trivial⟩
    · refine gX.tr ⟨((eK.sr S1 _ _ _).tr (eK.sr _ _ _ _)).n, fun z _ _ _ j => ?_, gL.tr (eK.sr S1 _ _ _).n (gL.sr S1 _ _ (by rw [h.k1.2]; decide)) (gL.sr _ _ _ (by rw [kd_sr, kq.2]; decide))⟩ f2.2.1
      rw [gi_sr, gi_sr]
/-- a ledger's new cells -/
theorem CI.led (h : CI E S T F col) {l z : Nat} (k : iK S l 2) (kz : iK S z 20) (h1 : 1 ≤ lnC S z) (h2 : (lnC S z : Int) ≤ 600 * (giC S l 0).toInt) (hc : col z = col l) : CI E (srC S l 2 (some z)) T F col := by
  refine ⟨wf_sr h.wf ?_, h.tz, fun c q m => ⟨ik_sr.mpr (h.tk c q m).1, (h.tk c q m).2⟩, h.td, h.tn, ⟨h.tf.1, fun q m => ⟨ik_sr.mpr (h.tf.2 q m).1, (h.tf.2 q m).2⟩⟩, fun Q e kQ => ?_, fun y ky => ?_, fun y ky => h.c0 y (ik_sr.mp ky), fun q kq => h.c3 q (ik_sr.mp kq), fun m km => ?_⟩
  · refine ⟨fun w y => by cases y; exact kz.1, ?_, ?_, fun _ => ⟨rfl, ir_so.mpr kz, h1, h2⟩, ?_, ?_, ?_, ?_, ?_, ?_, ?_⟩ <;> (rw [k.2]; intro z; omega)
  · have kQ := ik_sr.mp kQ
    have w := h.tp Q e kQ
    rw [gi_sr]
    refine ⟨w.1, w.2.1, fun i hi => ?_⟩
    rw [gr_sr, if_neg (fun z => by have := (h.wf.w4 kQ).1.1.2; rw [z.1, k.2] at this; omega)]
    exact w.2.2 i hi
  · have ky := ik_sr.mp ky
    rw [gr_sr, if_neg (fun z => by have := ky.2; rw [z.1, k.2] at this; omega)]
    exact (h.tc y ky).cg _ _ (fun z m => by rw [gr_sr, if_neg (fun w => by have := (h.tk y z m).1.2; rw [w.1, k.2] at this; omega)])
  · have km := ik_sr.mp km
    rw [gr_sr]
    split
    · next y =>
      rw [y.1]
      exact hc
    · exact h.c2 m km
end
