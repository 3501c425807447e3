/-! ===== one class's minutes become another's ===== -/
section
variable {wF : Prop × (Nat → Int32) × Int32 × (Nat → Int32)} {x y a b l : Nat} {r2 r3 : Option Nat} {S S1 S2 S3 S4 Sk : Cst} {T T1 T2 T3 Tk : Nat → List Nat} {col c1 c2 c3 ck : Nat → Nat} {H H2 G R O : HS} {M M2 : MS} {v : Int32} {P z : Nat → Int32}
theorem JX.bec (h : Sst noE x S T [] col S1 T1 [] c1) (ky : iK S1 y 0) (ny : y ≠ x) (hy : PI S1 T1 y) (sv : sV S1) (jx : jS S1 x) (hb : HB G) {n : Int32} {e : Nat} (j : JX S1 T1 y n e P z) : ∃ S2 T2 c2, f_Y0_become S1 x y = (0, S2) ∧ AS x S T col S2 T2 c2 ∧ JX S2 T2 x n e P z ∧ ∀ Q H, RR (False, z, n, Q) e S1 T1 y H → RR (True, z, n, Q) e S2 T2 x (sI H 10 0) := by
  have key : ∀ Q H, RR (False, z, n, Q) e S1 T1 y H → ∃ S2 T2 c2, f_Y0_become S1 x y = (0, S2) ∧ AS x S T col S2 T2 c2 ∧ RR (True, z, n, Q) e S2 T2 x (sI H 10 0) := fun Q H r => become_sim h ky ny hy sv jx (z := (z, n, Q)) (r.lo 0) rfl
  have rG := (j.2.2 G hb).2
  obtain ⟨S2, T2, c2, f, as, r0⟩ := key _ _ rG
  have all : ∀ Q H, RR (False, z, n, Q) e S1 T1 y H → RR (True, z, n, Q) e S2 T2 x (sI H 10 0) := fun Q H r => by
    obtain ⟨S3, T3, c3, f3, a3, r3⟩ := key Q H r
    obtain ⟨-, rfl⟩ := Prod.mk.inj (f.symm.trans f3)
    exact r3.tP (fun g hg => T_eq as.ci a3.ci (rP_k as.ci.wf as.k1 hg))
  obtain ⟨p1, ⟨b1, b2, b3⟩, b4⟩ := j
  have q := rG.2.2.2.1
  have q' := r0.2.2.2.1
  obtain ⟨FG, eG⟩ : ∃ F, F = fol P (f_X11_begin G n).2 e := ⟨_, rfl⟩
  rw [← eG] at q q'
  have e7 : (FG.1 7).toInt = e := by
    rw [← q.1.1]
    exact b1
  have s7 : (sI FG 10 0).1 7 = FG.1 7 := rfl
  have s4 : (sI FG 10 0).2 40 = FG.2 40 := rfl
  refine ⟨S2, T2, c2, f, as, ⟨p1, ⟨?_, fun i k hi hk => ?_, fun i hi => ?_⟩, fun H0 h0 => ⟨(b4 H0 h0).1, ?_⟩⟩, all⟩
  · rw [q'.1.1, s7]
    exact e7
  · have t1 := q.1.2.2 i k (by omega) hk
    have t2 := q'.1.2.2 i k (by rw [s7]; omega) hk
    rw [s4] at t2
    exact t2.trans (t1.symm.trans (b2 i k hi hk))
  · exact q'.2.2.2.2.2.2.2.2 i (by rw [s7]; omega)
  · have t := all _ _ (b4 H0 h0).2
    have r := t.lo ((fol P (f_X11_begin H0 n).2 e).1 10)
    rw [sI_bk] at r
    exact r
end
