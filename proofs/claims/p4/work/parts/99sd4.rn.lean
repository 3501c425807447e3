section
variable {wF : Prop × (Nat → Int32) × Int32 × (Nat → Int32)} {E E0 : Nat → Prop} {x : Nat} {S S1 S2 S3 : Cst} {T T1 T2 : Nat → List Nat} {F F1 : List Nat} {col c1 : Nat → Nat} {H H2 H3 : HS} {N : Int}
theorem renew_v (h : Sst E x S T F col S1 T1 F1 c1) {q : Nat} (k : iK S1 q 3) (c : c1 q = x) (v : Int32) (hv : (giC S1 q 14).toInt = vCn S1 q 200) : ∃ S2, f_Y4_renew S1 q v = (0, S2) ∧ mU E x S T F col T1 F1 c1 q S1 S2 ∧ nM S2 q v ∧ giC S2 (q + 1) 1 = 0 ∧ S2.1 = S1.1 := by
  obtain ⟨-, S0, f0, u0, -⟩ := y_renew h k c v
  obtain ⟨S2, f, u, ⟨⟨a0, a1, a2, a3, a4, a5, a6⟩, ⟨b1, b2, b3, b4, b5⟩, cc, d⟩, n, -⟩ := keep_v h k c v hv
  have w3 := u.1.ci.wf.w3 u.2.2.1
  have e : f_Y4_renew S1 q v = (0, siC S2 (q + 1) 1 0) := by
    unfold f_Y4_renew b_Y4_renew_5a
    rw [f, w3.2.1.1]
    rfl
  obtain ⟨-, rfl⟩ := Prod.mk.inj (f0.symm.trans e)
  have o : ∀ i, giC (siC S2 (q + 1) 1 0) q i = giC S2 q i := fun i => by rw [gi_si, if_neg (fun y => by omega)]
  exact ⟨_, e, u0, ⟨⟨(o 0).trans a0, (o 1).trans a1, (o 2).trans a2, (o 3).trans a3, (o 4).trans a4, (o 5).trans a5, (o 6).trans a6⟩, ⟨(o 7).trans b1, (o 8).trans b2, (o 9).trans b3, (o 10).trans b4, (o 11).trans b5⟩, fun s hs => by rw [gi_si, if_neg (fun y => by omega)]; exact cc s hs, by rw [o]; exact d⟩, by rw [gi_si, if_pos ⟨rfl, rfl⟩], n⟩
end
