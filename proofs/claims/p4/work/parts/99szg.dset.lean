/-! ===== seats, order, readers ===== -/
section
variable {x y a b l : Nat} {r2 r3 : Option Nat} {S S1 S2 S3 S4 Sk : Cst} {T T1 T2 T3 Tk : Nat → List Nat} {col c1 c2 c3 ck : Nat → Nat} {H H2 G R O : HS} {M M2 : MS} {v : Int32}
theorem RR.j7 {wF : Prop × (Nat → Int32) × Int32 × (Nat → Int32)} {N : Int} (r : RR wF N S T x H) : giC S (x + 7) 3 = H.1 7 := r.2.2.2.1.1.1
theorem RR.sv {wF : Prop × (Nat → Int32) × Int32 × (Nat → Int32)} {N : Int} (r : RR wF N S T x H) : sV S := r.2.2.2.2.1.2.1
def M00x : HS := ((fun _ => 0), fun _ _ => 0)
theorem beg_jx (h : Sst noE x S T [] col S1 T1 [] c1) (j : jS S1 x) (sv : sV S1) {n : Int32} (hn : 1 ≤ n.toInt ∧ n.toInt ≤ 200) (P z : Nat → Int32) : ∃ S2 T2, f_Y0_begin S1 x n = (0, S2) ∧ AS x S T col S2 T2 c1 ∧ (∀ H : HS, RR (True, z, n, H.2 40) 0 S2 T2 x (f_X11_begin H n).2) ∧ JX S2 T2 x n 0 P z := by
  obtain ⟨S2, T2, f, as, rr⟩ := begin_sim h j sv (n := n) (by omega)
  refine ⟨S2, T2, f, as, fun H => rr H z, ⟨hn, by omega, fun k hk => absurd hk (Nat.not_lt_zero _)⟩, ⟨?_, fun i j hi => absurd hi (Nat.not_lt_zero _), fun i hi => absurd hi (Nat.not_lt_zero _)⟩, fun H0 hb => ⟨fun k hk => absurd hk (Nat.not_lt_zero _), ?_⟩⟩
  · have r := rr M00x z
    obtain ⟨R, eR, -, ⟨-, v7, -⟩, -⟩ := beg_v M00x n
    rw [r.j7, eR, v7]
    rfl
  · obtain ⟨R, eR, -, -, -, -, -, -, v40⟩ := beg_v H0 n
    have r0 := (rr H0 z).lo0
    have z0 : ((0 : Nat) : Int) = 0 := rfl
    rw [eR] at r0
    rw [fol, eR, v40, z0]
    exact r0
theorem ac_seats (q : RQ S M) (mi : MI M) (n : Int32) (e : f_Y10_seats S 82 n = (v, S2)) : v = (f_X12_seats M n).1 ∧ RQ S2 (f_X12_seats M n).2 := by
  have k1 : (1 : Int32).toInt = 1 := by decide
  have k2 : (200 : Int32).toInt = 200 := by decide
  unfold f_Y10_seats b_Y10_seats_12 b_Y10_seats_23a at e
  unfold f_X12_seats b_X12_seats_a22
  by_cases c1 : n < 1
  · have hi : f_X12_in n 1 200 = 0 := by rw [in_f, if_neg (fun z => by have := iLt.mp c1; omega)]
    rw [if_pos c1] at e
    rw [if_pos hi]
    obtain ⟨rfl, rfl⟩ := Prod.mk.inj e
    exact ⟨rfl, q⟩
  · rw [if_neg c1] at e
    have d1 := mt iLt.mpr c1
    by_cases c2 : n ≤ 200
    · have d2 := iLe.mp c2
      rw [k1] at d1
      rw [k2] at d2
      have hi : f_X12_in n 1 200 = 1 := by rw [in_f, if_pos ⟨by rw [k1]; omega, by rw [k2]; omega⟩]
      rw [if_pos c2] at e
      rw [if_neg (by rw [hi]; decide)]
      obtain ⟨a, b, r2, r3, l, T, col, h, ⟨z, q1, q2⟩, q3, ⟨q4, q5⟩, q6⟩ := q
      rw [h.g0, Option.getD_some] at e
      obtain ⟨R, eR, ⟨v0, -⟩, ⟨-, v7, -⟩, -, -, -, -, v40⟩ := beg_v M.2.1 n
      rw [eR]
      obtain ⟨S3, T3, f, as, rr, jx⟩ := beg_jx (h.as (KJ.ma h)).1 q1.jS q1.sv (n := n) ⟨by omega, d2⟩ (R.2 40) (fun _ => 0)
      rw [f] at e
      obtain ⟨rfl, rfl⟩ := Prod.mk.inj e
      have k3 := h.step (KJ.ma h) as.1 as.2
      have r1 := rr M.2.1
      rw [eR] at r1
      obtain ⟨o1, o2, o3⟩ := CT.oth (O := M.1) h (KJ.ma h) as.1 r1.sv
      refine ⟨rfl, a, b, r2, r3, l, T3, col, k3, ⟨fun _ => 0, ?_, ?_⟩, (o3 b (KJ.mb h) (fun e => KJ.nab h e.symm)).1 q3, ⟨o1 r2 0 (Or.inl rfl) (fun c e => ?_) q4, o1 r3 1 (Or.inr rfl) (fun c e => ?_) q5⟩, o2 q6⟩
      · show RR (True, fun _ => 0, R.1 0, R.2 40) (R.1 7).toInt _ T3 a R
        rw [v0, v7, v40, i0]
        exact r1
      · show JX _ T3 a (R.1 0) (R.1 7).toNatClampNeg (R.2 40) (fun _ => 0)
        rw [v0, v7, zn0]
        exact jx
      · subst e
        exact (KJ.n2 h).1
      · subst e
        exact (KJ.n3 h).1
    · rw [if_neg c2] at e
      have hi : f_X12_in n 1 200 = 0 := by rw [in_f, if_neg (fun z => c2 (iLe.mpr z.2))]
      rw [if_pos hi]
      obtain ⟨rfl, rfl⟩ := Prod.mk.inj e
      exact ⟨rfl, q⟩
theorem ac_order (q : RQ S M) (mi : MI M) (i : Int32) (e : f_Y10_order S 82 i = (v, S2)) : v = (f_X12_order M i).1 ∧ RQ S2 (f_X12_order M i).2 := by
  obtain ⟨a, b, r2, r3, l, T, col, h, ⟨z, q1, q2⟩, q3, ⟨q4, q5⟩, q6⟩ := q
  have as := h.as (KJ.ma h)
  have e15 : (15 : Int32).toInt = 15 := by decide
  have rs := rs_all as q1 mi.1 15 i 0 0 0 (by rw [e15]; omega) (by rw [e15]; omega)
  obtain ⟨a2, r9⟩ := q1.w9 as (rz M.2.1 15 i 0 0 0)
  have j9 := q2.w9 as (rz M.2.1 15 i 0 0 0)
  unfold f_Y10_order b_Y10_order_17a b_Y10_order_35 at e
  rw [h.g0, Option.getD_some, rs] at e
  have k3 := h.step (KJ.ma h) a2.1 a2.2
  have e9 : giC (siC S a 9 (rz M.2.1 15 i 0 0 0)) a 9 = rz M.2.1 15 i 0 0 0 := by rw [gi_si, if_pos ⟨rfl, rfl⟩]
  rw [k3.g0, Option.getD_some, e9] at e
  have eX : f_X12_order M i = b_X12_order_36 M i (f_X11_reasonOfMove M.2.1 i).1 (rz M.2.1 15 i 0 0 0) := by
    have er : (f_X11_reason M.2.1 15 i 0 0 0).1 = (f_X11_reasonOfMove M.2.1 i).1 := by
      unfold f_X11_reason b_X11_reason_a577
      rw [if_neg (by decide), if_neg (by decide), if_neg (by decide), if_neg (by decide), if_neg (by decide), if_neg (by decide), if_neg (by decide), if_neg (by decide), if_neg (by decide), if_neg (by decide), if_neg (by decide), if_neg (by decide), if_neg (by decide), if_neg (by decide), if_pos rfl]
    have eM : mH M (f_X11_reasonOfMove M.2.1 i).2 = M := by
      rw [sf_X11_reasonOfMove]
      rfl
    unfold f_X12_order b_X12_order_a8 b_X12_order_35 rz
    rw [eM, er]
    by_cases z : (f_X11_reasonOfMove M.2.1 i).1 = 0
    · rw [if_pos z, if_pos z]
      by_cases w : M.2.1.1 7 = 600
      · rw [if_pos w, if_pos w]
      · rw [if_neg w, if_neg w, z]
    · rw [if_neg z, if_neg z]
  rw [eX]
  unfold b_X12_order_36 b_X12_order_54
  have m10 : (mH M (sI M.2.1 10 (rz M.2.1 15 i 0 0 0))).2.1.1 10 = rz M.2.1 15 i 0 0 0 := rfl
  rw [m10]
  have sv2 : sV (siC S a 9 (rz M.2.1 15 i 0 0 0)) := r9.sv
  obtain ⟨o1, o2, o3⟩ := CT.oth (O := M.1) h (KJ.ma h) a2.1 sv2
  have rq : RQ (siC S a 9 (rz M.2.1 15 i 0 0 0)) (mH M (sI M.2.1 10 (rz M.2.1 15 i 0 0 0))) := by
    refine ⟨a, b, r2, r3, l, T, col, k3, ⟨z, r9, j9⟩, (o3 b (KJ.mb h) (fun e => KJ.nab h e.symm)).1 q3, ⟨o1 r2 0 (Or.inl rfl) (fun c e => ?_) q4, o1 r3 1 (Or.inr rfl) (fun c e => ?_) q5⟩, o2 q6⟩
    · subst e
      exact (KJ.n2 h).1
    · subst e
      exact (KJ.n3 h).1
  by_cases w : rz M.2.1 15 i 0 0 0 = 0
  · rw [if_pos w] at e ⊢
    obtain ⟨rfl, rfl⟩ := Prod.mk.inj e
    exact ⟨rfl, rq⟩
  · rw [if_neg w] at e ⊢
    obtain ⟨rfl, rfl⟩ := Prod.mk.inj e
    exact ⟨rfl, rq⟩
end
