/-! ===== the deeds: the house ===== -/
section
variable {wF : Prop × (Nat → Int32) × Int32 × (Nat → Int32)} {x : Nat} {S S1 S2 S3 : Cst} {T T1 T2 : Nat → List Nat} {col c1 : Nat → Nat} {H H2 : HS} {N : Int}
/-- what a deed leaves: the same answer, the same in both -/
def DS (wF : Prop × (Nat → Int32) × Int32 × (Nat → Int32)) (N : Int) (x : Nat) (S : Cst) (T : Nat → List Nat) (col : Nat → Nat) (f : Int32 × Cst) (g : Int32 × HS) : Prop := ∃ S2 T2 c2, f = (g.1, S2) ∧ Sst noE x S T [] col S2 T2 [] c2 ∧ RR wF N S2 T2 x g.2
/-- nothing but the house written -/
def hC' (x : Nat) (S1 S2 : Cst) : Prop := (∀ q k, q ≠ x + 37 → q ≠ x + 38 → q ≠ x + 39 → giC S2 q k = giC S1 q k) ∧ (∀ q k, grC S2 q k = grC S1 q k) ∧ (∀ q, lnC S2 q = lnC S1 q) ∧ ∀ q c, iK S2 q c → iK S1 q c
theorem hC'.rf (x : Nat) (S : Cst) : hC' x S S := ⟨fun _ _ _ _ _ => rfl, fun _ _ => rfl, fun _ => rfl, fun _ _ h => h⟩
theorem hC'.si (h : hC' x S1 S2) {a : Nat} (b : Nat) (v : Int32) (ha : a = x + 37 ∨ a = x + 38 ∨ a = x + 39) : hC' x S1 (siC S2 a b v) :=
  ⟨fun q k h1 h2 h3 => by rw [gi_si, if_neg (fun z => by omega)]; exact h.1 q k h1 h2 h3, fun q k => (gr_si ..).trans (h.2.1 q k), fun q => (ln_si ..).trans (h.2.2.1 q), fun q c k => h.2.2.2 q c (ik_si.mp k)⟩
theorem RR.hc (r : RR wF N S1 T1 x H) (ci : CI noE S1 T1 [] c1) (kx : iK S1 x 0) (h : hC' x S1 S2) (s : sH H2 H) (e : H2.1 7 = H.1 7 ∧ H2.1 8 = H.1 8 ∧ H2.1 9 = H.1 9 ∧ H2.1 10 = H.1 10 ∧ H2.1 39 = H.1 39) (e2 : H2.2 38 = H.2 38 ∧ H2.2 40 = H.2 40 ∧ H2.2 41 = H.2 41) (hh : hR S2 x H2) : RR wF N S2 T1 x H2 := r.hs ci kx h.1 h.2.1 h.2.2.1 h.2.2.2 s e e2 hh
theorem hR.f2 (r : hR S1 x H) (v : Int32) : hR (siC S1 (x + 37) 2 v) x (sI H 1 v) := by
  obtain ⟨⟨p0, p1, p2, p3, p4, p5⟩, p6, p7, p8⟩ := r
  exact ⟨⟨by rw [gi_si, if_neg (fun z => absurd z.2 (by decide))]; exact p0, by rw [gi_si, if_pos ⟨rfl, rfl⟩]; rfl, by rw [gi_si, if_neg (fun z => absurd z.2 (by decide))]; exact p2, by rw [gi_si, if_neg (fun z => absurd z.2 (by decide))]; exact p3, by rw [gi_si, if_neg (fun z => absurd z.2 (by decide))]; exact p4, by rw [gi_si, if_neg (fun z => absurd z.2 (by decide))]; exact p5⟩, fun s hs ht => by rw [gi_si, if_neg (fun z => by omega)]; exact p6 s hs ht, fun s hs => by rw [gi_si, if_neg (fun z => by omega)]; exact p7 s hs, p8⟩
theorem hR.f3 (r : hR S1 x H) (v : Int32) : hR (siC S1 (x + 37) 3 v) x (sI H 2 v) := by
  obtain ⟨⟨p0, p1, p2, p3, p4, p5⟩, p6, p7, p8⟩ := r
  exact ⟨⟨by rw [gi_si, if_neg (fun z => absurd z.2 (by decide))]; exact p0, by rw [gi_si, if_neg (fun z => absurd z.2 (by decide))]; exact p1, by rw [gi_si, if_pos ⟨rfl, rfl⟩]; rfl, by rw [gi_si, if_neg (fun z => absurd z.2 (by decide))]; exact p3, by rw [gi_si, if_neg (fun z => absurd z.2 (by decide))]; exact p4, by rw [gi_si, if_neg (fun z => absurd z.2 (by decide))]; exact p5⟩, fun s hs ht => by rw [gi_si, if_neg (fun z => by omega)]; exact p6 s hs ht, fun s hs => by rw [gi_si, if_neg (fun z => by omega)]; exact p7 s hs, p8⟩
theorem hR.f4 (r : hR S1 x H) (v : Int32) : hR (siC S1 (x + 37) 4 v) x (sI H 3 v) := by
  obtain ⟨⟨p0, p1, p2, p3, p4, p5⟩, p6, p7, p8⟩ := r
  exact ⟨⟨by rw [gi_si, if_neg (fun z => absurd z.2 (by decide))]; exact p0, by rw [gi_si, if_neg (fun z => absurd z.2 (by decide))]; exact p1, by rw [gi_si, if_neg (fun z => absurd z.2 (by decide))]; exact p2, by rw [gi_si, if_pos ⟨rfl, rfl⟩]; rfl, by rw [gi_si, if_neg (fun z => absurd z.2 (by decide))]; exact p4, by rw [gi_si, if_neg (fun z => absurd z.2 (by decide))]; exact p5⟩, fun s hs ht => by rw [gi_si, if_neg (fun z => by omega)]; exact p6 s hs ht, fun s hs => by rw [gi_si, if_neg (fun z => by omega)]; exact p7 s hs, p8⟩
theorem hR.f5 (r : hR S1 x H) (v : Int32) (hv : 0 ≤ v.toInt) : hR (siC S1 (x + 37) 5 v) x (sI H 4 v) := by
  obtain ⟨⟨p0, p1, p2, p3, p4, p5⟩, p6, p7, p8⟩ := r
  exact ⟨⟨by rw [gi_si, if_neg (fun z => absurd z.2 (by decide))]; exact p0, by rw [gi_si, if_neg (fun z => absurd z.2 (by decide))]; exact p1, by rw [gi_si, if_neg (fun z => absurd z.2 (by decide))]; exact p2, by rw [gi_si, if_neg (fun z => absurd z.2 (by decide))]; exact p3, by rw [gi_si, if_pos ⟨rfl, rfl⟩]; rfl, by rw [gi_si, if_neg (fun z => absurd z.2 (by decide))]; exact p5⟩, fun s hs ht => by rw [gi_si, if_neg (fun z => by omega)]; exact p6 s hs ht, fun s hs => by rw [gi_si, if_neg (fun z => by omega)]; exact p7 s hs, hv, p8.2⟩
theorem hR.f6 (r : hR S1 x H) (v : Int32) : hR (siC S1 (x + 37) 6 v) x (sI H 5 v) := by
  obtain ⟨⟨p0, p1, p2, p3, p4, p5⟩, p6, p7, p8⟩ := r
  exact ⟨⟨by rw [gi_si, if_neg (fun z => absurd z.2 (by decide))]; exact p0, by rw [gi_si, if_neg (fun z => absurd z.2 (by decide))]; exact p1, by rw [gi_si, if_neg (fun z => absurd z.2 (by decide))]; exact p2, by rw [gi_si, if_neg (fun z => absurd z.2 (by decide))]; exact p3, by rw [gi_si, if_neg (fun z => absurd z.2 (by decide))]; exact p4, by rw [gi_si, if_pos ⟨rfl, rfl⟩]; rfl⟩, fun s hs ht => by rw [gi_si, if_neg (fun z => by omega)]; exact p6 s hs ht, fun s hs => by rw [gi_si, if_neg (fun z => by omega)]; exact p7 s hs, p8⟩
theorem hR.t (r : hR S1 x H) (i : Nat) (v : Int32) (hv : v = 0 ∨ v = 1) : hR (siC S1 (x + 38) i v) x (sA H 11 i v) := by
  obtain ⟨⟨p0, p1, p2, p3, p4, p5⟩, p6, p7, p8⟩ := r
  have e : ∀ k, giC (siC S1 (x + 38) i v) (x + 37) k = giC S1 (x + 37) k := fun k => by rw [gi_si, if_neg (fun z => by omega)]
  refine ⟨⟨by rw [e]; exact p0, by rw [e]; exact p1, by rw [e]; exact p2, by rw [e]; exact p3, by rw [e]; exact p4, by rw [e]; exact p5⟩, fun s hs ht => ?_, fun s hs => by rw [gi_si, if_neg (fun z => by omega)]; exact p7 s hs, p8.1, fun s hs => ?_⟩
  · rw [gi_si]
    show _ = upd (H.2 11) i v s
    unfold upd
    by_cases z : s = i
    · rw [if_pos ⟨rfl, z⟩, if_pos z]
    · rw [if_neg (fun y => z y.2), if_neg z]
      exact p6 s hs ht
  · show upd (H.2 11) i v s = 0 ∨ upd (H.2 11) i v s = 1
    unfold upd
    by_cases z : s = i
    · rw [if_pos z]
      exact hv
    · rw [if_neg z]
      exact p8.2 s hs
theorem hR.m (r : hR S1 x H) (i : Nat) (v : Int32) : hR (siC S1 (x + 39) i v) x (sA H 12 i v) := by
  obtain ⟨⟨p0, p1, p2, p3, p4, p5⟩, p6, p7, p8⟩ := r
  have e : ∀ k, giC (siC S1 (x + 39) i v) (x + 37) k = giC S1 (x + 37) k := fun k => by rw [gi_si, if_neg (fun z => by omega)]
  refine ⟨⟨by rw [e]; exact p0, by rw [e]; exact p1, by rw [e]; exact p2, by rw [e]; exact p3, by rw [e]; exact p4, by rw [e]; exact p5⟩, fun s hs ht => by rw [gi_si, if_neg (fun z => by omega)]; exact p6 s hs ht, fun s hs => ?_, p8⟩
  rw [gi_si]
  show _ = upd (H.2 12) i v s
  unfold upd
  by_cases z : s = i
  · rw [if_pos ⟨rfl, z⟩, if_pos z]
  · rw [if_neg (fun y => z y.2), if_neg z]
    exact p7 s hs
theorem ds_1 (a : AS x S T col S1 T1 c1) (r : RR wF N S1 T1 x H) (h : HA H) (i b c d : Int32) (q : sE H i) (z : H.2 11 i.toNatClampNeg = 0) : DS wF N x S T col (f_Y1_perform S1 x 1 i b c d) (f_X11_does H 1 i b c d) := by
  have w1 := a.w1
  have e : f_Y2_arrive S1 (x + 37) i = (giC (siC (siC S1 (x + 37 + 1) i.toNatClampNeg (vp_nar .boolean 1)) (x + 37) 2 (giC (siC S1 (x + 37 + 1) i.toNatClampNeg (vp_nar .boolean 1)) (x + 37) 2 + 1)) (x + 37) 2, siC (siC S1 (x + 37 + 1) i.toNatClampNeg (vp_nar .boolean 1)) (x + 37) 2 (giC (siC S1 (x + 37 + 1) i.toNatClampNeg (vp_nar .boolean 1)) (x + 37) 2 + 1)) := by
    unfold f_Y2_arrive b_Y2_arrive_34
    rw [hs_has a r.1 h.1.ra, if_pos q, if_neg h10, w1.2.1.1, Option.getD_some, r.1.2.1 _ (sE_n h.1.ra q) (sE_z q), if_pos z]
  obtain ⟨-, v, S2, e', u⟩ := y_arrive a.1 i
  obtain ⟨-, rfl⟩ := Prod.mk.inj (e.symm.trans e')
  have n2 : giC (siC S1 (x + 37 + 1) i.toNatClampNeg (vp_nar .boolean 1)) (x + 37) 2 = H.1 1 := by
    rw [gi_si, if_neg (fun z => by omega)]
    exact r.1.1.2.1
  unfold f_Y1_perform f_X11_does b_Y1_perform_120a
  rw [if_pos rfl, if_pos rfl, a.g0, Option.getD_some, e]
  rw [n2] at u ⊢
  refine ⟨_, T1, c1, ?_, u.1, r.hc a.ci a.k1 ((hC'.rf x S1).si _ _ (Or.inr (Or.inl rfl)) |>.si _ _ (Or.inl rfl)) ((sH.I _ _ (by decide) (by decide) (by decide) (by decide) (by decide)).tr (sH.A H _ _ (Or.inl (by decide)))) ⟨rfl, rfl, rfl, rfl, rfl⟩ ⟨rfl, rfl, rfl⟩ ((r.1.t _ _ (Or.inr rfl)).f2 _)⟩
  rw [gi_si, if_pos ⟨rfl, rfl⟩]
  rfl
theorem sil_v (r : hR S1 x H) (i : Int32) (hi : i ≠ -1) : f_Y2_silence S1 (x + 37) i = (0, if H.1 5 = i then siC S1 (x + 37) 6 (-1) else S1) := by
  unfold f_Y2_silence b_Y2_silence_13
  rw [fl_v r]
  by_cases z : H.1 5 = i
  · rw [if_pos z, if_pos z, if_neg (fun y => hi (z.symm.trans y)), if_neg h10]
  · rw [if_neg z, if_neg z]
    by_cases y : H.1 5 = -1
    · rw [if_pos y, if_pos rfl]
    · rw [if_neg y, if_pos rfl]
theorem sE_m {i : Int32} (q : sE H i) : i ≠ -1 := fun z => by
  have := q.1
  rw [z] at this
  exact absurd this (by decide)
theorem ds_2 (a : AS x S T col S1 T1 c1) (r : RR wF N S1 T1 x H) (h : HA H) (i b c d : Int32) (q : sE H i) (z : ¬ H.2 11 i.toNatClampNeg = 0) : DS wF N x S T col (f_Y1_perform S1 x 2 i b c d) (f_X11_does H 2 i b c d) := by
  have w1 := a.w1
  obtain ⟨-, v, S2, e', u⟩ := y_leave a.1 i
  have n2 : giC (siC S1 (x + 37 + 1) i.toNatClampNeg (vp_nar .boolean 0)) (x + 37) 2 = H.1 1 := by
    rw [gi_si, if_neg (fun z => by omega)]
    exact r.1.1.2.1
  have r2 := (r.1.t i.toNatClampNeg (vp_nar .boolean 0) (Or.inl rfl)).f2 (H.1 1 - 1)
  have e : f_Y2_leave S1 (x + 37) i = (giC (f_Y2_silence (siC (siC S1 (x + 37 + 1) i.toNatClampNeg (vp_nar .boolean 0)) (x + 37) 2 (H.1 1 - 1)) (x + 37) i).2 (x + 37) 2, (f_Y2_silence (siC (siC S1 (x + 37 + 1) i.toNatClampNeg (vp_nar .boolean 0)) (x + 37) 2 (H.1 1 - 1)) (x + 37) i).2) := by
    unfold f_Y2_leave b_Y2_leave_25 b_Y2_leave_30a
    rw [hs_there a r.1 h.1.ra, if_pos (show sE H i ∧ H.2 11 i.toNatClampNeg ≠ 0 from ⟨q, z⟩), if_neg h10, w1.2.1.1, Option.getD_some, n2]
  rw [sil_v r2 i (sE_m q)] at e
  obtain ⟨-, rfl⟩ := Prod.mk.inj (e.symm.trans e')
  unfold f_Y1_perform f_X11_does b_Y1_perform_129a b_X11_does_152
  rw [if_neg (by decide), if_pos rfl, if_neg (by decide), if_pos rfl, a.g0, Option.getD_some, e]
  have hc := ((hC'.rf x S1).si i.toNatClampNeg (vp_nar .boolean 0) (Or.inr (Or.inl rfl))).si 2 (H.1 1 - 1) (Or.inl rfl)
  have s2 := (sH.I (sA H 11 i.toNatClampNeg (vp_nar .boolean 0)) (k := 1) (H.1 1 - 1) (by decide) (by decide) (by decide) (by decide) (by decide)).tr (sH.A H i.toNatClampNeg (vp_nar .boolean 0) (Or.inl (by decide)))
  have e5 : (sI (sA H 11 i.toNatClampNeg (vp_nar .boolean 0)) 1 (H.1 1 - 1)).1 5 = H.1 5 := rfl
  rw [e5] at u ⊢
  by_cases y : H.1 5 = i
  · rw [if_pos y] at u
    have y2 : ((sI (sA H 11 i.toNatClampNeg (vp_nar .boolean 0)) 1 ((sA H 11 i.toNatClampNeg (vp_nar .boolean 0)).1 1 - 1)).1 5) = i := y
    rw [if_pos y, if_pos y2]
    refine ⟨_, T1, c1, ?_, u.1, r.hc a.ci a.k1 (hc.si 6 (-1) (Or.inl rfl)) ((sH.I _ (k := 5) (-1) (by decide) (by decide) (by decide) (by decide) (by decide)).tr s2) ⟨rfl, rfl, rfl, rfl, rfl⟩ ⟨rfl, rfl, rfl⟩ (r2.f6 (-1))⟩
    rw [gi_si, if_neg (fun z => absurd z.2 (by decide)), gi_si, if_pos ⟨rfl, rfl⟩]
    rfl
  · rw [if_neg y] at u
    have y2 : ¬ ((sI (sA H 11 i.toNatClampNeg (vp_nar .boolean 0)) 1 ((sA H 11 i.toNatClampNeg (vp_nar .boolean 0)).1 1 - 1)).1 5) = i := y
    rw [if_neg y, if_neg y2]
    refine ⟨_, T1, c1, ?_, u.1, r.hc a.ci a.k1 hc s2 ⟨rfl, rfl, rfl, rfl, rfl⟩ ⟨rfl, rfl, rfl⟩ r2⟩
    rw [gi_si, if_pos ⟨rfl, rfl⟩]
    rfl
theorem ds_3 (a : AS x S T col S1 T1 c1) (r : RR wF N S1 T1 x H) (i b c d : Int32) : DS wF N x S T col (f_Y1_perform S1 x 3 i b c d) (f_X11_does H 3 i b c d) := by
  unfold f_Y1_perform f_X11_does
  rw [if_neg (by decide), if_neg (by decide), if_pos rfl, if_neg (by decide), if_neg (by decide), if_pos rfl, a.g0, Option.getD_some]
  exact ⟨_, T1, c1, rfl, ((QU.rf a.1).hI 4 i (by omega)).1, r.hc a.ci a.k1 ((hC'.rf x S1).si _ _ (Or.inl rfl)) (sH.I _ _ (by decide) (by decide) (by decide) (by decide) (by decide)) ⟨rfl, rfl, rfl, rfl, rfl⟩ ⟨rfl, rfl, rfl⟩ (r.1.f4 i)⟩
theorem ds_4 (a : AS x S T col S1 T1 c1) (r : RR wF N S1 T1 x H) (i b c d : Int32) (q : sE H i) : DS wF N x S T col (f_Y1_perform S1 x 4 i b c d) (f_X11_does H 4 i b c d) := by
  obtain ⟨-, v, S2, e', u⟩ := y_takeChair a.1 i
  have r2 := r.1.f3 i
  have e : f_Y2_takeChair S1 (x + 37) i = (i, (f_Y2_silence (siC S1 (x + 37) 3 i) (x + 37) i).2) := rfl
  rw [sil_v r2 i (sE_m q)] at e
  obtain ⟨-, rfl⟩ := Prod.mk.inj (e.symm.trans e')
  unfold f_Y1_perform f_X11_does b_Y1_perform_148a b_X11_does_182
  rw [if_neg (by decide), if_neg (by decide), if_neg (by decide), if_pos rfl, if_neg (by decide), if_neg (by decide), if_neg (by decide), if_pos rfl, a.g0, Option.getD_some, e]
  have hc := (hC'.rf x S1).si 3 i (Or.inl rfl)
  have s2 := sH.I H (k := 2) i (by decide) (by decide) (by decide) (by decide) (by decide)
  have e5 : (sI H 2 i).1 5 = H.1 5 := rfl
  rw [e5] at u ⊢
  by_cases y : H.1 5 = i
  · rw [if_pos y] at u ⊢
    rw [if_pos y]
    exact ⟨_, T1, c1, rfl, u.1, r.hc a.ci a.k1 (hc.si 6 (-1) (Or.inl rfl)) ((sH.I _ (k := 5) (-1) (by decide) (by decide) (by decide) (by decide) (by decide)).tr s2) ⟨rfl, rfl, rfl, rfl, rfl⟩ ⟨rfl, rfl, rfl⟩ (r2.f6 (-1))⟩
  · rw [if_neg y] at u ⊢
    rw [if_neg y]
    exact ⟨_, T1, c1, rfl, u.1, r.hc a.ci a.k1 hc s2 ⟨rfl, rfl, rfl, rfl, rfl⟩ ⟨rfl, rfl, rfl⟩ r2⟩
theorem ds_5 (a : AS x S T col S1 T1 c1) (r : RR wF N S1 T1 x H) (i b c d : Int32) (q : 1 ≤ i.toInt ∧ i.toInt ≤ 8) : DS wF N x S T col (f_Y1_perform S1 x 5 i b c d) (f_X11_does H 5 i b c d) := by
  have w1 := a.w1
  have e9 : (Int32.ofNat 9).toInt = 9 := by decide
  have k := iNat (x := i) (by omega)
  have e : f_Y2_replaceMajority S1 (x + 37) i b = (giC S1 (x + 37 + 2) i.toNatClampNeg, siC S1 (x + 37 + 2) i.toNatClampNeg b) := by
    unfold f_Y2_replaceMajority
    rw [if_neg (fun z => by have := iLt.mp z; rw [i1] at this; omega), w1.2.1.2, Option.getD_some, w1.1.2.2.2, if_pos (iLt.mpr (by rw [e9]; omega))]
  obtain ⟨-, v, S2, e', u⟩ := y_majority a.1 i b
  obtain ⟨-, rfl⟩ := Prod.mk.inj (e.symm.trans e')
  unfold f_Y1_perform f_X11_does b_Y1_perform_158a
  rw [if_neg (by decide), if_neg (by decide), if_neg (by decide), if_neg (by decide), if_pos rfl, if_neg (by decide), if_neg (by decide), if_neg (by decide), if_neg (by decide), if_pos rfl, a.g0, Option.getD_some, e]
  refine ⟨_, T1, c1, ?_, u.1, r.hc a.ci a.k1 ((hC'.rf x S1).si _ _ (Or.inr (Or.inr rfl))) (sH.A H _ _ (Or.inl (by decide))) ⟨rfl, rfl, rfl, rfl, rfl⟩ ⟨rfl, rfl, rfl⟩ (r.1.m _ _)⟩
  show (giC S1 (x + 39) i.toNatClampNeg, _) = _
  rw [r.1.2.2.1 _ (by omega)]
theorem ds_6 (a : AS x S T col S1 T1 c1) (r : RR wF N S1 T1 x H) (i b c d : Int32) (hi : 0 ≤ i.toInt) : DS wF N x S T col (f_Y1_perform S1 x 6 i b c d) (f_X11_does H 6 i b c d) := by
  unfold f_Y1_perform f_X11_does
  rw [if_neg (by decide), if_neg (by decide), if_neg (by decide), if_neg (by decide), if_neg (by decide), if_pos rfl, if_neg (by decide), if_neg (by decide), if_neg (by decide), if_neg (by decide), if_neg (by decide), if_pos rfl, a.g0, Option.getD_some]
  exact ⟨_, T1, c1, rfl, ((QU.rf a.1).hI 5 i (by omega)).1, r.hc a.ci a.k1 ((hC'.rf x S1).si _ _ (Or.inl rfl)) (sH.I _ _ (by decide) (by decide) (by decide) (by decide) (by decide)) ⟨rfl, rfl, rfl, rfl, rfl⟩ ⟨rfl, rfl, rfl⟩ (r.1.f5 i hi)⟩
theorem ds_8 (a : AS x S T col S1 T1 c1) (r : RR wF N S1 T1 x H) (i b c d : Int32) : DS wF N x S T col (f_Y1_perform S1 x 8 i b c d) (f_X11_does H 8 i b c d) := by
  unfold f_Y1_perform f_X11_does b_Y1_perform_187a f_Y1_cedeFloor
  rw [if_neg (by decide), if_neg (by decide), if_neg (by decide), if_neg (by decide), if_neg (by decide), if_neg (by decide), if_neg (by decide), if_pos rfl, if_neg (by decide), if_neg (by decide), if_neg (by decide), if_neg (by decide), if_neg (by decide), if_neg (by decide), if_neg (by decide), if_pos rfl, a.g0, Option.getD_some]
  refine ⟨_, T1, c1, ?_, ((QU.rf a.1).hI 6 (-1) (by omega)).1, r.hc a.ci a.k1 ((hC'.rf x S1).si _ _ (Or.inl rfl)) (sH.I _ _ (by decide) (by decide) (by decide) (by decide) (by decide)) ⟨rfl, rfl, rfl, rfl, rfl⟩ ⟨rfl, rfl, rfl⟩ (r.1.f6 (-1))⟩
  rw [r.1.1.2.2.2.2.2]
end
