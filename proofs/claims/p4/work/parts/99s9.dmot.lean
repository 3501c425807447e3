/-! ===== the deeds: the top's, the draft's numbers ===== -/
section
variable {wF : Prop × (Nat → Int32) × Int32 × (Nat → Int32)} {x : Nat} {S S1 S2 S3 : Cst} {T T1 T2 : Nat → List Nat} {col c1 : Nat → Nat} {H H2 H3 : HS} {N : Int}
theorem qM.rf (H : HS) (m : Nat) : qM H H m := ⟨⟨rfl, rfl, rfl, rfl, rfl⟩, fun _ _ _ => rfl, ⟨rfl, rfl, rfl, rfl, rfl, rfl⟩, fun _ _ _ _ _ => rfl, fun _ _ _ _ => rfl, fun _ _ _ _ => rfl⟩
theorem qM.tr {m : Nat} (s : qM H3 H2 m) (t : qM H2 H m) : qM H3 H m := by
  obtain ⟨⟨a1, a2, a3, a4, a5⟩, b, ⟨c1, c2, c3, c4, c5, c6⟩, d, e, f⟩ := s
  obtain ⟨⟨a1', a2', a3', a4', a5'⟩, b', ⟨c1', c2', c3', c4', c5', c6'⟩, d', e', f'⟩ := t
  exact ⟨⟨a1.trans a1', a2.trans a2', a3.trans a3', a4.trans a4', a5.trans a5'⟩, fun k h1 h2 => (b k h1 h2).trans (b' k h1 h2), ⟨c1.trans c1', c2.trans c2', c3.trans c3', c4.trans c4', c5.trans c5', c6.trans c6'⟩, fun k h1 h2 n h3 => (d k h1 h2 n h3).trans (d' k h1 h2 n h3), fun n i h3 hi => (e n i h3 hi).trans (e' n i h3 hi), fun n i h3 hi => (f n i h3 hi).trans (f' n i h3 hi)⟩
/-- a row at m written -/
theorem qM.A (H : HS) {k : Nat} (m : Nat) (v : Int32) (h1 : 15 ≤ k) (h2 : k ≤ 24) (n22 : k ≠ 22) (n23 : k ≠ 23) : qM (sA H k m v) H m := by
  refine ⟨⟨rfl, rfl, rfl, rfl, rfl⟩, fun j h3 h4 => if_neg (by omega), ⟨if_neg (by omega), if_neg (by omega), if_neg (by omega), if_neg (by omega), if_neg (by omega), if_neg (by omega)⟩, fun j h3 h4 n hn => ?_, fun n i hn hi => ?_, fun n i hn hi => ?_⟩
  · show (if j = k then upd (H.2 k) m v else H.2 j) n = H.2 j n
    by_cases z : j = k
    · subst z
      rw [if_pos rfl]
      exact if_neg hn
    · rw [if_neg z]
  · show (if 28 = k then upd (H.2 k) m v else H.2 28) _ = _
    rw [if_neg (by omega)]
  · show (if 29 = k then upd (H.2 k) m v else H.2 29) _ = _
    rw [if_neg (by omega)]
theorem qM.tx (H : HS) (m i : Nat) (v : Int32) (hi : i < 400) : qM (sA H 28 (400 * m + i) v) H m := by
  refine ⟨⟨rfl, rfl, rfl, rfl, rfl⟩, fun j h3 h4 => if_neg (show ¬ j = 28 by omega), ⟨rfl, rfl, rfl, rfl, rfl, rfl⟩, fun j h3 h4 n hn => ?_, fun n i' hn hi' => ?_, fun n i' hn hi' => ?_⟩
  · show (if j = 28 then upd (H.2 28) (400 * m + i) v else H.2 j) n = H.2 j n
    rw [if_neg (by omega)]
  · show (if 28 = 28 then upd (H.2 28) (400 * m + i) v else H.2 28) _ = _
    rw [if_pos rfl]
    refine if_neg (fun z => hn ?_)
    omega
  · show (if 29 = 28 then upd (H.2 28) (400 * m + i) v else H.2 29) _ = _
    rw [if_neg (by omega)]
theorem qM.b (H : HS) (m i : Nat) (v : Int32) (hi : i < 200) : qM (sA H 29 (200 * m + i) v) H m := by
  refine ⟨⟨rfl, rfl, rfl, rfl, rfl⟩, fun j h3 h4 => if_neg (show ¬ j = 29 by omega), ⟨rfl, rfl, rfl, rfl, rfl, rfl⟩, fun j h3 h4 n hn => ?_, fun n i' hn hi' => ?_, fun n i' hn hi' => ?_⟩
  · show (if j = 29 then upd (H.2 29) (200 * m + i) v else H.2 j) n = H.2 j n
    rw [if_neg (by omega)]
  · show (if 28 = 29 then upd (H.2 29) (200 * m + i) v else H.2 28) _ = _
    rw [if_neg (by omega)]
  · show (if 29 = 29 then upd (H.2 29) (200 * m + i) v else H.2 29) _ = _
    rw [if_pos rfl]
    refine if_neg (fun z => hn ?_)
    omega
/-- nothing but a motion's cells written -/
def mC' (q : Nat) (S1 S2 : Cst) : Prop := (∀ z k, (∀ j, j < 4 → z ≠ q + j) → giC S2 z k = giC S1 z k) ∧ (∀ z k, grC S2 z k = grC S1 z k) ∧ (∀ z, lnC S2 z = lnC S1 z) ∧ ∀ z c, iK S2 z c → iK S1 z c
theorem mC'.rf (q : Nat) (S : Cst) : mC' q S S := ⟨fun _ _ _ => rfl, fun _ _ => rfl, fun _ => rfl, fun _ _ h => h⟩
theorem mC'.si {q : Nat} (h : mC' q S1 S2) {a : Nat} (b : Nat) (v : Int32) {j : Nat} (hj : j < 4) (ha : a = q + j) : mC' q S1 (siC S2 a b v) :=
  ⟨fun z k hz => by rw [gi_si, if_neg (fun y => hz j hj (by rw [← ha]; exact y.1))]; exact h.1 z k hz, fun z k => (gr_si ..).trans (h.2.1 z k), fun z => (ln_si ..).trans (h.2.2.1 z), fun z c k => h.2.2.2 z c (ik_si.mp k)⟩
theorem mR.f3 {q m : Nat} (h : mR S1 q H m) (v : Int32) : mR (siC S1 q 3 v) q (sA H 15 m v) m := by
  obtain ⟨⟨a1, a2, a3, a4, a5⟩, ⟨b1, b2⟩, c, ⟨d1, d2⟩, e, ⟨f1, f2⟩, g⟩ := h
  have n : ∀ i, i ≠ 3 → giC (siC S1 q 3 v) q i = giC S1 q i := fun i hi => by rw [gi_si, if_neg (fun z => hi z.2)]
  have o : ∀ j k, 0 < j → giC (siC S1 q 3 v) (q + j) k = giC S1 (q + j) k := fun j k hj => by rw [gi_si, if_neg (fun z => by omega)]
  refine ⟨⟨(n 2 (by decide)).trans a1, by rw [gi_si, if_pos ⟨rfl, rfl⟩]; exact (if_pos rfl).symm, (n 4 (by decide)).trans a3, (n 5 (by decide)).trans a4, (n 6 (by decide)).trans a5⟩, ⟨(n 7 (by decide)).trans b1, (n 11 (by decide)).trans b2⟩, fun z => ⟨(n 8 (by decide)).trans (c z).1, (n 9 (by decide)).trans (c z).2⟩, ⟨(o 1 1 (by omega)).trans d1, fun i hi => (o 2 i (by omega)).trans (d2 i hi)⟩, fun s hs => ?_, ⟨fun s h1 h2 => (o 3 s (by omega)).trans (f1 s h1 h2), ?_⟩, g⟩
  · rw [o 3 s (by omega)]
    exact e s hs
  · rw [n 14 (by decide), vCn_cg (S1 := S1) (fun k => o 3 k (by omega))]
    exact f2
theorem mR.f4 {q m : Nat} (h : mR S1 q H m) (v : Int32) : mR (siC S1 q 4 v) q (sA H 16 m v) m := by
  obtain ⟨⟨a1, a2, a3, a4, a5⟩, ⟨b1, b2⟩, c, ⟨d1, d2⟩, e, ⟨f1, f2⟩, g⟩ := h
  have n : ∀ i, i ≠ 4 → giC (siC S1 q 4 v) q i = giC S1 q i := fun i hi => by rw [gi_si, if_neg (fun z => hi z.2)]
  have o : ∀ j k, 0 < j → giC (siC S1 q 4 v) (q + j) k = giC S1 (q + j) k := fun j k hj => by rw [gi_si, if_neg (fun z => by omega)]
  refine ⟨⟨(n 2 (by decide)).trans a1, (n 3 (by decide)).trans a2, by rw [gi_si, if_pos ⟨rfl, rfl⟩]; exact (if_pos rfl).symm, (n 5 (by decide)).trans a4, (n 6 (by decide)).trans a5⟩, ⟨(n 7 (by decide)).trans b1, (n 11 (by decide)).trans b2⟩, fun z => ⟨(n 8 (by decide)).trans (c z).1, (n 9 (by decide)).trans (c z).2⟩, ⟨(o 1 1 (by omega)).trans d1, fun i hi => (o 2 i (by omega)).trans (d2 i hi)⟩, fun s hs => ?_, ⟨fun s h1 h2 => (o 3 s (by omega)).trans (f1 s h1 h2), ?_⟩, g⟩
  · rw [o 3 s (by omega)]
    exact e s hs
  · rw [n 14 (by decide), vCn_cg (S1 := S1) (fun k => o 3 k (by omega))]
    exact f2
theorem mR.f5 {q m : Nat} (h : mR S1 q H m) (v : Int32) : mR (siC S1 q 5 v) q (sA H 17 m v) m := by
  obtain ⟨⟨a1, a2, a3, a4, a5⟩, ⟨b1, b2⟩, c, ⟨d1, d2⟩, e, ⟨f1, f2⟩, g⟩ := h
  have n : ∀ i, i ≠ 5 → giC (siC S1 q 5 v) q i = giC S1 q i := fun i hi => by rw [gi_si, if_neg (fun z => hi z.2)]
  have o : ∀ j k, 0 < j → giC (siC S1 q 5 v) (q + j) k = giC S1 (q + j) k := fun j k hj => by rw [gi_si, if_neg (fun z => by omega)]
  refine ⟨⟨(n 2 (by decide)).trans a1, (n 3 (by decide)).trans a2, (n 4 (by decide)).trans a3, by rw [gi_si, if_pos ⟨rfl, rfl⟩]; exact (if_pos rfl).symm, (n 6 (by decide)).trans a5⟩, ⟨(n 7 (by decide)).trans b1, (n 11 (by decide)).trans b2⟩, fun z => ⟨(n 8 (by decide)).trans (c z).1, (n 9 (by decide)).trans (c z).2⟩, ⟨(o 1 1 (by omega)).trans d1, fun i hi => (o 2 i (by omega)).trans (d2 i hi)⟩, fun s hs => ?_, ⟨fun s h1 h2 => (o 3 s (by omega)).trans (f1 s h1 h2), ?_⟩, g⟩
  · rw [o 3 s (by omega)]
    exact e s hs
  · rw [n 14 (by decide), vCn_cg (S1 := S1) (fun k => o 3 k (by omega))]
    exact f2
theorem mR.f6 {q m : Nat} (h : mR S1 q H m) (v : Int32) : mR (siC S1 q 6 v) q (sA H 18 m v) m := by
  obtain ⟨⟨a1, a2, a3, a4, a5⟩, ⟨b1, b2⟩, c, ⟨d1, d2⟩, e, ⟨f1, f2⟩, g⟩ := h
  have n : ∀ i, i ≠ 6 → giC (siC S1 q 6 v) q i = giC S1 q i := fun i hi => by rw [gi_si, if_neg (fun z => hi z.2)]
  have o : ∀ j k, 0 < j → giC (siC S1 q 6 v) (q + j) k = giC S1 (q + j) k := fun j k hj => by rw [gi_si, if_neg (fun z => by omega)]
  refine ⟨⟨(n 2 (by decide)).trans a1, (n 3 (by decide)).trans a2, (n 4 (by decide)).trans a3, (n 5 (by decide)).trans a4, by rw [gi_si, if_pos ⟨rfl, rfl⟩]; exact (if_pos rfl).symm⟩, ⟨(n 7 (by decide)).trans b1, (n 11 (by decide)).trans b2⟩, fun z => ⟨(n 8 (by decide)).trans (c z).1, (n 9 (by decide)).trans (c z).2⟩, ⟨(o 1 1 (by omega)).trans d1, fun i hi => (o 2 i (by omega)).trans (d2 i hi)⟩, fun s hs => ?_, ⟨fun s h1 h2 => (o 3 s (by omega)).trans (f1 s h1 h2), ?_⟩, g⟩
  · rw [o 3 s (by omega)]
    exact e s hs
  · rw [n 14 (by decide), vCn_cg (S1 := S1) (fun k => o 3 k (by omega))]
    exact f2
theorem mR.sp {q m : Nat} (h : mR S1 q H m) (v w : Int32) (hk : H.2 14 m = 2 ∨ H.2 14 m = 3) : mR (siC (siC S1 q 8 v) q 9 w) q (sA (sA H 20 m v) 21 m w) m := by
  obtain ⟨⟨a1, a2, a3, a4, a5⟩, ⟨b1, b2⟩, c, ⟨d1, d2⟩, e, ⟨f1, f2⟩, g⟩ := h
  have n : ∀ i, i ≠ 8 → i ≠ 9 → giC (siC (siC S1 q 8 v) q 9 w) q i = giC S1 q i := fun i h8 h9 => by rw [gi_si, if_neg (fun z => h9 z.2), gi_si, if_neg (fun z => h8 z.2)]
  have o : ∀ j k, 0 < j → giC (siC (siC S1 q 8 v) q 9 w) (q + j) k = giC S1 (q + j) k := fun j k hj => by rw [gi_si, if_neg (fun z => by omega), gi_si, if_neg (fun z => by omega)]
  refine ⟨⟨(n 2 (by decide) (by decide)).trans a1, (n 3 (by decide) (by decide)).trans a2, (n 4 (by decide) (by decide)).trans a3, (n 5 (by decide) (by decide)).trans a4, (n 6 (by decide) (by decide)).trans a5⟩, ⟨(n 7 (by decide) (by decide)).trans b1, (n 11 (by decide) (by decide)).trans b2⟩, fun _ => ⟨?_, ?_⟩, ⟨(o 1 1 (by omega)).trans d1, fun i hi => (o 2 i (by omega)).trans (d2 i hi)⟩, fun s hs => ?_, ⟨fun s h1 h2 => (o 3 s (by omega)).trans (f1 s h1 h2), ?_⟩, fun z2 z3 => ?_⟩
  · rw [gi_si, if_neg (fun z => absurd z.2 (by decide)), gi_si, if_pos ⟨rfl, rfl⟩]
    exact (if_pos rfl).symm
  · rw [gi_si, if_pos ⟨rfl, rfl⟩]
    exact (if_pos rfl).symm
  · rw [o 3 s (by omega)]
    exact e s hs
  · rw [n 14 (by decide) (by decide), vCn_cg (S1 := S1) (fun k => o 3 k (by omega))]
    exact f2
  · rcases hk with y | y
    · exact absurd y z2
    · exact absurd y z3
/-- the top, in both -/
theorem top_L (h : HA H) (z : ¬ H.1 6 = 0) : hL H 0 (H.1 6 - 1).toNatClampNeg ∧ hM H 0 (H.1 6 - 1).toNatClampNeg = (f_X11_top H).1.toNatClampNeg := by
  have p := pend_pos h.1.ra z
  have b := h.1.ra.2.1
  have e := iSub (x := H.1 6) (y := 1) (by rw [i1]; omega) (by rw [i1]; omega)
  rw [i1] at e
  have k := iNat (x := H.1 6 - 1) (by omega)
  exact ⟨⟨by omega, by show _ < (H.1 6).toInt; omega⟩, rfl⟩
/-- the top's own numbers moved -/
theorem RR.tp (r : RR wF N S1 T1 x H) (ci : CI noE S1 T1 [] c1) (kx : iK S1 x 0) (h : HA H) (z : ¬ H.1 6 = 0) {q : Nat} (hq : q = (T1 (x + 1)).getD (H.1 6 - 1).toNatClampNeg 0) (hc : mC' q S1 S2) (hq3 : giC S2 q 0 = giC S1 q 0 ∧ giC S2 q 1 = giC S1 q 1 ∧ giC S2 q 10 = giC S1 q 10) (s : qM H2 H (f_X11_top H).1.toNatClampNeg) (mq : mR S2 q H2 (f_X11_top H).1.toNatClampNeg) (e : H2.1 1 = H.1 1 ∧ H2.1 2 = H.1 2 ∧ H2.1 3 = H.1 3 ∧ H2.1 4 = H.1 4 ∧ H2.1 5 = H.1 5) (e1 : H2.1 7 = H.1 7 ∧ H2.1 8 = H.1 8 ∧ H2.1 9 = H.1 9 ∧ H2.1 10 = H.1 10 ∧ H2.1 39 = H.1 39) (e2 : H2.2 11 = H.2 11 ∧ H2.2 12 = H.2 12 ∧ H2.2 38 = H.2 38 ∧ H2.2 40 = H.2 40 ∧ H2.2 41 = H.2 41) : RR wF N S2 T1 x H2 :=
  r.mo ci kx h.1 (top_L h z).1 hq.symm (top_L h z).2 hc.1 hq3 hc.2.1 hc.2.2.1 hc.2.2.2 s mq e e1 e2
/-- the lone draft's own numbers moved -/
theorem RR.dr (r : RR wF N S1 T1 x H) (ci : CI noE S1 T1 [] c1) (kx : iK S1 x 0) (h : HA H) (z1 : ¬ H.1 35 = 0) (z2 : H.1 36 = 0) {q : Nat} (hq : T1 (x + 4) = [q]) (hc : mC' q S1 S2) (hq3 : giC S2 q 0 = giC S1 q 0 ∧ giC S2 q 1 = giC S1 q 1 ∧ giC S2 q 10 = giC S1 q 10) (s : qM H2 H (H.2 32 0).toNatClampNeg) (mq : mR S2 q H2 (H.2 32 0).toNatClampNeg) (e : H2.1 1 = H.1 1 ∧ H2.1 2 = H.1 2 ∧ H2.1 3 = H.1 3 ∧ H2.1 4 = H.1 4 ∧ H2.1 5 = H.1 5) (e1 : H2.1 7 = H.1 7 ∧ H2.1 8 = H.1 8 ∧ H2.1 9 = H.1 9 ∧ H2.1 10 = H.1 10 ∧ H2.1 39 = H.1 39) (e2 : H2.2 11 = H.2 11 ∧ H2.2 12 = H.2 12 ∧ H2.2 38 = H.2 38 ∧ H2.2 40 = H.2 40 ∧ H2.2 41 = H.2 41) : RR wF N S2 T1 x H2 := by
  refine r.mo ci kx h.1 (dr_L h z1 z2).1 (q := q) (m := (H.2 32 0).toNatClampNeg) ?_ rfl hc.1 hq3 hc.2.1 hc.2.2.1 hc.2.2.2 s mq e e1 e2
  show (T1 (x + 4)).getD 0 0 = q
  rw [hq]
  rfl
theorem gi_o {S1 : Cst} {q k i : Nat} {v : Int32} (n : i ≠ k) : giC (siC S1 q k v) q i = giC S1 q i := by rw [gi_si, if_neg (fun z => n z.2)]
theorem ds_9 (a : AS x S T col S1 T1 c1) (r : RR wF N S1 T1 x H) (h : HA H) (i b c d : Int32) (z : ¬ H.1 6 = 0) : DS wF N x S T col (f_Y1_perform S1 x 9 i b c d) (f_X11_does H 9 i b c d) := by
  obtain ⟨u, eu, mt_, hu, hu2⟩ := (rr_top a r.2.1 h.1.ra).2 z
  unfold f_Y1_perform f_X11_does
  rw [if_neg (by decide), if_neg (by decide), if_neg (by decide), if_neg (by decide), if_neg (by decide), if_neg (by decide), if_neg (by decide), if_neg (by decide), if_pos rfl, if_neg (by decide), if_neg (by decide), if_neg (by decide), if_neg (by decide), if_neg (by decide), if_neg (by decide), if_neg (by decide), if_neg (by decide), if_pos rfl]
  unfold b_Y1_perform_193a f_Y1_speak
  rw [a.g1, Option.getD_some, eu]
  unfold b_X11_does_a268 b_X11_does_a281
  simp only [reduceCtorEq, if_false, Option.getD_some, top_s]
  have ku := a.m3 hu
  have e6 := mt_.1.2.2.2.2
  refine ⟨siC S1 u 6 (giC S1 u 6 + 1), T1, c1, ?_, ((QU.rf a.1).mI ku (by rw [(a.ci.tk _ u hu).2]; exact a.1.cx 1 (by omega)) 6 (giC S1 u 6 + 1) (by decide) (by omega)).1, r.tp a.ci a.k1 h z hu2 ((mC'.rf u S1).si 6 (giC S1 u 6 + 1) (j := 0) (by omega) rfl) ⟨gi_o (by decide), gi_o (by decide), gi_o (by decide)⟩ (qM.A H _ _ (by decide) (by decide) (by decide) (by decide)) ?_ ⟨rfl, rfl, rfl, rfl, rfl⟩ ⟨rfl, rfl, rfl, rfl, rfl⟩ ⟨rfl, rfl, rfl, rfl, rfl⟩⟩
  · rw [gi_si, if_pos ⟨rfl, rfl⟩, e6]
    refine Prod.ext ?_ rfl
    exact (if_pos rfl).symm
  · rw [e6]
    exact mt_.f6 _
theorem sup_v {q : Nat} (S1 : Cst) (i : Int32) : f_Y1_support S1 (some q) i = (1, siC S1 q 4 i) := rfl
theorem ds_16 (a : AS x S T col S1 T1 c1) (r : RR wF N S1 T1 x H) (h : HA H) (k i b c d : Int32) (hk : k = 16 ∨ k = 20) (z : ¬ H.1 6 = 0) : DS wF N x S T col (f_Y1_perform S1 x k i b c d) (f_X11_does H k i b c d) := by
  obtain ⟨u, eu, mt_, hu, hu2⟩ := (rr_top a r.2.1 h.1.ra).2 z
  have ku := a.m3 hu
  have e1 : f_Y1_perform S1 x k i b c d = (1, siC S1 u 4 i) := by
    unfold f_Y1_perform b_Y1_perform_236 b_Y1_perform_242a
    rw [a.g1, Option.getD_some, eu]
    rcases hk with rfl | rfl <;> rfl
  have e2 : f_X11_does H k i b c d = (1, sA H 16 (f_X11_top H).1.toNatClampNeg i) := by
    unfold f_X11_does b_X11_does_390 b_X11_does_a398
    rcases hk with rfl | rfl <;> rfl
  rw [e1, e2]
  exact ⟨_, T1, c1, rfl, ((QU.rf a.1).mI ku (by rw [(a.ci.tk _ u hu).2]; exact a.1.cx 1 (by omega)) 4 _ (by decide) (by omega)).1, r.tp a.ci a.k1 h z hu2 ((mC'.rf u S1).si 4 _ (j := 0) (by omega) rfl) ⟨gi_o (by decide), gi_o (by decide), gi_o (by decide)⟩ (qM.A H _ _ (by decide) (by decide) (by decide) (by decide)) (mt_.f4 _) ⟨rfl, rfl, rfl, rfl, rfl⟩ ⟨rfl, rfl, rfl, rfl, rfl⟩ ⟨rfl, rfl, rfl, rfl, rfl⟩⟩
theorem ds_7 (a : AS x S T col S1 T1 c1) (r : RR wF N S1 T1 x H) (h : HA H) (i b c d : Int32) : DS wF N x S T col (f_Y1_perform S1 x 7 i b c d) (f_X11_does H 7 i b c d) := by
  have r2 : RR wF N (siC S1 (x + 37) 6 i) T1 x (sI H 5 i) := r.hc a.ci a.k1 ((hC'.rf x S1).si _ _ (Or.inl rfl)) (sH.I _ _ (by decide) (by decide) (by decide) (by decide) (by decide)) ⟨rfl, rfl, rfl, rfl, rfl⟩ ⟨rfl, rfl, rfl⟩ (r.1.f6 i)
  have u2 := (QU.rf a.1).hI 6 i (by omega)
  have h2 : HA (sI H 5 i) := ⟨hi_5 h.1 i, h.2⟩
  unfold f_Y1_perform f_X11_does
  rw [if_neg (by decide), if_neg (by decide), if_neg (by decide), if_neg (by decide), if_neg (by decide), if_neg (by decide), if_pos rfl, if_neg (by decide), if_neg (by decide), if_neg (by decide), if_neg (by decide), if_neg (by decide), if_neg (by decide), if_pos rfl]
  unfold b_Y1_perform_179a f_Y1_giveFloor
  rw [a.g0, a.g1, Option.getD_some, Option.getD_some]
  obtain ⟨t0, t1⟩ := rr_top a r.2.1 h.1.ra
  by_cases z : H.1 6 = 0
  · have z' : (sI H 5 i).1 6 = 0 := z
    rw [t0 z, if_pos z', if_pos rfl]
    exact ⟨_, T1, c1, rfl, u2.1, r2⟩
  have z' : ¬ (sI H 5 i).1 6 = 0 := z
  obtain ⟨u, eu, mt_, hu, hu2⟩ := t1 z
  have ku := a.m3 hu
  rw [eu, if_neg z', if_neg (by simp)]
  unfold b_X11_does_a231 b_X11_does_a244
  simp only [Option.getD_some, top_s]
  have n37 := (mo_h a.ci a.k1 ku (j := 0) (by omega)).1
  have e5 : giC (siC S1 (x + 37) 6 i) u 5 = (sI H 5 i).2 17 (f_X11_top (sI H 5 i)).1.toNatClampNeg := by
    rw [gi_si, if_neg (fun y => n37 y.1)]
    exact mt_.1.2.2.2.1
  have m2 : mR (siC S1 (x + 37) 6 i) u (sI H 5 i) (f_X11_top (sI H 5 i)).1.toNatClampNeg := mt_.cg (fun j hj k => by rw [gi_si, if_neg (fun y => (mo_h a.ci a.k1 ku hj).1 y.1)]) rfl (fun _ _ _ => rfl) (fun _ _ => rfl) (fun _ _ => rfl)
  refine ⟨siC (siC S1 (x + 37) 6 i) u 5 (giC (siC S1 (x + 37) 6 i) u 5 + 1), T1, c1, ?_, (u2.mI (ik_si.mpr ku) (by rw [(a.ci.tk _ u hu).2]; exact a.1.cx 1 (by omega)) 5 (giC (siC S1 (x + 37) 6 i) u 5 + 1) (by decide) (by omega)).1, r2.tp u2.1.ci u2.1.k1 h2 z' hu2 ((mC'.rf u (siC S1 (x + 37) 6 i)).si 5 (giC (siC S1 (x + 37) 6 i) u 5 + 1) (j := 0) (by omega) rfl) ⟨gi_o (by decide), gi_o (by decide), gi_o (by decide)⟩ (qM.A _ _ _ (by decide) (by decide) (by decide) (by decide)) ?_ ⟨rfl, rfl, rfl, rfl, rfl⟩ ⟨rfl, rfl, rfl, rfl, rfl⟩ ⟨rfl, rfl, rfl, rfl, rfl⟩⟩
  · rw [gi_si, if_pos ⟨rfl, rfl⟩, e5]
    refine Prod.ext ?_ rfl
    exact (if_pos rfl).symm
  · rw [e5]
    exact m2.f5 _
theorem ds_11 (a : AS x S T col S1 T1 c1) (r : RR wF N S1 T1 x H) (h : HA H) (i b c d : Int32) (z1 : ¬ H.1 35 = 0) (z2 : H.1 36 = 0) (hk : H.2 14 (H.2 32 0).toNatClampNeg = 2 ∨ H.2 14 (H.2 32 0).toNatClampNeg = 3) : DS wF N x S T col (f_Y1_perform S1 x 11 i b c d) (f_X11_does H 11 i b c d) := by
  obtain ⟨u, eu, mt_, -, hu2⟩ := (rr_dr a r.2.1 r.2.2.1 h.1).2 z1 z2
  have hu : u ∈ T1 (x + 4) := by rw [hu2]; exact List.mem_singleton.mpr rfl
  have ku := a.m3 hu
  have cu : c1 u = x := by rw [(a.ci.tk _ u hu).2]; exact a.1.cx 4 (by omega)
  have e1 : f_Y1_perform S1 x 11 i b c d = (b - i, siC (siC S1 u 8 i) u 9 b) := by
    unfold f_Y1_perform b_Y1_perform_206a f_Y1_setSpan b_Y1_setSpan_22
    rw [a.g2, Option.getD_some, eu]
    rfl
  have e2 : f_X11_does H 11 i b c d = (b - i, sA (sA H 20 (H.2 32 0).toNatClampNeg i) 21 (H.2 32 0).toNatClampNeg b) := rfl
  rw [e1, e2]
  exact ⟨_, T1, c1, rfl, (((QU.rf a.1).mI ku cu 8 i (by decide) (by omega)).mI (ik_si.mpr ku) cu 9 b (by decide) (by omega)).1, r.dr a.ci a.k1 h z1 z2 hu2 (((mC'.rf u S1).si 8 _ (j := 0) (by omega) rfl).si 9 _ (j := 0) (by omega) rfl) ⟨(gi_o (by decide)).trans (gi_o (by decide)), (gi_o (by decide)).trans (gi_o (by decide)), (gi_o (by decide)).trans (gi_o (by decide))⟩ ((qM.A _ _ _ (by decide) (by decide) (by decide) (by decide)).tr (qM.A H _ _ (by decide) (by decide) (by decide) (by decide))) (mt_.sp i b hk) ⟨rfl, rfl, rfl, rfl, rfl⟩ ⟨rfl, rfl, rfl, rfl, rfl⟩ ⟨rfl, rfl, rfl, rfl, rfl⟩⟩
end
