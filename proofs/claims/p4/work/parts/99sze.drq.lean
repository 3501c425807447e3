/-! ===== both sides, whole ===== -/
section
variable {wF : Prop × (Nat → Int32) × Int32 × (Nat → Int32)} {x y a b l : Nat} {r2 r3 : Option Nat} {S S1 S2 S3 S4 Sk : Cst} {T T1 T2 T3 Tk : Nat → List Nat} {F F1 : List Nat} {col c1 c2 c3 ck : Nat → Nat} {H H2 G R O : HS} {M M2 : MS}
/-- an image kept -/
def IM (S : Cst) (T : Nat → List Nat) (r : Option Nat) (k : Nat) (O : HS) : Prop := (r = none → O.2 3 k = -1) ∧ ∀ c, r = some c → O.2 3 k ≠ -1 ∧ 0 ≤ (O.2 3 k).toInt ∧ jS S c ∧ ∃ z, JX S T c (O.2 2 k) (O.2 3 k).toNatClampNeg (fun i => O.2 4 (3600 * k + i)) z
/-- the told entries -/
def TE (S : Cst) (l : Nat) (O : HS) : Prop := giC S l 0 = 6 ∧ giC S l 3 = O.1 6 ∧ 6 * (O.1 6).toInt ≤ lcl S l ∧ oz S l ∧ ∀ i j : Nat, (i : Int) < (O.1 6).toInt → j < 6 → giC S ((grC S l 2).getD 0) (6 * i + j) = O.2 5 (6 * i + j)
def CT (S : Cst) (M : MS) (a b : Nat) (r2 r3 : Option Nat) (l : Nat) (T : Nat → List Nat) : Prop := (∃ z, RR (True, z, M.2.1.1 0, M.2.1.2 40) (M.2.1.1 7).toInt S T a M.2.1 ∧ JX S T a (M.2.1.1 0) (M.2.1.1 7).toNatClampNeg (M.2.1.2 40) z) ∧ jS S b ∧ (IM S T r2 0 M.1 ∧ IM S T r3 1 M.1) ∧ TE S l M.1
def RQ (S : Cst) (M : MS) : Prop := ∃ a b r2 r3 l T col, KJ 82 a b r2 r3 l S T col ∧ CT S M a b r2 r3 l T
theorem KJ.m2 {c : Nat} (_ : KJ 82 a b (some c) r3 l S T col) : c ∈ kA a b (some c) r3 := by
  unfold kA
  simp
theorem KJ.m3 {c : Nat} (_ : KJ 82 a b r2 (some c) l S T col) : c ∈ kA a b r2 (some c) := by
  unfold kA
  simp
theorem IM.tP {k : Nat} {r : Option Nat} (h : IM S T r k O) (e : ∀ c, r = some c → ∀ g, g < 10 → T2 (rP c g) = T (rP c g)) : IM S T2 r k O :=
  ⟨h.1, fun c hc => by
    obtain ⟨p1, p2, p3, z, p4⟩ := h.2 c hc
    exact ⟨p1, p2, p3, z, p4.tP (e c hc)⟩⟩
theorem RQ.mk (k : KI S 82) (g0 : grC S 82 0 = some a) (g1 : grC S 82 1 = some b) (g2 : grC S 82 2 = r2) (g3 : grC S 82 3 = r3) (g4 : grC S 82 4 = some l) (ci : CI noE S T [] col) (c : CT S M a b r2 r3 l T) : RQ S M := by
  obtain ⟨a', b', r2', r3', l', T', col', h⟩ := k
  obtain ⟨e0, e1, e2, e3, e4⟩ := h.2.2.1
  obtain rfl : a' = a := Option.some.inj (e0.symm.trans g0)
  obtain rfl : b' = b := Option.some.inj (e1.symm.trans g1)
  obtain rfl : r2' = r2 := e2.symm.trans g2
  obtain rfl : r3' = r3 := e3.symm.trans g3
  obtain rfl : l' = l := Option.some.inj (e4.symm.trans g4)
  have t : ∀ c, c ∈ kA a' b' r2' r3' → ∀ g, g < 10 → T' (rP c g) = T (rP c g) := fun c m g hg => T_eq h.ci ci (rP_k h.ci.wf (h.2.2.2.2.1 c m).1 hg)
  obtain ⟨⟨z, q1, q2⟩, q3, ⟨q4, q5⟩, q6⟩ := c
  refine ⟨a', b', r2', r3', l', T', col', h, ⟨z, q1.tP (t a' (KJ.ma h)), q2.tP (t a' (KJ.ma h))⟩, q3, ⟨q4.tP (fun c e => ?_), q5.tP (fun c e => ?_)⟩, q6⟩
  · subst e
    exact t c (KJ.m2 h)
  · subst e
    exact t c (KJ.m3 h)
/-- what stands when x moves -/
theorem IM.og (h : KJ 82 a b r2 r3 l S T col) {k : Nat} {r : Option Nat} (im : IM S T r k O) (hc : ∀ c, r = some c → iK S c 0) (en : eN S S2) (wf2 : wfS S2) (fr : ∀ c, r = some c → ∀ q, q < S.1 → col q = c → S2.2.2 q = S.2.2 q) (ft : ∀ c, r = some c → ∀ d, d < S.1 → col d = c → T2 d = T d) (sv2 : sV S2) : IM S2 T2 r k O :=
  ⟨im.1, fun c e => by
    obtain ⟨p1, p2, p3, z, p4⟩ := im.2 c e
    exact ⟨p1, p2, p3.og h.ci (hc c e) en (fr c e), z, p4.og h.ci (hc c e) en wf2 (fr c e) (ft c e) sv2⟩⟩
theorem TE.og (t : TE S l O) (kl : iK S l 2) (wf : wfS S) (en : eN S S2) (el : S2.2.2 l = S.2.2 l) (ez : S2.2.2 ((grC S l 2).getD 0) = S.2.2 ((grC S l 2).getD 0)) : TE S2 l O := by
  obtain ⟨t0, t1, t2, to, t3⟩ := t
  have z := (wf.w2 kl).2.1.2
  have r : grC S2 l 2 = grC S l 2 := by unfold grC; rw [el]
  refine ⟨?_, ?_, ?_, fun q k => ?_, fun i j hi hj => ?_⟩
  · unfold giC
    rw [el]
    exact t0
  · unfold giC
    rw [el]
    exact t1
  · unfold lcl
    rw [r, (en.2 _ z.1).2]
    exact t2
  · rw [r]
    by_cases y : q < S.1
    · exact to q ⟨y, by rw [← (en.2 q y).1]; exact k.2⟩
    · have := z.1
      omega
  · rw [r]
    unfold giC
    rw [ez]
    exact t3 i j hi hj
/-- all but x's own -/
theorem CT.oth (h : KJ 82 a b r2 r3 l S T col) (hx : x ∈ kA a b r2 r3) (g : Sst noE x S T [] col S2 T2 [] c2) (sv2 : sV S2) : (∀ r k, (r = r2 ∨ r = r3) → (∀ c, r = some c → c ≠ x) → IM S T r k O → IM S2 T2 r k O) ∧ (TE S l O → TE S2 l O) ∧ (∀ c, c ∈ kA a b r2 r3 → c ≠ x → (jS S c → jS S2 c) ∧ ∀ n e P z, JX S T c n e P z → JX S2 T2 c n e P z) := by
  have hX := h.2.2.2.2.1 x hx
  have mem : ∀ r, (r = r2 ∨ r = r3) → ∀ c, r = some c → c ∈ kA a b r2 r3 := fun r hr c e => by
    subst e
    unfold kA
    rcases hr with e | e
    · rw [← e]
      simp
    · rw [← e]
      simp
  refine ⟨fun r k hr nc im => im.og h (fun c e => (h.2.2.2.2.1 c (mem r hr c e)).1) g.en g.ci.wf (fun c e q a w => g.fr q a (by rw [w]; exact nc c e)) (fun c e d a w => g.ft d a (by rw [w]; exact nc c e)) sv2, fun t => ?_, fun c m nc => ⟨fun j => j.og h.ci (h.2.2.2.2.1 c m).1 g.en (fun q a w => g.fr q a (by rw [w]; exact nc)), fun n e P z j => j.og h.ci (h.2.2.2.2.1 c m).1 g.en g.ci.wf (fun q a w => g.fr q a (by rw [w]; exact nc)) (fun d a w => g.ft d a (by rw [w]; exact nc)) sv2⟩⟩
  have z := (h.ci.wf.w2 h.kl).2.1.2
  exact t.og h.kl h.ci.wf g.en (g.fr l h.kl.1 hX.2.2.2.2) (g.fr _ z.1 (by rw [h.ci.c2 l h.kl]; exact hX.2.2.2.2))
/-- refs of the object stand -/
theorem KJ.refs (h : KJ 82 a b r2 r3 l S T col) (hx : x ∈ kA a b r2 r3) (g : Sst noE x S T [] col S2 T2 [] c2) : grC S2 82 0 = some a ∧ grC S2 82 1 = some b ∧ grC S2 82 2 = r2 ∧ grC S2 82 3 = r3 ∧ grC S2 82 4 = some l := by
  have em : S2.2.2 82 = S.2.2 82 := g.fr 82 h.km.1 (h.2.2.2.2.1 x hx).2.2.2.1
  have gm : ∀ k, grC S2 82 k = grC S 82 k := fun k => by unfold grC; rw [em]
  simp only [gm]
  exact h.2.2.1
theorem KJ.n2 {c : Nat} (h : KJ 82 a b (some c) r3 l S T col) : c ≠ a ∧ c ≠ b := by
  have hn := h.2.2.2.1
  unfold kA at hn
  simp at hn
  exact ⟨fun e => hn.1.2.1 e.symm, fun e => hn.2.1.1 e.symm⟩
theorem KJ.n3 {c : Nat} (h : KJ 82 a b r2 (some c) l S T col) : c ≠ a ∧ c ≠ b := by
  have hn := h.2.2.2.1
  unfold kA at hn
  cases r2 with
  | none =>
    simp at hn
    exact ⟨fun e => hn.1.2 e.symm, fun e => hn.2 e.symm⟩
  | some d =>
    simp at hn
    exact ⟨fun e => hn.1.2.2 e.symm, fun e => hn.2.1.2 e.symm⟩
/-- an act -/
theorem rq_act (q : RQ S M) (mi : MI M) {act i b' c d : Int32} (h1 : 1 ≤ act.toInt) (h2 : act.toInt ≤ 22) (hz : nz act i b' c d) {v : Int32} (e : f_Y0_enact S ((grC S 82 0).getD 0) act i b' c d = (v, S2)) : v = (f_X11_act M.2.1 act i b' c d).1 ∧ RQ S2 (mH M (f_X11_act M.2.1 act i b' c d).2) := by
  obtain ⟨a, b, r2, r3, l, T, col, h, ⟨z, q1, q2⟩, q3, ⟨q4, q5⟩, q6⟩ := q
  rw [h.g0, Option.getD_some] at e
  have h7 := mi.1.2.1
  have k7 := iNat (x := M.2.1.1 7) h7.1
  have en : (M.2.1.1 7).toInt = (((M.2.1.1 7).toNatClampNeg : Nat) : Int) := k7.symm
  obtain ⟨S3, T3, c3, f, as, e', z', p1, p2, p3, p4⟩ := q2.act (h.as (KJ.ma h)) (by rw [← en]; exact q1) mi.1 en h1 h2 hz
  obtain ⟨ev, rfl⟩ := Prod.mk.inj (e.symm.trans f)
  have k2 := h.step (KJ.ma h) as.1 as.2
  have sv2 : sV S2 := p3.2.2.2.2.1.2.1
  obtain ⟨o1, o2, o3⟩ := CT.oth (O := M.1) h (KJ.ma h) as.1 sv2
  have k8 : ((f_X11_act M.2.1 act i b' c d).2.1 7).toNatClampNeg = e' := by
    have := iNat (x := (f_X11_act M.2.1 act i b' c d).2.1 7) (by omega)
    omega
  refine ⟨ev, a, b, r2, r3, l, T3, c3, k2, ⟨z', ?_, ?_⟩, (o3 b (KJ.mb h) (fun e => KJ.nab h e.symm)).1 q3, ⟨o1 r2 0 (Or.inl rfl) (fun c e => ?_) q4, o1 r3 1 (Or.inr rfl) (fun c e => ?_) q5⟩, o2 q6⟩
  · show RR (True, z', (f_X11_act M.2.1 act i b' c d).2.1 0, (f_X11_act M.2.1 act i b' c d).2.2 40) ((f_X11_act M.2.1 act i b' c d).2.1 7).toInt S2 T3 a (f_X11_act M.2.1 act i b' c d).2
    rw [p2, p1]
    exact p3
  · show JX S2 T3 a ((f_X11_act M.2.1 act i b' c d).2.1 0) ((f_X11_act M.2.1 act i b' c d).2.1 7).toNatClampNeg ((f_X11_act M.2.1 act i b' c d).2.2 40) z'
    rw [p2, k8]
    exact p4
  · subst e
    exact (KJ.n2 h).1
  · subst e
    exact (KJ.n3 h).1
end
