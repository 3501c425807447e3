/-! ===== piles copied ===== -/
section
variable {wF : Prop × (Nat → Int32) × Int32 × (Nat → Int32)} {E : Nat → Prop} {x y : Nat} {S S1 S2 S3 S4 Sk : Cst} {T T1 T2 T3 Tk : Nat → List Nat} {F F1 : List Nat} {col c1 c2 c3 ck : Nat → Nat} {H H2 G R : HS} {N N2 M M2 : Int}
/-- cells of motions that stand in no pile but the spare one -/
def fD (x : Nat) (T1 : Nat → List Nat) (S : Cst) (z : Nat) : Prop := ∃ q, iK S q 3 ∧ dM q z ∧ ∀ c, c ≠ x → q ∉ T1 c
theorem fD.n {z : Nat} (h : fD x T1 S z) (e : eN S S2) : fD x T1 S2 z := by
  obtain ⟨q, k, d, n⟩ := h
  exact ⟨q, k.n e, d, n⟩
def cP (S : Cst) (L : List Nat) (S' : Cst) (L' : List Nat) : Prop := L'.length = L.length ∧ ∀ j, j < L.length → cq S (L.getD j 0) S' (L'.getD j 0)
/-- a motion of a pile is written by none of these -/
theorem fD.m (wf2 : wfS S2) (h : CI noE S1 T1 F c1) (g : gX (fD x T1 S2) S1 S2) {c q : Nat} (nc : c ≠ x) (m : q ∈ T1 c) : ∀ j, j < 4 → ∀ k, giC S2 (q + j) k = giC S1 (q + j) k := by
  have k := (h.tk c q m).1
  refine g.mo4 h.wf k (fun j hj ⟨q', k', d, n⟩ => ?_)
  have ne : q ≠ q' := fun y => n c nc (by rw [← y]; exact m)
  exact dM_a wf2 (k.n g.1) k' ne j hj d
theorem copy_v {P' P : Nat} (kP' : iK S1 P' 4) (cP' : c1 P' ≠ x) (o : own x P) (nP : P ≠ x) (h0 : CI noE S1 T1 [] c1) (hT : T1 P = []) : ∀ (n : Nat) (Sk : Cst) (Tk : Nat → List Nat) (ck : Nat → Nat) (i : Int32), Sst noE x S1 T1 [] c1 Sk Tk [] ck → 0 ≤ i.toInt → (Tk P).length = i.toInt → i.toInt ≤ (T1 P').length → (T1 P').length - i.toInt < n → (∀ j : Nat, (j : Int) < i.toInt → cq S1 ((T1 P').getD j 0) Sk ((Tk P).getD j 0)) → (∀ c, c ≠ P → c ≠ x → Tk c = T1 c) → gX (fD x T1 Sk) S1 Sk → sV Sk → ∃ S2 T2 c2, lp_Y0_copy_2 x P' P n Sk i = (0, S2) ∧ Sst noE x S1 T1 [] c1 S2 T2 [] c2 ∧ cP S1 (T1 P') S2 (T2 P) ∧ (∀ c, c ≠ P → c ≠ x → T2 c = T1 c) ∧ gX (fD x T1 S2) S1 S2 ∧ sV S2 := by
  intro n
  induction n with
  | zero => intro Sk Tk ck i hk h1 h2 h3 h4; omega
  | succ n ih =>
    intro Sk Tk ck i hk h1 h2 h3 h4 hK hF hG sv
    have nPP : P' ≠ P := fun z => by
      have e := hk.oc o
      rw [← z, hk.cl P' kP'.1] at e
      exact cP' e
    have nPx : P' ≠ x := fun z => by
      have e := kP'.2
      rw [z, hk.k.2] at e
      omega
    have kPk := kP'.n hk.en
    have eT : Tk P' = T1 P' := hF P' nPP nPx
    have w := hk.ci.tp P' (noE_n _) kPk
    rw [eT] at w
    rw [lp_Y0_copy_2]
    unfold st_Y0_copy_2
    by_cases c : i.toInt = (T1 P').length
    · have c' : giC Sk P' 1 ≤ i := iLe.mpr (by omega)
      rw [if_pos c']
      exact ⟨Sk, Tk, ck, rfl, hk, ⟨by omega, fun j hj => hK j (by omega)⟩, hF, hG, sv⟩
    · have c' : ¬ giC Sk P' 1 ≤ i := fun z => by have := iLe.mp z; omega
      have ea := at_s hk.ci (noE_n _) kPk (i := i) h1 (by rw [eT]; omega)
      have hn := iNat h1
      have mz : (Tk P').getD i.toNatClampNeg 0 ∈ Tk P' := by
        rw [List.getD_eq_getElem?_getD, List.getElem?_eq_getElem (show i.toNatClampNeg < _ by rw [eT]; omega)]
        exact List.getElem_mem _
      rw [ea]
      have ez : (T1 P').getD i.toNatClampNeg 0 = (Tk P').getD i.toNatClampNeg 0 := by rw [eT]
      generalize (Tk P').getD i.toNatClampNeg 0 = z at mz ez ⊢
      have kz := hk.ci.tk P' z mz
      rw [eT] at mz
      have kz1 := h0.tk P' z mz
      rw [if_neg c', if_neg (by simp)]
      simp only [Option.getD_some]
      have b1 := mT_b3 hk o nP (by omega)
      obtain ⟨S2', T2', q, c2', g1, g2, g3, g4, -, g6, g7, g8, g9⟩ := newMot_v hk (fun e => by rw [e] at b1; simp only [List.length_nil] at b1 ⊢; omega) (giC Sk z 2) sv
      rw [g1]
      have kz2 := kz.1.n g3.1
      have eT2 : T2' P = Tk P := g6 P nP
      have nzq : z ≠ q := fun e => g9 P' nPx (by rw [eT, ← e]; exact mz)
      obtain ⟨S3', r1, r2, r3, r4⟩ := bec4_v g2 g8 (g2.fc q (List.mem_cons_self ..)) kz2 nzq
      obtain ⟨-, S4', t1, t2, t3, _⟩ := y_put r2.1 (P := P) (noE_n _) o nP (by rw [eT2]; omega)
      have kq3 : iK S3' q 3 := r2.2.2.1
      have kq4 : iK S4' q 3 := kq3.n t3.1
      -- a motion but q stands
      have st : ∀ w, iK Sk w 3 → w ≠ q → ∀ j, j < 4 → ∀ k, giC S4' (w + j) k = giC Sk (w + j) k := fun w kw nw j hj k => by
        have k2 := kw.n g3.1
        have k3 := k2.n r2.2.1.1
        have x1 := g3.mo4 hk.ci.wf kw (dM_a g2.ci.wf k2 g8 nw) j hj k
        have x2 := r2.2.1.mo4 g2.ci.wf k2 (dM_a r2.1.ci.wf k3 kq3 nw) j hj k
        have x3 := (t3.x (D := fun _ => False)).mo4 r2.1.ci.wf k3 (fun _ _ y => y) j hj k
        rw [x3, x2, x1]
      have cz : cq Sk z S4' q := (r3.r ((t3.x (D := fun _ => False)).mo4 r2.1.ci.wf kq3 (fun _ _ y => y))).l (fun j hj k => (g3.mo4 hk.ci.wf kz.1 (dM_a g2.ci.wf kz2 g8 nzq) j hj k).symm)
      have fz : ∀ j, j < 4 → ∀ k, giC S1 (z + j) k = giC Sk (z + j) k := fun j hj k => by
        have e : Sk.2.2 (z + j) = S1.2.2 (z + j) := hk.fr (z + j) (by
          have W := W3k h0.wf kz1.1
          rcases (show j = 0 ∨ j = 1 ∨ j = 2 ∨ j = 3 by omega) with rfl | rfl | rfl | rfl
          · exact kz1.1.1
          · exact W.1.1
          · exact W.2.1.1
          · exact W.2.2.1) (by rw [h0.c3 z kz1.1 j hj, kz1.2]; exact cP')
        unfold giC
        rw [e]
      have frsh : ∀ c, c ≠ x → q ∉ T1 c := fun c nc m => by
        by_cases y : c = P
        · rw [y, hT] at m
          cases m
        · exact g9 c nc (by rw [hF c y nc]; exact m)
      have G4 : gX (fD x T1 S4') S1 S4' := by
        have e4 : eN Sk S4' := (g3.1.tr r2.2.1.1).tr t3.1
        have m1 : ∀ z, dM q z → fD x T1 S4' z := fun z d => ⟨q, kq4, d, frsh⟩
        exact (hG.mo (fun z h => h.n e4)).tr ((g3.mo m1).tr ((r2.2.1.mo m1).tr t3.x))
      have n4 : S4'.1 = S3'.1 := t3.2.2.2
      have sv4 : sV S4' := fun w kw => by
        by_cases y : w = q
        · rw [y]
          exact cz.v (sv z kz.1)
        · have k2 := (g7 w (ik_b (ik_b kw t3.1 n4) r2.2.1.1 r4)).resolve_left y
          have e := st w k2 y
          rw [vCn_cg (e 3 (by omega)), show giC S4' w 14 = giC Sk w 14 from e 0 (by omega) 14]
          exact sv w k2
      have e1 := iAdd (x := i) (y := 1) (by rw [i1]; omega) (by rw [i1]; omega)
      rw [i1] at e1
      obtain ⟨S5, T5, c5, l1, l3, l4, l5, l6, l7⟩ := ih S4' (tU T2' P (T2' P ++ [q])) c2' (i + 1) t2 (by omega) (by rw [tU_at, eT2, List.length_append, List.length_singleton]; omega) (by omega) (by omega) (fun j hj => by
        rw [tU_at, eT2]
        by_cases y : (j : Int) < i.toInt
        · rw [gD_app (by omega)]
          have m : (Tk P).getD j 0 ∈ Tk P := gD_mem (by omega)
          exact (hK j y).r (st _ (hk.ci.tk P _ m).1 (fun e => g9 P nP (by rw [← e]; exact m)))
        · have ej : j = (Tk P).length := by omega
          have ei : j = i.toNatClampNeg := by omega
          rw [gD_end ej, ei, ez]
          exact cz.l fz) (fun c a b => by rw [tU_ne _ _ a, g6 c b]; exact hF c a b) G4 sv4
      unfold b_Y0_copy_31a b_Y0_copy_40a b_Y0_copy_46
      simp only [Option.getD_some]
      rw [r1]
      simp only
      rw [t1]
      exact ⟨S5, T5, c5, l1, l3, l4, l5, l6, l7⟩
/-- the house of x is that of y -/
def hE (S1 : Cst) (y : Nat) (Sk : Cst) (x : Nat) : Prop := (∀ k, k = 0 ∨ k = 2 ∨ k = 3 ∨ k = 4 ∨ k = 5 ∨ k = 6 → giC Sk (x + 37) k = giC S1 (y + 37) k) ∧ (∀ s, s < 200 → giC Sk (x + 38) s = vp_nar .boolean (giC S1 (y + 38) s)) ∧ ∀ k, k < 9 → giC Sk (x + 39) k = giC S1 (y + 39) k
theorem hE.gx {D : Nat → Prop} (h : hE S1 y Sk x) (ci : CI noE Sk Tk F ck) (kx : iK Sk x 0) (g : gX D Sk S3) (n7 : ¬ D (x + 37)) (n8 : ¬ D (x + 38)) (n9 : ¬ D (x + 39)) : hE S1 y S3 x := by
  have k37 := (ci.wf.w0 kx).1.1
  have w1 := ci.wf.w1 k37
  have k38 : iK Sk (x + 38) 21 := w1.1.1
  have k39 : iK Sk (x + 39) 20 := w1.1.2.2.1
  obtain ⟨a, b, c⟩ := h
  refine ⟨fun k hk => ?_, fun s hs => ?_, fun k hk => ?_⟩
  · rw [g.2.1 _ k37.1 (by rw [k37.2]; decide) n7]
    exact a k hk
  · rw [g.2.1 _ k38.1 (by rw [k38.2]; decide) n8]
    exact b s hs
  · rw [g.2.1 _ k39.1 (by rw [k39.2]; decide) n9]
    exact c k hk
theorem zl_k' (ci : CI noE Sk Tk F ck) (kx : iK Sk x 0) {l : Nat} (hl : l = x + 7 ∨ l = x + 9) : iK Sk l 2 ∧ iK Sk ((grC Sk l 2).getD 0) 20 := by
  have w := ci.wf.w0 kx
  have k : iK Sk l 2 := by
    rcases hl with e | e <;> rw [e]
    · exact w.1.2.2.2.2.1
    · exact w.1.2.2.2.2.2.1
  exact ⟨k, (ci.wf.w2 k).2.1.2⟩
theorem jS.gx {D : Nat → Prop} (j : jS Sk x) (ci : CI noE Sk Tk F ck) (kx : iK Sk x 0) (g : gX D Sk S3) (n7 : ¬ D (x + 7)) (n9 : ¬ D (x + 9)) : jS S3 x := by
  obtain ⟨⟨c1', c2'⟩, d1, d2, d3, d4, d5⟩ := j
  have key : ∀ l, l = x + 7 ∨ l = x + 9 → ¬ D l → giC S3 l 0 = giC Sk l 0 ∧ grC S3 l 2 = grC Sk l 2 ∧ (oz Sk l → oz S3 l) := fun l hl n => by
    obtain ⟨kl, kz⟩ := zl_k' ci kx hl
    have gr := g.2.2 l kl.1 kl.2
    refine ⟨g.2.1 l kl.1 (by rw [kl.2]; decide) n 0, gr, fun o q k => ?_⟩
    rw [gr]
    by_cases y : q < Sk.1
    · exact o q ⟨y, by rw [← (g.1.2 q y).1]; exact k.2⟩
    · have := kz.1
      omega
  obtain ⟨u1, u2, u3⟩ := key (x + 7) (Or.inl rfl) n7
  obtain ⟨v1, v2, v3⟩ := key (x + 9) (Or.inr rfl) n9
  exact ⟨⟨u1.trans c1', v1.trans c2'⟩, u3 d1, v3 d2, by rw [u2, v2]; exact d3, by rw [u2]; exact d4, by rw [v2]; exact d5⟩
/-- so far copied -/
def BV (x y : Nat) (S1 : Cst) (T1 : Nat → List Nat) (D : Nat → Prop) (Sk : Cst) (Tk : Nat → List Nat) : Prop := (∀ g, g < 10 → D g → cP S1 (T1 (rP y g)) Sk (Tk (rP x g))) ∧ (∀ g, g < 10 → ¬ D g → Tk (rP x g) = []) ∧ hE S1 y Sk x ∧ sV Sk ∧ jS Sk x
theorem fD_n {z : Nat} (h : ∀ q, iK S q 3 → ¬ dM q z) : ¬ fD x T1 S z := fun ⟨q, k, d, _⟩ => h q k d
theorem BV.cp {D : Nat → Prop} (hk : Sst noE x S1 T1 [] c1 Sk Tk [] ck) (b : BV x y S1 T1 D Sk Tk) (h0 : CI noE S1 T1 [] c1) (ky : iK S1 y 0) (ny : y ≠ x) {g0 : Nat} (hg : g0 < 10) (nD : ¬ D g0) : ∃ S3 T3 c3, f_Y0_copy Sk x (rP y g0) (rP x g0) = (0, S3) ∧ Sst noE x S1 T1 [] c1 S3 T3 [] c3 ∧ BV x y S1 T1 (fun g => D g ∨ g = g0) S3 T3 ∧ ∀ d, pl x d → giC S3 d 0 = giC Sk d 0 := by
  obtain ⟨b1, b2, b3, b4, b5⟩ := b
  have kP1 : iK S1 (rP y g0) 4 := rP_k h0.wf ky hg
  have oy := rP_own (x := y) hg
  have cy : c1 (rP y g0) = y := by
    obtain ⟨j, hj, e⟩ := oy.1.lt
    rw [e]
    exact h0.c0 y ky j hj
  have kPk := kP1.n hk.en
  have ckP : ck (rP y g0) ≠ x := by rw [hk.cl _ kP1.1, cy]; exact ny
  have ox := rP_own (x := x) hg
  have w := hk.ci.tp (rP y g0) (noE_n _) kPk
  have eT : Tk (rP y g0) = T1 (rP y g0) := hk.ft _ kP1.1 (by rw [cy]; exact ny)
  obtain ⟨S3, T3, c3, f, s3, p3, t3, G, v3⟩ := copy_v kPk ckP ox.1 ox.2 hk.ci (b2 g0 hg nD) 100000 Sk Tk ck 0 (Sst.rf hk.ci hk.k1 (fun q m => by cases m)) (by rw [i0]; omega) (by rw [b2 g0 hg nD, i0]; rfl) (by rw [i0]; omega) (by rw [i0]; omega) (fun j hj => by rw [i0] at hj; omega) (fun _ _ _ => rfl) ((gF.rf Sk).x) b4
  have k3 := s3.k1
  have nH := fun q (k : iK S3 q 3) => dM_h s3.ci k3 k
  have nX := fun q (k : iK S3 q 3) => dM_x s3.ci k3 k
  refine ⟨S3, T3, c3, f, hk.tr s3, ⟨fun g hg' d => ?_, fun g hg' d => ?_, b3.gx hk.ci hk.k1 G (fD_n fun q k => (nH q k).1) (fD_n fun q k => (nH q k).2.1) (fD_n fun q k => (nH q k).2.2), v3, b5.gx hk.ci hk.k1 G (fD_n fun q k => (nX q k).2.2.1) (fD_n fun q k => (nX q k).2.2.2.1)⟩, fun d o => ?_⟩
  · by_cases y' : g = g0
    · rw [y']
      rw [eT] at p3
      refine ⟨p3.1, fun j hj => (p3.2 j hj).l (fun i hi k => ?_)⟩
      have m := h0.tk _ _ (gD_mem hj)
      have e : Sk.2.2 ((T1 (rP y g0)).getD j 0 + i) = S1.2.2 ((T1 (rP y g0)).getD j 0 + i) := hk.fr _ (by
        have W := W3k h0.wf m.1
        rcases (show i = 0 ∨ i = 1 ∨ i = 2 ∨ i = 3 by omega) with rfl | rfl | rfl | rfl
        · exact m.1.1
        · exact W.1.1
        · exact W.2.1.1
        · exact W.2.2.1) (by rw [h0.c3 _ m.1 i hi, m.2, cy]; exact ny)
      unfold giC
      rw [e]
    · have d := d.resolve_right y'
      have ne : rP x g ≠ rP x g0 := fun e => y' (rP_inj e)
      have nx := (rP_own (x := x) hg').2
      rw [t3 _ ne nx]
      obtain ⟨l, q⟩ := b1 g hg' d
      exact ⟨l, fun j hj => (q j hj).r (fD.m s3.ci.wf hk.ci G nx (gD_mem (by omega)))⟩
  · have ne : rP x g ≠ rP x g0 := fun e => d (Or.inr (rP_inj e))
    rw [t3 _ ne (rP_own (x := x) hg').2]
    exact b2 g hg' (fun e => d (Or.inl e))
  · have k := pl.lt hk.ci hk.k1 o
    refine G.2.1 d k.1 (by rw [k.2]; decide) (fD_n fun q kq y' => ?_) 0
    rcases o with o | ⟨p, hp, o⟩
    · exact (nX q kq).2.1 (by rw [← o]; exact y')
    · exact (nX q kq).2.2.2.2.2.2 p hp (by rw [← o]; exact y')
theorem BV.so {D : Nat → Prop} (hk : Sst noE x S1 T1 [] c1 Sk Tk [] ck) (b : BV x y S1 T1 D Sk Tk) {d : Nat} (o : pl x d) (v : Int32) : BV x y S1 T1 D (siC Sk d 0 v) Tk := by
  obtain ⟨b1, b2, b3, b4, b5⟩ := b
  have k := pl.lt hk.ci hk.k1 o
  have w0 := hk.ci.wf.w0 hk.k1
  have w1 := hk.ci.wf.w1 w0.1.1
  have G : gX (fun z => z = d) Sk (siC Sk d 0 v) := gX.si Sk d 0 v
  have nm : ∀ q, iK Sk q 3 → ∀ j, j < 4 → ¬ q + j = d := fun q kq j hj e => by
    obtain ⟨-, m3, -, -, -, -, m13⟩ := mo_x hk.ci hk.k1 kq hj
    rcases o with o | ⟨p, hp, o⟩
    · exact m3 (e.trans o)
    · exact m13 p hp (e.trans o)
  refine ⟨fun g hg h => ?_, b2, b3.gx hk.ci hk.k1 G (fun e => ik_ne k w0.1.1 (by decide) e.symm) (fun e => ik_ne k w1.1.1 (by decide) e.symm) (fun e => ik_ne k w1.1.2.2.1 (by decide) e.symm), b4.gx G hk.ci.wf nm (fun q c => ik_si.mp c), b5.gx hk.ci hk.k1 G (fun e => ik_ne k w0.1.2.2.2.2.1 (by decide) e.symm) (fun e => ik_ne k w0.1.2.2.2.2.2.1 (by decide) e.symm)⟩
  obtain ⟨l, q⟩ := b1 g hg h
  refine ⟨l, fun j hj => (q j hj).r (fun i hi kk => ?_)⟩
  have m := hk.ci.tk _ _ (gD_mem (show j < (Tk (rP x g)).length by omega))
  rw [gi_si, if_neg (fun e => nm _ m.1 i hi e.1)]
end
