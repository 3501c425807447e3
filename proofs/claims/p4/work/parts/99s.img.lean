/-! ===== tell, strike, image, back ===== -/
section
variable {m a b l x : Nat} {r2 r3 : Option Nat} {A A' : List Nat} {S S1 S2 S3 : Cst} {T T1 T2 : Nat → List Nat} {col c1 c2 : Nat → Nat}
/-- the row's ledger moved on -/
theorem KG.row (h : KG m a b r2 r3 l A S T col) (g : LSt noE T [] l S col S2 c2) : KG m a b r2 r3 l A S2 T c2 := by
  have kz := (h.ci.wf.w2 h.kl).2.1.2
  have cz := h.ci.c2 l h.kl
  have fr : ∀ x, x ∈ A → ∀ q, q < S.1 → col q = x → S2.2.2 q = S.2.2 q := fun x mx q a e => g.2.2.2.1 q a (fun z => (h.2.2.2.2.1 x mx).2.2.2.2 (by rw [← z]; exact e)) (fun z => (h.2.2.2.2.1 x mx).2.2.2.2 (by rw [← cz, ← z]; exact e))
  have em : S2.2.2 m = S.2.2 m := g.2.2.2.1 m h.km.1 (fun z => by have := h.km.2; rw [z, h.kl.2] at this; omega) (fun z => by have := h.km.2; rw [z, kz.2] at this; omega)
  have gm : ∀ k, grC S2 m k = grC S m k := fun k => by unfold grC; rw [em]
  have O := fun z (mz : z ∈ A) => oth_g h.ci (h.2.2.2.2.1 z mz).1 g.2.1 (fr z mz) (fun _ _ _ => rfl) (h.2.2.2.2.1 z mz).2.1
  refine ⟨g.1, ⟨h.km.n g.2.1, h.kl.n g.2.1, by rw [g.2.2.1 m h.km.1]; exact h.2.1.2.2.1, by rw [g.2.2.1 l h.kl.1]; exact h.2.1.2.2.2⟩, ?_, h.2.2.2.1, fun z mz => ?_, ?_, ?_⟩
  · simp only [gm]
    exact h.2.2.1
  · have hz := h.2.2.2.2.1 z mz
    exact ⟨hz.1.n g.2.1, (O z mz).1, hz.2.2.1, by rw [g.2.2.1 m h.km.1]; exact hz.2.2.2.1, by rw [g.2.2.1 l h.kl.1]; exact hz.2.2.2.2⟩
  · rw [smL_cg A (fun z mz => (O z mz).2.2.1)]
    have := h.2.2.2.2.2.1
    have := g.2.2.2.2.2.2.1
    omega
  · rw [smL_cg A (fun z mz => (O z mz).2.2.2)]
    have := h.2.2.2.2.2.2
    have := g.2.2.2.2.2.2.2
    omega
theorem k_strike (h : KI S m) : kW S m (fun _ _ => p_Y10_strike S m) (f_Y10_strike S m) := by
  obtain ⟨a, b, r2, r3, l, T, col, h⟩ := h
  have g := LSt.n h.ci h.kl (v := 0) ⟨by rw [i0]; omega, by rw [i0]; omega⟩
  unfold p_Y10_strike f_Y10_strike
  simp only [h.g4, Option.getD_some, ir_so]
  exact ⟨_, _, rfl, fun _ _ _ _ => ⟨h.kl, h.kl, trivial⟩, KJ.i (h.row g), g.2.1⟩
theorem r6_strike (h : KI S m) : (f_Y10_strike S m).1 = rw6 S m ∧ rw6 (f_Y10_strike S m).2 m = 0 := by
  obtain ⟨a, b, r2, r3, l, T, col, h⟩ := h
  have g := LSt.n h.ci h.kl (v := 0) ⟨by rw [i0]; omega, by rw [i0]; omega⟩
  have h2 := h.row g
  unfold f_Y10_strike rw6
  refine ⟨rfl, ?_⟩
  simp only [h.g4, Option.getD_some]
  rw [h2.g4, Option.getD_some, gi_si, if_pos ⟨rfl, rfl⟩]
theorem kw_r (h : KG m a b r2 r3 l A S T col) (c v : Int32) : iR S (grC S m 4) 2 ∧ p_Y3_write S ((grC S m 4).getD 0) c v ∧ ∃ S2, f_Y3_write S ((grC S m 4).getD 0) c v = (0, S2) ∧ LSt noE T [] l S col S2 col ∧ giC S2 l 3 = giC S l 3 := by
  obtain ⟨p, S2, f, g, e⟩ := w_write h.ci h.kl c v
  rw [h.g4]
  exact ⟨ir_so.mpr h.kl, p, S2, f, g, e⟩
/-- what tell answers, and the row's size behind it -/
theorem k_tell2 (h : KJ m a b r2 r3 l S T col) (i0' i1' i2 i3 i4 i5 : Int32) : ∃ v S2 c2, f_Y10_tell S m i0' i1' i2 i3 i4 i5 = (v, S2) ∧ (∀ lc ls, S2.1 ≤ lc → S2.2.1 ≤ ls → p_Y10_tell S m lc ls i0' i1' i2 i3 i4 i5) ∧ KJ m a b r2 r3 l S2 T c2 ∧ eN S S2 ∧ (giC S l 3 < 600 → v = giC S l 3 + 1 ∧ giC S2 l 3 = giC S l 3 + 1) ∧ (¬ giC S l 3 < 600 → v = -10 ∧ S2 = S) := by
  have w := h.ci.wf.w2 h.kl
  unfold f_Y10_tell p_Y10_tell
  simp only [h.g4, Option.getD_some, ir_so]
  rw [isF, w.1.2.1]
  by_cases c : giC S l 3 < 600
  · simp only [if_pos c, if_true]
    obtain ⟨S2, c2, f, p, g, eg⟩ := w_open h.ci h.kl
    rw [if_pos c] at eg
    have h2 := h.row g
    obtain ⟨j0, p0, S3, f0, g0, s0⟩ := kw_r h2 0 i0'
    have h3 := h2.row g0
    obtain ⟨j1, p1, S4, f1, g1, s1⟩ := kw_r h3 1 i1'
    have h4 := h3.row g1
    obtain ⟨j2, p2, S5, f2, g2, s2⟩ := kw_r h4 2 i2
    have h5 := h4.row g2
    obtain ⟨j3, p3, S6, f3, g3, s3⟩ := kw_r h5 3 i3
    have h6 := h5.row g3
    obtain ⟨j4, p4, S7, f4, g4, s4⟩ := kw_r h6 4 i4
    have h7 := h6.row g4
    obtain ⟨j5, p5, S8, f5, g5, s5⟩ := kw_r h7 5 i5
    have h8 := h7.row g5
    have G := ((((g0.tr g1).tr g2).tr g3).tr g4).tr g5
    unfold b_Y10_tell_20a q_Y10_tell_20a b_Y10_tell_29a q_Y10_tell_29a b_Y10_tell_38a q_Y10_tell_38a b_Y10_tell_47a q_Y10_tell_47a b_Y10_tell_57a q_Y10_tell_57a b_Y10_tell_67a q_Y10_tell_67a b_Y10_tell_77a q_Y10_tell_77a
    rw [f]
    simp only [f0, f1, f2, f3, f4, f5]
    have e8 : giC S8 l 3 = giC S l 3 + 1 := by rw [s5, s4, s3, s2, s1, s0, eg]
    refine ⟨_, S8, c2, rfl, fun lc ls A B => ⟨h.kl, y_isFull _ _, h.kl, ⟨⟨g.2.1.1.1, Nat.le_trans G.2.1.1.1 A⟩, g.2.1.1.2, Nat.le_trans G.2.1.1.2 B⟩, p _ _ (Nat.le_refl _) (Nat.le_refl _), j0, p0, j1, p1, j2, p2, j3, p3, j4, p4, j5, p5, ?_, trivial⟩, h8, g.2.1.tr G.2.1, fun _ => ⟨?_, e8⟩, fun n => absurd c n⟩
    · rw [h8.g4]
      exact ir_so.mpr h8.kl
    · rw [h8.g4, Option.getD_some]
      exact e8
  · have e1 : ¬ ((1 : Int32) = 0) := by decide
    simp only [if_neg c, if_neg e1]
    exact ⟨-10, S, col, rfl, fun _ _ _ _ => ⟨h.kl, y_isFull _ _, trivial⟩, h, eN.rf S, fun n => absurd n c, fun _ => ⟨rfl, rfl⟩⟩
theorem k_tell (h : KI S m) (i0' i1' i2 i3 i4 i5 : Int32) : kW S m (fun lc ls => p_Y10_tell S m lc ls i0' i1' i2 i3 i4 i5) (f_Y10_tell S m i0' i1' i2 i3 i4 i5) := by
  obtain ⟨a, b, r2, r3, l, T, col, h⟩ := h
  obtain ⟨v, S2, c2, f, p, k, g, _⟩ := k_tell2 h i0' i1' i2 i3 i4 i5
  exact ⟨v, S2, f, p, KJ.i k, g⟩
theorem r6_tell (h : KI S m) (i0' i1' i2 i3 i4 i5 : Int32) : (rw6 S m < 600 → (f_Y10_tell S m i0' i1' i2 i3 i4 i5).1 = rw6 S m + 1 ∧ rw6 (f_Y10_tell S m i0' i1' i2 i3 i4 i5).2 m = rw6 S m + 1) ∧ (¬ rw6 S m < 600 → (f_Y10_tell S m i0' i1' i2 i3 i4 i5).1 = -10 ∧ rw6 (f_Y10_tell S m i0' i1' i2 i3 i4 i5).2 m = rw6 S m) := by
  obtain ⟨a, b, r2, r3, l, T, col, h⟩ := h
  obtain ⟨v, S2, c2, f, p, k, g, q1, q2⟩ := k_tell2 h i0' i1' i2 i3 i4 i5
  rw [f]
  have e1 : rw6 S m = giC S l 3 := by unfold rw6; rw [h.g4, Option.getD_some]
  have e2 : rw6 S2 m = giC S2 l 3 := by unfold rw6; rw [k.g4, Option.getD_some]
  dsimp only
  rw [e1, e2]
  refine ⟨q1, fun z => ?_⟩
  obtain ⟨x1, x2⟩ := q2 z
  rw [x2]
  exact ⟨x1, rfl⟩
/-- an image's field set -/
theorem CI.m7 {E : Nat → Prop} {F : List Nat} (h : CI E S T F col) {c f : Nat} (k : iK S m 7) (hf : f = 2 ∨ f = 3) (kc : iK S c 0) : CI E (srC S m f (some c)) T F col := by
  refine ⟨wf_sr h.wf ?_, h.tz, fun c q m => ⟨ik_sr.mpr (h.tk c q m).1, (h.tk c q m).2⟩, h.td, h.tn, ⟨h.tf.1, fun q m => ⟨ik_sr.mpr (h.tf.2 q m).1, (h.tf.2 q m).2⟩⟩, fun Q e kQ => ?_, fun y ky => ?_, fun y ky => h.c0 y (ik_sr.mp ky), fun q kq => h.c3 q (ik_sr.mp kq), fun z kz => ?_⟩
  · refine ⟨fun w y => by cases y; exact kc.1, ?_, ?_, ?_, ?_, ?_, ?_, ?_, fun _ => ⟨hf, Or.inr ⟨c, rfl, kc⟩⟩, ?_, ?_⟩ <;> (rw [k.2]; intro z; omega)
  · have kQ := ik_sr.mp kQ
    have w := h.tp Q e kQ
    rw [gi_sr]
    refine ⟨w.1, w.2.1, fun i hi => ?_⟩
    rw [gr_sr, if_neg (fun z => by have := (h.wf.w4 kQ).1.1.2; rw [z.1, k.2] at this; omega)]
    exact w.2.2 i hi
  · have ky := ik_sr.mp ky
    rw [gr_sr, if_neg (fun z => by have := ky.2; rw [z.1, k.2] at this; omega)]
    exact (h.tc y ky).cg _ _ (fun z m => by rw [gr_sr, if_neg (fun w => by have := (h.tk y z m).1.2; rw [w.1, k.2] at this; omega)])
  · have kz := ik_sr.mp kz
    rw [gr_sr, if_neg (fun w => by have := kz.2; rw [w.1, k.2] at this; omega)]
    exact h.c2 z kz
theorem KG.set (h : KG m a b r2 r3 l A S T col) {c f : Nat} (hf : f = 2 ∨ f = 3) (hc : c ∈ A) : KG m a b (if f = 2 then some c else r2) (if f = 3 then some c else r3) l A (srC S m f (some c)) T col := by
  have kc := (h.2.2.2.2.1 c hc).1
  have en : eN S (srC S m f (some c)) := (eK.sr ..).n
  have O := fun z (mz : z ∈ A) => oth_g (S2 := srC S m f (some c)) h.ci (h.2.2.2.2.1 z mz).1 en (fun q _ e => ce_sr _ _ (fun y => (h.2.2.2.2.1 z mz).2.2.2.1 (by rw [← y]; exact e))) (fun _ _ _ => rfl) (h.2.2.2.2.1 z mz).2.1
  have el : (srC S m f (some c)).2.2 l = S.2.2 l := ce_sr _ _ (fun y => by have := h.kl.2; rw [y, h.km.2] at this; omega)
  have lc : lcl (srC S m f (some c)) l = lcl S l := by
    unfold lcl
    have e2 : grC (srC S m f (some c)) l 2 = grC S l 2 := by unfold grC; rw [el]
    rw [e2, ln_sr]
  have lp : psL (srC S m f (some c)) l = psL S l := by
    unfold psL
    rw [lc, gi_sr]
  refine ⟨h.ci.m7 h.km hf kc, ⟨ik_sr.mpr h.km, ik_sr.mpr h.kl, h.2.1.2.2⟩, ?_, h.2.2.2.1, fun z mz => ⟨ik_sr.mpr (h.2.2.2.2.1 z mz).1, (O z mz).1, (h.2.2.2.2.1 z mz).2.2⟩, ?_, ?_⟩
  · obtain ⟨g0, g1, g2, g3, g4⟩ := h.2.2.1
    rcases hf with rfl | rfl
    · simp [gr_sr, g0, g1, g3, g4]
    · simp [gr_sr, g0, g1, g2, g4]
  · rw [smL_cg A (fun z mz => (O z mz).2.2.1), lc]
    exact h.2.2.2.2.2.1
  · rw [smL_cg A (fun z mz => (O z mz).2.2.2), lp]
    exact h.2.2.2.2.2.2
theorem KG.pm (h : KG m a b r2 r3 l A S T col) (hn : A'.Nodup) (hm : ∀ x, x ∈ A' → x ∈ A) (hs : ∀ f : Nat → Nat, smL f A = smL f A') (hl : A.length = A'.length) : KG m a b r2 r3 l A' S T col := by
  refine ⟨h.ci, h.2.1, h.2.2.1, hn, fun x mx => h.2.2.2.2.1 x (hm x mx), ?_, ?_⟩
  · rw [← hs, ← hl]
    exact h.2.2.2.2.2.1
  · rw [← hs, ← hl]
    exact h.2.2.2.2.2.2
/-- an assembly made anew joins -/
theorem KG.mk (h : KG m a b r2 r3 l A S T col) : KG m a b r2 r3 l (S.1 :: A) (mkX0 S) T (cN S S.1 col) := by
  have ci := h.ci.mk0
  have c0 := clr_mk0 h.ci
  have en : eN S (mkX0 S) := eN.pu S _ _
  have cn : ∀ q, q < S.1 → cN S S.1 col q = col q := fun q a => cN_old a
  have na : ∀ z, z ∈ A → z ≠ S.1 := fun z mz e => by have := (h.2.2.2.2.1 z mz).1.1; omega
  have fr : ∀ q, q < S.1 → (mkX0 S).2.2 q = S.2.2 q := fun q a => puC_old a
  have O := fun z (mz : z ∈ A) => oth_g (S2 := mkX0 S) h.ci (h.2.2.2.2.1 z mz).1 en (fun q a _ => fr q a) (fun _ _ _ => rfl) (h.2.2.2.2.1 z mz).2.1
  have gm : ∀ k, grC (mkX0 S) m k = grC S m k := fun k => by unfold grC; rw [fr m h.km.1]
  have el := fr l h.kl.1
  have lc : lcl (mkX0 S) l = lcl S l := by
    unfold lcl
    have e2 : grC (mkX0 S) l 2 = grC S l 2 := by unfold grC; rw [el]
    rw [e2]
    exact (en.2 _ (h.ci.wf.w2 h.kl).2.1.2.1).2
  have lp : psL (mkX0 S) l = psL S l := by
    unfold psL
    have e0 : giC (mkX0 S) l 0 = giC S l 0 := by unfold giC; rw [el]
    rw [lc, e0]
  refine ⟨ci, ⟨h.km.n en, h.kl.n en, by rw [cn m h.km.1]; exact h.2.1.2.2.1, by rw [cn l h.kl.1]; exact h.2.1.2.2.2⟩, ?_, List.nodup_cons.mpr ⟨fun y => na _ y rfl, h.2.2.2.1⟩, fun z mz => ?_, ?_, ?_⟩
  · simp only [gm]
    exact h.2.2.1
  · rw [cn m h.km.1, cn l h.kl.1]
    rcases List.mem_cons.mp mz with e | mz
    · rw [e]
      have cm : col m ≠ S.1 ∧ col l ≠ S.1 := by
        have := h.km.1
        rw [h.2.1.2.2.1, h.2.1.2.2.2]
        exact ⟨by omega, by omega⟩
      exact ⟨m0_0, PI.clr c0.1, by rw [c0.2]; omega, cm.1, cm.2⟩
    · have hz := h.2.2.2.2.1 z mz
      exact ⟨hz.1.n en, (O z mz).1, hz.2.2.1, hz.2.2.2⟩
  · rw [smL, smL_cg A (fun z mz => (O z mz).2.2.1), lc, List.length_cons]
    have := h.2.2.2.2.2.1
    show S.1 + 40 ≤ _
    omega
  · rw [smL, smL_cg A (fun z mz => (O z mz).2.2.2), lp, List.length_cons]
    have := h.2.2.2.2.2.2
    show S.2.1 + 966 ≤ _
    omega
/-- an image's field set: the row stands -/
theorem sm6 (h : KG m a b r2 r3 l A S T col) {c f : Nat} (hf : f = 2 ∨ f = 3) : eM m S (srC S m f (some c)) := by
  have en : eN S (srC S m f (some c)) := (eK.sr ..).n
  refine ⟨en.1, en.2, ?_⟩
  unfold rw6
  rw [gr_sr, if_neg (fun z => by omega), gi_sr]
/-- an image of what there is: in place of an older one, or made anew -/
theorem k_img (h : KG m a b r2 r3 l A S T col) (ma : a ∈ A) {r : Option Nat} (hr : r = none ∨ ∃ c, r = some c ∧ c ∈ A ∧ c ≠ a) : ∃ c S2 T2 c2, f_Y10_imageOfNow S m r = (some c, S2) ∧ (∀ lc ls, S2.1 ≤ lc → S2.2.1 ≤ ls → p_Y10_imageOfNow S m lc ls r) ∧ KG m a b r2 r3 l (if r = none then c :: A else A) S2 T2 c2 ∧ (r = none → c = S.1) ∧ (∀ d, r = some d → c = d) ∧ eM m S S2 := by
  have key : ∀ {A : List Nat} {S : Cst} {T : Nat → List Nat} {col : Nat → Nat} (h : KG m a b r2 r3 l A S T col) (ma : a ∈ A) {c : Nat} (mc : c ∈ A) (nc : c ≠ a) (x1 : Option Nat) (vx : vR S x1), ∃ S2 T2 c2, b_Y10_imageOfNow_15 S m x1 (some c) = (some c, S2) ∧ (∀ lc ls, S2.1 ≤ lc → S2.2.1 ≤ ls → q_Y10_imageOfNow_15 S m lc ls x1 (some c)) ∧ KG m a b r2 r3 l A S2 T2 c2 ∧ eM m S S2 := by
    intro A S T col h ma c mc nc x1 vx
    have ka := (h.2.2.2.2.1 a ma).1
    have kc := (h.2.2.2.2.1 c mc).1
    obtain ⟨v, S2, T2, c2, f, p, k2, en⟩ := h.ham mc (y_abecome (h.as mc).1 ka (fun z => nc z.symm) (h.2.2.2.2.1 a ma).2.1)
    unfold b_Y10_imageOfNow_15 q_Y10_imageOfNow_15 b_Y10_imageOfNow_24a q_Y10_imageOfNow_24a
    simp only [h.g0, Option.getD_some, ir_so, f]
    exact ⟨S2, T2, c2, rfl, fun lc ls A B => ⟨kc, ka, ⟨⟨en.1.1, A⟩, en.1.2, B⟩, p _ _ (Nat.le_refl _) (Nat.le_refl _), fun z y => by cases y; exact kc.1, vx, trivial⟩, k2, en⟩
  unfold f_Y10_imageOfNow p_Y10_imageOfNow b_Y10_imageOfNow_11a q_Y10_imageOfNow_11a
  rcases hr with rfl | ⟨c, rfl, mc, nc⟩
  · simp only [if_true]
    have k1 := h.mk
    have en : eM m S (mkX0 S) := h.r6 (eN.pu S _ _) (puC_old h.km.1) (puC_old h.kl.1)
    have na : S.1 ≠ a := fun e => by have := (h.2.2.2.2.1 a ma).1.1; omega
    obtain ⟨S2, T2, c2, f, p, k2, en2⟩ := key k1 (List.mem_cons_of_mem _ ma) (List.mem_cons_self ..) na none (fun z y => by cases y)
    exact ⟨S.1, S2, T2, c2, f, fun lc ls A B => ⟨⟨h.ci.wf.1, Nat.le_trans en2.1.1 A, Nat.le_trans en2.1.2 B⟩, fun z y => (by cases y), p lc ls A B⟩, k2, fun _ => rfl, fun d y => (by cases y), en.tr en2⟩
  · simp only [reduceCtorEq, if_false]
    obtain ⟨S2, T2, c2, f, p, k2, en2⟩ := key h ma mc nc (some c) (fun z y => by cases y; exact (h.2.2.2.2.1 c mc).1.1)
    exact ⟨c, S2, T2, c2, f, p, k2, fun y => (by cases y), fun d y => (by cases y; rfl), en2⟩
theorem k_image (h : KI S m) (k : Int32) : kR S m (fun lc ls => p_Y10_image S m lc ls k) (f_Y10_image S m k) := by
  obtain ⟨a, b, r2, r3, l, T, col, h⟩ := h
  have hn := h.2.2.2.1
  have hsz : ∀ {S : Cst} {T : Nat → List Nat} {col : Nat → Nat} {r2 r3 : Option Nat}, KJ m a b r2 r3 l S T col → (∀ lc ls, q_Y10_image_42 S m lc ls k) ∧ ∃ v, b_Y10_image_42 S m k = (v, S) := by
    intro S T col r2 r3 h
    have wa := h.ci.wf.w0 (KJ.ka h)
    unfold b_Y10_image_42 q_Y10_image_42
    simp only [h.g0, Option.getD_some, ir_so, wa.2.1.2.2.2.2.1]
    exact ⟨fun _ _ => ⟨KJ.ka h, wa.1.2.2.2.2.1, trivial⟩, _, rfl⟩
  unfold p_Y10_image f_Y10_image b_Y10_image_13a q_Y10_image_13a b_Y10_image_33a q_Y10_image_33a
  rw [h.2.2.1.2.2.1, h.2.2.1.2.2.2.1]
  by_cases c1 : k = 0
  · simp only [if_pos c1]
    have hr : r2 = none ∨ ∃ c, r2 = some c ∧ c ∈ kA a b r2 r3 ∧ c ≠ a := by
      cases r2 with
      | none => exact Or.inl rfl
      | some c =>
        refine Or.inr ⟨c, rfl, ?_, fun z => ?_⟩
        · unfold kA
          simp
        · unfold kA at hn
          rw [z] at hn
          simp at hn
    obtain ⟨c, S2, T2, c2, f, p, k2, e1, e2, en⟩ := k_img h (KJ.ma h) hr
    have k3 : KJ m a b (some c) r3 l (srC S2 m 2 (some c)) T2 c2 := by
      cases r2 with
      | none =>
        rw [if_pos rfl] at k2
        have k4 := k2.set (c := c) (f := 2) (Or.inl rfl) (List.mem_cons_self ..)
        refine k4.pm ?_ (fun x mx => ?_) (fun f => ?_) ?_
        · have := k4.2.2.2.1
          unfold kA at this ⊢
          simp only [Option.toList_none, Option.toList_some, List.nil_append, List.nodup_cons, List.mem_cons, not_or, List.cons_append] at this ⊢
          obtain ⟨⟨x1, x2, x3⟩, ⟨y1, y2⟩, z1, z2⟩ := this
          exact ⟨⟨y1, fun e => x1 e.symm, y2⟩, ⟨fun e => x2 e.symm, z1⟩, x3, z2⟩
        · unfold kA at mx ⊢
          simp only [Option.toList_none, Option.toList_some, List.nil_append, List.mem_cons, List.cons_append] at mx ⊢
          rcases mx with e | e | e | e
          · exact Or.inr (Or.inl e)
          · exact Or.inr (Or.inr (Or.inl e))
          · exact Or.inl e
          · exact Or.inr (Or.inr (Or.inr e))
        · unfold kA
          simp only [Option.toList_none, Option.toList_some, List.nil_append, List.cons_append, smL]
          omega
        · unfold kA
          simp
      | some d =>
        have e := e2 d rfl
        subst e
        rw [if_neg (by simp)] at k2
        exact k2.set (c := c) (f := 2) (Or.inl rfl) (by unfold kA; simp)
    obtain ⟨q, v, e⟩ := hsz k3
    rw [f]
    exact ⟨v, _, e, fun lc ls A B => ⟨⟨⟨en.1.1, A⟩, en.1.2, B⟩, p _ _ (Nat.le_refl _) (Nat.le_refl _), q lc ls⟩, KJ.i k3, en.tr (sm6 k2 (f := 2) (Or.inl rfl))⟩
  · simp only [if_neg c1]
    by_cases c2' : k = 1
    · simp only [if_pos c2']
      have hr : r3 = none ∨ ∃ c, r3 = some c ∧ c ∈ kA a b r2 r3 ∧ c ≠ a := by
        cases r3 with
        | none => exact Or.inl rfl
        | some c =>
          refine Or.inr ⟨c, rfl, ?_, fun z => ?_⟩
          · unfold kA
            simp
          · unfold kA at hn
            rw [z] at hn
            simp at hn
      obtain ⟨c, S2, T2, c2, f, p, k2, e1, e2, en⟩ := k_img h (KJ.ma h) hr
      have k3 : KJ m a b r2 (some c) l (srC S2 m 3 (some c)) T2 c2 := by
        cases r3 with
        | none =>
          rw [if_pos rfl] at k2
          have k4 := k2.set (c := c) (f := 3) (Or.inr rfl) (List.mem_cons_self ..)
          refine k4.pm ?_ (fun x mx => ?_) (fun f => ?_) ?_
          · have := k4.2.2.2.1
            unfold kA at this ⊢
            cases r2 with
            | none =>
              simp only [Option.toList_none, Option.toList_some, List.nil_append, List.nodup_cons, List.mem_cons, not_or, List.cons_append, List.not_mem_nil, or_false, not_false_eq_true, List.nodup_nil, and_true, true_and] at this ⊢
              exact ⟨⟨this.2, fun e => this.1.1 e.symm⟩, fun e => this.1.2 e.symm⟩
            | some d =>
              simp only [Option.toList_none, Option.toList_some, List.nil_append, List.nodup_cons, List.mem_cons, not_or, List.cons_append, List.not_mem_nil, or_false, not_false_eq_true, List.nodup_nil, and_true, true_and, List.append_nil] at this ⊢
              obtain ⟨⟨x1, x2, x3⟩, ⟨y1, y2⟩, z1⟩ := this
              exact ⟨⟨y1, y2, fun e => x1 e.symm⟩, ⟨z1, fun e => x2 e.symm⟩, fun e => x3 e.symm⟩
          · unfold kA at mx ⊢
            cases r2 with
            | none =>
              simp only [Option.toList_none, Option.toList_some, List.nil_append, List.mem_cons, List.cons_append, List.not_mem_nil, or_false] at mx ⊢
              rcases mx with e | e | e
              · exact Or.inr (Or.inl e)
              · exact Or.inr (Or.inr e)
              · exact Or.inl e
            | some d =>
              simp only [Option.toList_none, Option.toList_some, List.nil_append, List.mem_cons, List.cons_append, List.not_mem_nil, or_false, List.append_nil] at mx ⊢
              rcases mx with e | e | e | e
              · exact Or.inr (Or.inl e)
              · exact Or.inr (Or.inr (Or.inl e))
              · exact Or.inr (Or.inr (Or.inr e))
              · exact Or.inl e
          · unfold kA
            cases r2 <;> simp only [Option.toList_none, Option.toList_some, List.nil_append, List.cons_append, smL] <;> omega
          · unfold kA
            cases r2 <;> simp
        | some d =>
          have e := e2 d rfl
          subst e
          rw [if_neg (by simp)] at k2
          exact k2.set (c := c) (f := 3) (Or.inr rfl) (by unfold kA; simp)
      obtain ⟨q, v, e⟩ := hsz k3
      rw [f]
      exact ⟨v, _, e, fun lc ls A B => ⟨⟨⟨en.1.1, A⟩, en.1.2, B⟩, p _ _ (Nat.le_refl _) (Nat.le_refl _), q lc ls⟩, KJ.i k3, en.tr (sm6 k2 (f := 3) (Or.inr rfl))⟩
    · simp only [if_neg c2']
      exact ⟨_, S, rfl, fun _ _ _ _ => trivial, KJ.i h, eM.rf m S⟩
theorem k_back (h : KI S m) (k : Int32) : kR S m (fun lc ls => p_Y10_back S m lc ls k) (f_Y10_back S m k) := by
  obtain ⟨a, b, r2, r3, l, T, col, h⟩ := h
  have hn := h.2.2.2.1
  have key : ∀ r, (r = r2 ∨ r = r3) → kR S m (fun lc ls => q_Y10_back_27 S m lc ls k r) (b_Y10_back_27 S m k r) := by
    intro r hr
    unfold b_Y10_back_27 q_Y10_back_27 b_Y10_back_43a q_Y10_back_43a
    cases r with
    | none =>
      simp only [if_true]
      exact ⟨_, S, rfl, fun _ _ _ _ => trivial, KJ.i h, eM.rf m S⟩
    | some c =>
      have hc : c ∈ kA a b r2 r3 ∧ c ≠ a := by
        unfold kA at hn ⊢
        rcases hr with hr | hr <;> rw [← hr] at hn ⊢
        · refine ⟨by simp, fun z => ?_⟩
          rw [z] at hn
          simp at hn
        · refine ⟨by simp, fun z => ?_⟩
          rw [z] at hn
          simp at hn
      have kc := (h.2.2.2.2.1 c hc.1).1
      simp only [reduceCtorEq, if_false, h.g0, Option.getD_some, ir_so]
      obtain ⟨v, S2, T2, c2, f, p, k2, en⟩ := h.ham (KJ.ma h) (y_abecome (h.as (KJ.ma h)).1 kc hc.2 (h.2.2.2.2.1 c hc.1).2.1)
      rw [f]
      have wa := k2.ci.wf.w0 (KJ.ka k2)
      simp only [k2.g0, Option.getD_some, ir_so, wa.2.1.2.2.2.2.1]
      exact ⟨_, S2, rfl, fun lc ls A B => ⟨KJ.ka h, kc, ⟨⟨en.1.1, A⟩, en.1.2, B⟩, p _ _ (Nat.le_refl _) (Nat.le_refl _), fun z y => (by cases y; exact kc.1), KJ.ka k2, wa.1.2.2.2.2.1, trivial⟩, KJ.i k2, en⟩
  unfold p_Y10_back f_Y10_back b_Y10_back_9 q_Y10_back_9
  rw [h.2.2.1.2.2.1, h.2.2.1.2.2.2.1]
  by_cases c1 : k < 0
  · simp only [if_pos c1]
    exact ⟨_, S, rfl, fun _ _ _ _ => trivial, KJ.i h, eM.rf m S⟩
  · simp only [if_neg c1]
    by_cases c2 : k ≤ 1
    · simp only [if_pos c2]
      by_cases c3 : k = 0
      · simp only [if_pos c3]
        exact key r2 (Or.inl rfl)
      · simp only [if_neg c3]
        exact key r3 (Or.inr rfl)
    · simp only [if_neg c2]
      exact ⟨_, S, rfl, fun _ _ _ _ => trivial, KJ.i h, eM.rf m S⟩
end
