/-! ===== the whole object ===== -/
def smL (f : Nat → Nat) : List Nat → Nat
  | [] => 0
  | a :: A => f a + smL f A
theorem smL_cg {f g : Nat → Nat} : ∀ A, (∀ z, z ∈ A → g z = f z) → smL g A = smL f A := by
  intro A
  induction A with
  | nil => intro _; rfl
  | cons a A ih =>
    intro h
    rw [smL, smL, ih (fun z m => h z (List.mem_cons_of_mem _ m)), h a (List.mem_cons_self ..)]
theorem smL_upd {f g : Nat → Nat} {x : Nat} : ∀ A, A.Nodup → x ∈ A → (∀ z, z ∈ A → z ≠ x → g z = f z) → smL g A + f x = smL f A + g x := by
  intro A
  induction A with
  | nil => intro _ m _; cases m
  | cons a A ih =>
    intro hn m h
    have hn := List.nodup_cons.mp hn
    rw [smL, smL]
    rcases List.mem_cons.mp m with e | m
    · rw [← e] at hn ⊢
      rw [smL_cg A (fun z mz => h z (List.mem_cons_of_mem _ mz) (fun y => hn.1 (by rw [← y]; exact mz)))]
      omega
    · have := ih hn.2 m (fun z mz => h z (List.mem_cons_of_mem _ mz))
      rw [h a (List.mem_cons_self ..) (fun y => hn.1 (by rw [y]; exact m))]
      omega
theorem smL_le {f : Nat → Nat} {B : Nat} : ∀ A : List Nat, (∀ z, z ∈ A → f z ≤ B) → smL f A ≤ B * A.length := by
  intro A
  induction A with
  | nil => intro _; exact Nat.zero_le _
  | cons a A ih =>
    intro h
    have i := ih (fun z m => h z (List.mem_cons_of_mem _ m))
    have j := h a (List.mem_cons_self ..)
    rw [smL, List.length_cons, Nat.mul_succ]
    omega
def kA (a b : Nat) (r2 r3 : Option Nat) : List Nat := a :: b :: (r2.toList ++ r3.toList)
def KG (m a b : Nat) (r2 r3 : Option Nat) (l : Nat) (A : List Nat) (S : Cst) (T : Nat → List Nat) (col : Nat → Nat) : Prop :=
  CI noE S T [] col ∧ (iK S m 7 ∧ iK S l 2 ∧ col m = m ∧ col l = m) ∧ (grC S m 0 = some a ∧ grC S m 1 = some b ∧ grC S m 2 = r2 ∧ grC S m 3 = r3 ∧ grC S m 4 = some l) ∧ A.Nodup ∧ (∀ x, x ∈ A → iK S x 0 ∧ PI S T x ∧ mT T x ≤ 90 ∧ col m ≠ x ∧ col l ≠ x) ∧ S.1 ≤ 100 + smL (pcL S T) A + lcl S l + 40 * A.length ∧ S.2.1 ≤ 3000 + smL (plL S T) A + psL S l + 966 * A.length
abbrev KJ (m a b : Nat) (r2 r3 : Option Nat) (l : Nat) (S : Cst) (T : Nat → List Nat) (col : Nat → Nat) : Prop := KG m a b r2 r3 l (kA a b r2 r3) S T col
section
variable {E E0 : Nat → Prop} {x y : Nat} {S S1 S2 S3 : Cst} {T T1 T2 : Nat → List Nat} {F F1 : List Nat} {col c1 c2 : Nat → Nat}
theorem PI.eq (h : PI S1 T1 x) (hs : ∀ d, pl x d → giC S2 d 0 = giC S1 d 0) (hT : ∀ c, own x c → c ≠ x → T2 c = T1 c) (hk : ∀ q, q ∈ T1 (x + 1) → giC S2 q 2 = giC S1 q 2) : PI S2 T2 x := by
  have hf : fcU S2 x 8 = fcU S1 x 8 := fcU_cg 8 (fun p hp => hs _ (Or.inr ⟨p, hp, rfl⟩))
  have ht := hT (x + 1) (Or.inr (Or.inl rfl)) (by omega)
  have hn : nd S2 (T2 (x + 1)) → nd S1 (T1 (x + 1)) := nd_sub (fun q m => by
    rw [ht] at m
    exact ⟨m, hk q m⟩)
  refine ⟨fun d o => ?_, fun n => ?_, fun n => ?_, fun n m => ?_⟩
  · rw [hs d o, hT (d + 1) o.o.1 o.o.2.1]
    exact h.1 d o
  · rw [hf]
    exact h.2.1 (hn n)
  · rw [hf]
    rw [hs (x + 3) (Or.inl rfl)] at n
    exact h.2.2.1 n
  · rw [hf]
    rw [hs (x + 3) (Or.inl rfl)] at m
    exact h.2.2.2 (hn n) m
theorem mT_cg (h : ∀ c, own x c → T2 c = T1 c) : mT T2 x = mT T1 x := by
  have hs : ∀ n, n ≤ 8 → sT T2 x n = sT T1 x n := by
    intro n
    induction n with
    | zero => intro _; rfl
    | succ n ih =>
      intro hn
      rw [sT, sT, ih (by omega), h (x + 14 + 3 * n) (Or.inr (Or.inr (Or.inr ⟨n, by omega, rfl⟩)))]
  unfold mT
  rw [hs 8 (by omega), h x (Or.inl rfl), h (x + 1) (Or.inr (Or.inl rfl)), h (x + 4) (Or.inr (Or.inr (Or.inl rfl)))]
/-- an assembly of which no cell is written -/
theorem oth_g (ci : CI noE S T F col) (ky : iK S y 0) (en : eN S S2) (fr : ∀ q, q < S.1 → col q = y → S2.2.2 q = S.2.2 q) (ft : ∀ c, c < S.1 → col c = y → T2 c = T c) (hy : PI S T y) : PI S2 T2 y ∧ mT T2 y = mT T y ∧ pcL S2 T2 y = pcL S T y ∧ plL S2 T2 y = plL S T y := by
  have cy : ∀ r, r < 40 → col (y + r) = y := fun r hr => ci.c0 y ky r hr
  have w0 := ci.wf.w0 ky
  have ce : ∀ r k, r < 40 → iK S (y + r) k → S2.2.2 (y + r) = S.2.2 (y + r) := fun r k hr kk => fr _ kk.1 (cy r hr)
  have kown : ∀ c, own y c → ∃ k, iK S c k := fun c o => by
    rcases o with o | o | o | ⟨p, hp, o⟩
    · rw [o]
      exact ⟨_, ky⟩
    · rw [o]
      exact ⟨_, w0.1.2.1⟩
    · rw [o]
      exact ⟨_, (ci.wf.w5 w0.1.2.2.1).1⟩
    · rw [o, show y + 14 + 3 * p = y + 13 + 3 * p + 1 by omega]
      exact ⟨_, (ci.wf.w5 (dk_ix ci.wf ky hp).2).1⟩
  have tc : ∀ c, own y c → T2 c = T c := fun c o => by
    obtain ⟨k, kk⟩ := kown c o
    obtain ⟨j, hj, e⟩ := o.lt
    exact ft c kk.1 (by rw [e]; exact cy j hj)
  have lc : ∀ j, (j = 7 ∨ j = 9) → lcl S2 (y + j) = lcl S (y + j) ∧ psL S2 (y + j) = psL S (y + j) := fun j hj => by
    have k2 : iK S (y + j) 2 := by
      rcases hj with rfl | rfl
      · exact w0.1.2.2.2.2.1
      · exact w0.1.2.2.2.2.2.1
    have e := ce j 2 (by omega) k2
    have a : lcl S2 (y + j) = lcl S (y + j) := by
      unfold lcl
      have e2 : grC S2 (y + j) 2 = grC S (y + j) 2 := by unfold grC; rw [e]
      rw [e2]
      exact (en.2 _ (ci.wf.w2 k2).2.1.2.1).2
    refine ⟨a, ?_⟩
    unfold psL
    have e0 : giC S2 (y + j) 0 = giC S (y + j) 0 := by unfold giC; rw [e]
    rw [a, e0]
  have em := mT_cg tc
  refine ⟨hy.eq (fun d o => ?_) (fun c o _ => tc c o) (fun q m => ?_), em, ?_, ?_⟩
  · have k5 := o.lt ci ky
    obtain ⟨j, hj, e⟩ := o.o.2.2
    unfold giC
    rw [e] at k5 ⊢
    rw [ce j 5 hj k5]
  · have kq := ci.tk _ _ m
    unfold giC
    rw [fr q kq.1.1 (by rw [kq.2]; exact cy 1 (by omega))]
  · unfold pcL
    rw [em, (lc 7 (Or.inl rfl)).1, (lc 9 (Or.inr rfl)).1]
  · unfold plL
    rw [em, (lc 7 (Or.inl rfl)).2, (lc 9 (Or.inr rfl)).2]
/-- another assembly's things stand -/
theorem Sst.oth (g : Sst noE x S T F col S2 T2 F1 c2) (ci : CI noE S T F col) (ky : iK S y 0) (n : y ≠ x) (hy : PI S T y) : PI S2 T2 y ∧ mT T2 y = mT T y ∧ pcL S2 T2 y = pcL S T y ∧ plL S2 T2 y = plL S T y := oth_g ci ky g.en (fun q a e => g.fr q a (by rw [e]; exact n)) (fun c a e => g.ft c a (by rw [e]; exact n)) hy
end
section
variable {m a b l x : Nat} {r2 r3 : Option Nat} {A : List Nat} {S S1 S2 S3 : Cst} {T T1 T2 : Nat → List Nat} {col c1 c2 : Nat → Nat}
theorem KG.ci (h : KG m a b r2 r3 l A S T col) : CI noE S T [] col := h.1
theorem KJ.ma (_ : KJ m a b r2 r3 l S T col) : a ∈ kA a b r2 r3 := List.mem_cons_self ..
theorem KJ.mb (_ : KJ m a b r2 r3 l S T col) : b ∈ kA a b r2 r3 := List.mem_cons_of_mem _ (List.mem_cons_self ..)
theorem KJ.nab (h : KJ m a b r2 r3 l S T col) : a ≠ b := fun z => by
  have := List.nodup_cons.mp h.2.2.2.1
  exact this.1 (by rw [z]; exact List.mem_cons_self ..)
theorem KJ.ka (h : KJ m a b r2 r3 l S T col) : iK S a 0 := (h.2.2.2.2.1 a h.ma).1
theorem KJ.kb (h : KJ m a b r2 r3 l S T col) : iK S b 0 := (h.2.2.2.2.1 b h.mb).1
theorem KG.g0 (h : KG m a b r2 r3 l A S T col) : grC S m 0 = some a := h.2.2.1.1
theorem KG.g1 (h : KG m a b r2 r3 l A S T col) : grC S m 1 = some b := h.2.2.1.2.1
theorem KG.g4 (h : KG m a b r2 r3 l A S T col) : grC S m 4 = some l := h.2.2.1.2.2.2.2
theorem KG.kl (h : KG m a b r2 r3 l A S T col) : iK S l 2 := h.2.1.2.1
theorem KG.km (h : KG m a b r2 r3 l A S T col) : iK S m 7 := h.2.1.1
/-- an assembly moved on -/
theorem KG.step (h : KG m a b r2 r3 l A S T col) (hx : x ∈ A) (g : Sst noE x S T [] col S2 T2 [] c2) (hp : PI S2 T2 x) : KG m a b r2 r3 l A S2 T2 c2 := by
  have hX := h.2.2.2.2.1 x hx
  have em : S2.2.2 m = S.2.2 m := g.fr m h.km.1 hX.2.2.2.1
  have el : S2.2.2 l = S.2.2 l := g.fr l h.kl.1 hX.2.2.2.2
  have gm : ∀ k, grC S2 m k = grC S m k := fun k => by unfold grC; rw [em]
  have lc : lcl S2 l = lcl S l := by
    unfold lcl
    have e2 : grC S2 l 2 = grC S l 2 := by unfold grC; rw [el]
    rw [e2]
    exact (g.en.2 _ (h.ci.wf.w2 h.kl).2.1.2.1).2
  have lp : psL S2 l = psL S l := by
    unfold psL
    have e0 : giC S2 l 0 = giC S l 0 := by unfold giC; rw [el]
    rw [lc, e0]
  have O := fun z (mz : z ∈ A) (nz : z ≠ x) => g.oth h.ci (h.2.2.2.2.1 z mz).1 nz (h.2.2.2.2.1 z mz).2.1
  refine ⟨g.ci, ⟨h.km.n g.en, h.kl.n g.en, by rw [g.cl m h.km.1]; exact h.2.1.2.2.1, by rw [g.cl l h.kl.1]; exact h.2.1.2.2.2⟩, ?_, h.2.2.2.1, fun z mz => ?_, ?_, ?_⟩
  · simp only [gm]
    exact h.2.2.1
  · have hz := h.2.2.2.2.1 z mz
    refine ⟨hz.1.n g.en, ?_, ?_, by rw [g.cl m h.km.1]; exact hz.2.2.2.1, by rw [g.cl l h.kl.1]; exact hz.2.2.2.2⟩
    · by_cases e : z = x
      · rw [e]
        exact hp
      · exact (O z mz e).1
    · by_cases e : z = x
      · rw [e]
        exact g.mb hX.2.2.1
      · rw [(O z mz e).2.1]
        exact hz.2.2.1
  · have u := smL_upd (f := pcL S T) (g := pcL S2 T2) (x := x) _ h.2.2.2.1 hx (fun z mz nz => (O z mz nz).2.2.1)
    have n1 := g.n1
    have b1 := h.2.2.2.2.2.1
    simp only [List.length_nil] at n1
    omega
  · have u := smL_upd (f := plL S T) (g := plL S2 T2) (x := x) _ h.2.2.2.1 hx (fun z mz nz => (O z mz nz).2.2.2)
    have n2 := g.n2
    have b2 := h.2.2.2.2.2.2
    simp only [List.length_nil] at n2
    omega
theorem KG.as (h : KG m a b r2 r3 l A S T col) (hx : x ∈ A) : AS x S T col S T col := ⟨Sst.rf h.ci (h.2.2.2.2.1 x hx).1 (fun q z => by cases z), (h.2.2.2.2.1 x hx).2.1⟩
/-- how large it grows -/
theorem KJ.bd (h : KJ m a b r2 r3 l S T col) : S.1 ≤ 40000 ∧ S.2.1 ≤ 500000 := by
  have hL : ∀ z, iK S z 2 → lcl S z ≤ 4200 ∧ psL S z ≤ 12600 := fun z k => by
    have w := h.ci.wf.w2 k
    have hg : (giC S z 0).toInt = 5 ∨ (giC S z 0).toInt = 6 ∨ (giC S z 0).toInt = 7 := by
      rcases w.1.1 with e | e | e <;> rw [e]
      · exact Or.inl (by decide)
      · exact Or.inr (Or.inl (by decide))
      · exact Or.inr (Or.inr (by decide))
    have e : lcl S z ≤ 4200 := by
      have := w.2.2.2
      unfold lcl
      omega
    refine ⟨e, ?_⟩
    unfold psL
    split <;> omega
  have hl := hL l h.kl
  have B1 := smL_le (f := pcL S T) (B := 8760) (kA a b r2 r3) (fun z mz => by
    have hz := h.2.2.2.2.1 z mz
    have w := h.ci.wf.w0 hz.1
    have q7 := hL _ w.1.2.2.2.2.1
    have q9 := hL _ w.1.2.2.2.2.2.1
    have := hz.2.2.1
    unfold pcL
    omega)
  have B2 := smL_le (f := plL S T) (B := 80820) (kA a b r2 r3) (fun z mz => by
    have hz := h.2.2.2.2.1 z mz
    have w := h.ci.wf.w0 hz.1
    have q7 := hL _ w.1.2.2.2.2.1
    have q9 := hL _ w.1.2.2.2.2.2.1
    have := hz.2.2.1
    unfold plL
    omega)
  have hlen : (kA a b r2 r3).length ≤ 4 := by
    unfold kA
    cases r2 <;> cases r3 <;> simp
  have b1 := h.2.2.2.2.2.1
  have b2 := h.2.2.2.2.2.2
  have : (kA a b r2 r3).length = 0 ∨ (kA a b r2 r3).length = 1 ∨ (kA a b r2 r3).length = 2 ∨ (kA a b r2 r3).length = 3 ∨ (kA a b r2 r3).length = 4 := by omega
  rcases this with e | e | e | e | e <;> rw [e] at B1 B2 b1 b2 <;> omega
/-- the row's size -/
def rw6 (S : Cst) (m : Nat) : Int32 := giC S ((grC S m 4).getD 0) 3
/-- what stood stands, and the row has its size -/
def eM (m : Nat) (S T : Cst) : Prop := (S.1 ≤ T.1 ∧ S.2.1 ≤ T.2.1) ∧ (∀ q, q < S.1 → kdC T q = kdC S q ∧ lnC T q = lnC S q) ∧ rw6 T m = rw6 S m
theorem eM.rf (m : Nat) (S : Cst) : eM m S S := ⟨(eN.rf S).1, (eN.rf S).2, rfl⟩
theorem eM.n (h : eM m S S2) : eN S S2 := ⟨h.1, h.2.1⟩
theorem eM.tr (h : eM m S S1) (g : eM m S1 S2) : eM m S S2 := ⟨(h.n.tr g.n).1, (h.n.tr g.n).2, g.2.2.trans h.2.2⟩
theorem KG.r6 (h : KG m a b r2 r3 l A S T col) (en : eN S S2) (em : S2.2.2 m = S.2.2 m) (el : S2.2.2 l = S.2.2 l) : eM m S S2 := by
  refine ⟨en.1, en.2, ?_⟩
  have e : grC S2 m 4 = grC S m 4 := by unfold grC; rw [em]
  unfold rw6
  rw [e, h.g4, Option.getD_some]
  unfold giC
  rw [el]
theorem KG.r6s (h : KG m a b r2 r3 l A S T col) (hx : x ∈ A) {T2 : Nat → List Nat} {F : List Nat} {c2 : Nat → Nat} (g : Sst noE x S T [] col S2 T2 F c2) (en : eN S S2) : eM m S S2 :=
  h.r6 en (g.fr m h.km.1 (h.2.2.2.2.1 x hx).2.2.2.1) (g.fr l h.kl.1 (h.2.2.2.2.1 x hx).2.2.2.2)
def KI (S : Cst) (m : Nat) : Prop := ∃ a b r2 r3 l T col, KJ m a b r2 r3 l S T col
theorem KJ.i (h : KJ m a b r2 r3 l S T col) : KI S m := ⟨a, b, r2, r3, l, T, col, h⟩
/-- a call -/
def kR (S : Cst) (m : Nat) (p : Nat → Nat → Prop) (f : Int32 × Cst) : Prop := ∃ v S2, f = (v, S2) ∧ (∀ lc ls, S2.1 ≤ lc → S2.2.1 ≤ ls → p lc ls) ∧ KI S2 m ∧ eM m S S2
/-- a call that may change the row's size -/
def kW (S : Cst) (m : Nat) (p : Nat → Nat → Prop) (f : Int32 × Cst) : Prop := ∃ v S2, f = (v, S2) ∧ (∀ lc ls, S2.1 ≤ lc → S2.2.1 ≤ ls → p lc ls) ∧ KI S2 m ∧ eN S S2
theorem kR.w {p p' : Nat → Nat → Prop} {f f' : Int32 × Cst} (h : kR S m p f) (hf : f' = f) (hp : ∀ lc ls, p lc ls → p' lc ls) : kR S m p' f' := by
  obtain ⟨v, S2, e, p, k, g⟩ := h
  exact ⟨v, S2, hf.trans e, fun lc ls A B => hp lc ls (p lc ls A B), k, g⟩
theorem kR.z {p : Nat → Nat → Prop} {f : Int32 × Cst} (h : kR S m p f) : kR S m (fun lc ls => ((S.1 ≤ f.2.1 ∧ f.2.1 ≤ lc) ∧ (S.2.1 ≤ f.2.2.1 ∧ f.2.2.1 ≤ ls)) ∧ p f.2.1 f.2.2.1) f := by
  obtain ⟨v, S2, e, p, k, g⟩ := h
  rw [e]
  exact ⟨v, S2, rfl, fun lc ls A B => ⟨⟨⟨g.1.1, A⟩, g.1.2, B⟩, p _ _ (Nat.le_refl _) (Nat.le_refl _)⟩, k, g⟩
theorem KG.ham (h : KG m a b r2 r3 l A S T col) (hx : x ∈ A) {p : Nat → Nat → Prop} {f : Int32 × Cst} (q : am x S T col S p f) : ∃ v S2 T2 c2, f = (v, S2) ∧ (∀ lc ls, S2.1 ≤ lc → S2.2.1 ≤ ls → p lc ls) ∧ KG m a b r2 r3 l A S2 T2 c2 ∧ eM m S S2 := by
  obtain ⟨v, S2, T2, c2, e, hp, as, en⟩ := q
  exact ⟨v, S2, T2, c2, e, hp, h.step hx as.1 as.2, h.r6s hx as.1 en⟩
theorem KJ.kr (h : KJ m a b r2 r3 l S T col) (hx : x ∈ kA a b r2 r3) {p : Nat → Nat → Prop} {f : Int32 × Cst} (q : am x S T col S p f) : kR S m p f := by
  obtain ⟨v, S2, T2, c2, e, hp, k, en⟩ := h.ham hx q
  exact ⟨v, S2, e, hp, KJ.i k, en⟩
/-- an act of the assembly that there is -/
theorem k_enact (h : KJ m a b r2 r3 l S T col) (act i1 i2 i3 i4 : Int32) : kR S m (fun lc ls => iK S a 0 ∧ (((S.1 ≤ (f_Y0_enact S a act i1 i2 i3 i4).2.1 ∧ (f_Y0_enact S a act i1 i2 i3 i4).2.1 ≤ lc) ∧ (S.2.1 ≤ (f_Y0_enact S a act i1 i2 i3 i4).2.2.1 ∧ (f_Y0_enact S a act i1 i2 i3 i4).2.2.1 ≤ ls)) ∧ p_Y0_enact S a (f_Y0_enact S a act i1 i2 i3 i4).2.1 (f_Y0_enact S a act i1 i2 i3 i4).2.2.1 act i1 i2 i3 i4) ∧ True) (f_Y0_enact S a act i1 i2 i3 i4) := (h.kr h.ma (y_enact (h.as h.ma) act i1 i2 i3 i4)).z.w rfl (fun _ _ p => ⟨h.ka, p, trivial⟩)
end
