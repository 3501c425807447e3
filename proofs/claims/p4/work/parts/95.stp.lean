/-! ===== a step within one assembly ===== -/
def sT (T : Nat → List Nat) (x : Nat) : Nat → Nat
  | 0 => 0
  | n + 1 => sT T x n + (T (x + 14 + 3 * n)).length
def mT (T : Nat → List Nat) (x : Nat) : Nat := (T x).length + (T (x + 1)).length + (T (x + 4)).length + sT T x 8
def lcl (S : Cst) (l : Nat) : Nat := lnC S ((grC S l 2).getD 0)
def psL (S : Cst) (l : Nat) : Nat := 2 * lcl S l + (if lcl S l = 600 * (giC S l 0).toNatClampNeg then lcl S l else 0)
def pcL (S : Cst) (T : Nat → List Nat) (x : Nat) : Nat := 4 * mT T x + lcl S (x + 7) + lcl S (x + 9)
def plL (S : Cst) (T : Nat → List Nat) (x : Nat) : Nat := 618 * mT T x + psL S (x + 7) + psL S (x + 9)
def own (x c : Nat) : Prop := c = x ∨ c = x + 1 ∨ c = x + 4 ∨ ∃ p, p < 8 ∧ c = x + 14 + 3 * p
theorem own.lt {x c : Nat} (h : own x c) : ∃ j, j < 40 ∧ c = x + j := by
  rcases h with h | h | h | ⟨p, hp, h⟩
  · exact ⟨0, by omega, h⟩
  · exact ⟨1, by omega, h⟩
  · exact ⟨4, by omega, h⟩
  · exact ⟨14 + 3 * p, by omega, by omega⟩
theorem sT_ne {T : Nat → List Nat} {x c : Nat} {l : List Nat} : ∀ n, (∀ p, p < n → c ≠ x + 14 + 3 * p) → sT (tU T c l) x n = sT T x n := by
  intro n
  induction n with
  | zero => intro _; rfl
  | succ n ih =>
    intro h
    rw [sT, sT, ih (fun p hp => h p (by omega)), tU_ne T l (fun z => h n (by omega) z.symm)]
theorem sT_at {T : Nat → List Nat} {x p : Nat} {l : List Nat} : ∀ n, p < n → sT (tU T (x + 14 + 3 * p) l) x n + (T (x + 14 + 3 * p)).length = sT T x n + l.length := by
  intro n
  induction n with
  | zero => intro h; omega
  | succ n ih =>
    intro h
    rw [sT, sT]
    by_cases e : p = n
    · rw [e, tU_at, sT_ne n (fun q hq => by omega)]
      omega
    · rw [tU_ne T l (by omega)]
      have := ih (by omega)
      omega
theorem mT_U {T : Nat → List Nat} {x c : Nat} {l : List Nat} (h : own x c) : mT (tU T c l) x + (T c).length = mT T x + l.length := by
  unfold mT
  rcases h with h | h | h | ⟨p, hp, h⟩
  · subst h
    rw [tU_at, tU_ne T l (show c + 1 ≠ c by omega), tU_ne T l (show c + 4 ≠ c by omega), sT_ne 8 (fun p _ => by omega)]
    omega
  · subst h
    rw [tU_at, tU_ne T l (show x ≠ x + 1 by omega), tU_ne T l (show x + 4 ≠ x + 1 by omega), sT_ne 8 (fun p _ => by omega)]
    omega
  · subst h
    rw [tU_at, tU_ne T l (show x ≠ x + 4 by omega), tU_ne T l (show x + 1 ≠ x + 4 by omega), sT_ne 8 (fun p _ => by omega)]
    omega
  · subst h
    rw [tU_ne T l (show x ≠ x + 14 + 3 * p by omega), tU_ne T l (show x + 1 ≠ x + 14 + 3 * p by omega), tU_ne T l (show x + 4 ≠ x + 14 + 3 * p by omega)]
    have := sT_at (T := T) (x := x) (l := l) 8 hp
    omega
def Sst (E : Nat → Prop) (x : Nat) (S : Cst) (T : Nat → List Nat) (F : List Nat) (col : Nat → Nat) (S' : Cst) (T' : Nat → List Nat) (F' : List Nat) (col' : Nat → Nat) : Prop :=
  CI E S' T' F' col' ∧ eN S S' ∧ (∀ q, q < S.1 → col' q = col q) ∧ (∀ q, q < S.1 → col q ≠ x → S'.2.2 q = S.2.2 q) ∧ (∀ c, c < S.1 → col c ≠ x → T' c = T c) ∧ (S'.1 + pcL S T x + 4 * F.length ≤ S.1 + pcL S' T' x + 4 * F'.length) ∧ (S'.2.1 + plL S T x + 618 * F.length ≤ S.2.1 + plL S' T' x + 618 * F'.length) ∧ iK S x 0 ∧ (∀ q, q ∈ F' → col' q = x) ∧ (mT T x + F.length ≤ 90 → mT T' x + F'.length ≤ 90)
section
variable {E E0 : Nat → Prop} {x : Nat} {S S1 S2 : Cst} {T T1 T2 : Nat → List Nat} {F F1 F2 : List Nat} {col c1 c2 : Nat → Nat}
theorem Sst.ci (h : Sst E x S T F col S1 T1 F1 c1) : CI E S1 T1 F1 c1 := h.1
theorem Sst.en (h : Sst E x S T F col S1 T1 F1 c1) : eN S S1 := h.2.1
theorem Sst.cl (h : Sst E x S T F col S1 T1 F1 c1) : ∀ q, q < S.1 → c1 q = col q := h.2.2.1
theorem Sst.fr (h : Sst E x S T F col S1 T1 F1 c1) : ∀ q, q < S.1 → col q ≠ x → S1.2.2 q = S.2.2 q := h.2.2.2.1
theorem Sst.ft (h : Sst E x S T F col S1 T1 F1 c1) : ∀ c, c < S.1 → col c ≠ x → T1 c = T c := h.2.2.2.2.1
theorem Sst.n1 (h : Sst E x S T F col S1 T1 F1 c1) : S1.1 + pcL S T x + 4 * F.length ≤ S.1 + pcL S1 T1 x + 4 * F1.length := h.2.2.2.2.2.1
theorem Sst.n2 (h : Sst E x S T F col S1 T1 F1 c1) : S1.2.1 + plL S T x + 618 * F.length ≤ S.2.1 + plL S1 T1 x + 618 * F1.length := h.2.2.2.2.2.2.1
theorem Sst.k (h : Sst E x S T F col S1 T1 F1 c1) : iK S x 0 := h.2.2.2.2.2.2.2.1
theorem Sst.k1 (h : Sst E x S T F col S1 T1 F1 c1) : iK S1 x 0 := h.k.n h.en
theorem Sst.fc (h : Sst E x S T F col S1 T1 F1 c1) : ∀ q, q ∈ F1 → c1 q = x := h.2.2.2.2.2.2.2.2.1
theorem Sst.mb (h : Sst E x S T F col S1 T1 F1 c1) : mT T x + F.length ≤ 90 → mT T1 x + F1.length ≤ 90 := h.2.2.2.2.2.2.2.2.2
theorem Sst.rf (h : CI E S T F col) (k : iK S x 0) (f : ∀ q, q ∈ F → col q = x) : Sst E x S T F col S T F col := ⟨h, eN.rf S, fun _ _ => rfl, fun _ _ _ => rfl, fun _ _ _ => rfl, Nat.le_refl _, Nat.le_refl _, k, f, id⟩
theorem Sst.tr (h : Sst E0 x S T F col S1 T1 F1 c1) (g : Sst E x S1 T1 F1 c1 S2 T2 F2 c2) : Sst E x S T F col S2 T2 F2 c2 := by
  have lt : ∀ q, q < S.1 → q < S1.1 := fun q a => Nat.lt_of_lt_of_le a h.en.1.1
  refine ⟨g.ci, h.en.tr g.en, fun q a => (g.cl q (lt q a)).trans (h.cl q a), fun q a b => (g.fr q (lt q a) (by rw [h.cl q a]; exact b)).trans (h.fr q a b), fun c a b => (g.ft c (lt c a) (by rw [h.cl c a]; exact b)).trans (h.ft c a b), ?_, ?_, h.k, g.fc, fun a => g.mb (h.mb a)⟩
  · have := h.n1
    have := g.n1
    omega
  · have := h.n2
    have := g.n2
    omega
/-- a step that makes nothing -/
theorem Sst.u (h : Sst E0 x S T F col S1 T1 F1 c1) (ci : CI E S2 T2 F2 c1) (ek : eK S1 S2) (fr : ∀ q, c1 q ≠ x → S2.2.2 q = S1.2.2 q) (ft : ∀ c, c1 c ≠ x → T2 c = T1 c) (l1 : ∀ l, iK S1 l 2 → grC S2 l 2 = grC S1 l 2 ∧ giC S2 l 0 = giC S1 l 0) (hm : mT T2 x + F2.length = mT T1 x + F1.length) (hF : ∀ q, q ∈ F2 → c1 q = x) : Sst E x S T F col S2 T2 F2 c1 := by
  refine h.tr ⟨ci, ek.n, fun _ _ => rfl, fun q _ b => fr q b, fun c _ b => ft c b, ?_, ?_, h.k1, hF, fun _ => by omega⟩
  · have w := h.ci.wf.w0 h.k1
    have e7 : lcl S2 (x + 7) = lcl S1 (x + 7) := by
      unfold lcl
      rw [(l1 _ w.1.2.2.2.2.1).1]
      exact (ek.2 _ (h.ci.wf.w2 w.1.2.2.2.2.1).2.1.2.1).2
    have e9 : lcl S2 (x + 9) = lcl S1 (x + 9) := by
      unfold lcl
      rw [(l1 _ w.1.2.2.2.2.2.1).1]
      exact (ek.2 _ (h.ci.wf.w2 w.1.2.2.2.2.2.1).2.1.2.1).2
    unfold pcL
    rw [e7, e9, ← ek.1.1]
    omega
  · have w := h.ci.wf.w0 h.k1
    have e7 : lcl S2 (x + 7) = lcl S1 (x + 7) := by
      unfold lcl
      rw [(l1 _ w.1.2.2.2.2.1).1]
      exact (ek.2 _ (h.ci.wf.w2 w.1.2.2.2.2.1).2.1.2.1).2
    have e9 : lcl S2 (x + 9) = lcl S1 (x + 9) := by
      unfold lcl
      rw [(l1 _ w.1.2.2.2.2.2.1).1]
      exact (ek.2 _ (h.ci.wf.w2 w.1.2.2.2.2.2.1).2.1.2.1).2
    unfold plL psL
    rw [e7, e9, (l1 _ w.1.2.2.2.2.1).2, (l1 _ w.1.2.2.2.2.2.1).2, ← ek.1.2]
    omega
theorem Sst.si (h : Sst E x S T F col S1 T1 F1 c1) {a b : Nat} {v : Int32} (hc : c1 a = x) (n4 : kdC S1 a ≠ 4) (ok : okI (kdC S1 a) b v) : Sst E x S T F col (siC S1 a b v) T1 F1 c1 := by
  refine h.u (h.ci.si ok n4) (eK.si S1 a b v) (fun q n => ce_si b v (fun z => n (by rw [z]; exact hc))) (fun _ _ => rfl) (fun l k => ⟨gr_si .., ?_⟩) rfl h.fc
  rw [gi_si, if_neg (fun z => by have := ok.2.1 (by rw [← z.1]; exact k.2); omega)]
theorem Sst.sf (h : Sst E x S T F col S1 T1 F1 c1) {a : Nat} {f : Nat → Int32} (hc : c1 a = x) (ok : kdC S1 a = 20 ∨ kdC S1 a = 21 ∨ (kdC S1 a = 22 ∧ ∀ i, fits .byte (.int (f i)) = true)) : Sst E x S T F col (sfC S1 a f) T1 F1 c1 := by
  refine h.u (h.ci.sf ok) (eK.sf S1 a f) (fun q n => ce_sf f (fun z => n (by rw [z]; exact hc))) (fun _ _ => rfl) (fun l k => ⟨gr_sf .., ?_⟩) rfl h.fc
  rw [gi_sf, if_neg (fun z => by have := k.2; rw [z] at this; omega)]
theorem Sst.oc (h : Sst E x S T F col S1 T1 F1 c1) {c : Nat} (o : own x c) : c1 c = x := by
  obtain ⟨j, hj, e⟩ := o.lt
  rw [e]
  exact h.ci.c0 x h.k1 j hj
theorem Sst.cx (h : Sst E x S T F col S1 T1 F1 c1) (j : Nat) (hj : j < 40) : c1 (x + j) = x := h.ci.c0 x h.k1 j hj
theorem own.k (h : Sst E x S T F col S1 T1 F1 c1) {P : Nat} (o : own x P) (n : P ≠ x) : iK S1 P 4 := by
  have w := h.ci.wf.w0 h.k1
  rcases o with o | o | o | ⟨p, hp, o⟩
  · exact absurd o n
  · rw [o]
    exact w.1.2.1
  · rw [o]
    exact (h.ci.wf.w5 w.1.2.2.1).1
  · rw [o, show x + 14 + 3 * p = x + 13 + 3 * p + 1 by omega]
    exact (h.ci.wf.w5 (dk_ix h.ci.wf h.k1 hp).2).1
theorem Sst.pull (h : Sst E x S T F col S1 T1 F1 c1) {P q : Nat} {l : List Nat} {v : Int32} (e : ¬ E P) (o : own x P) (n : P ≠ x) (hT : T1 P = l ++ [q]) (hv : v.toInt = l.length) : Sst E x S T F col (srC (siC S1 P 1 v) (P + 1) l.length none) (tU T1 P l) (q :: F1) c1 := by
  have k := own.k h o n
  have w4 := h.ci.wf.w4 k
  have hq : q ∈ T1 P := by rw [hT]; simp
  have hc := h.oc o
  have hc1 : c1 (P + 1) = x := by
    rcases o with o | o | o | ⟨p, hp, o⟩
    · exact absurd o n
    · rw [o]
      exact h.cx 2 (by omega)
    · rw [o]
      exact h.cx 5 (by omega)
    · rw [o, show x + 14 + 3 * p + 1 = x + (15 + 3 * p) by omega]
      exact h.cx (15 + 3 * p) (by omega)
  refine h.u (h.ci.pull e k hT hv) ((eK.si S1 P 1 v).tr (eK.sr _ _ _ _)) (fun z m => ?_) (fun c m => tU_ne T1 l (fun z => m (by rw [z]; exact hc))) (fun z kz => ?_) ?_ (fun z m => ?_)
  · rw [ce_sr _ _ (fun y => m (by rw [y]; exact hc1)), ce_si _ _ (fun y => m (by rw [y]; exact hc))]
  · rw [gr_sr, if_neg (fun y => by have := kz.2; rw [y.1, w4.1.1.2] at this; omega), gr_si, gi_sr, gi_si, if_neg (fun y => by have := kz.2; rw [y.1, k.2] at this; omega)]
    exact ⟨rfl, rfl⟩
  · have := mT_U (T := T1) (l := l) o
    rw [hT, List.length_append] at this
    simp at this ⊢
    omega
  · rcases List.mem_cons.mp m with rfl | m
    · rw [(h.ci.tk P z hq).2, hc]
    · exact h.fc z m
theorem Sst.put {q : Nat} (h : Sst E x S T F col S1 T1 (q :: F1) c1) {P : Nat} {v : Int32} (e : ¬ E P) (o : own x P) (n : P ≠ x) (hl : (T1 P).length < 9) (hv : v.toInt = (T1 P).length + 1) : Sst E x S T F col (siC (srC S1 (P + 1) (T1 P).length (some q)) P 1 v) (tU T1 P (T1 P ++ [q])) F1 c1 := by
  have k := own.k h o n
  have w4 := h.ci.wf.w4 k
  have hc := h.oc o
  have hq := h.fc q (List.mem_cons_self ..)
  have hc1 : c1 (P + 1) = x := by
    rcases o with o | o | o | ⟨p, hp, o⟩
    · exact absurd o n
    · rw [o]
      exact h.cx 2 (by omega)
    · rw [o]
      exact h.cx 5 (by omega)
    · rw [o, show x + 14 + 3 * p + 1 = x + (15 + 3 * p) by omega]
      exact h.cx (15 + 3 * p) (by omega)
  refine h.u (h.ci.put e k hl (by rw [hq, hc]) hv) ((eK.sr S1 _ _ _).tr (eK.si _ _ _ _)) (fun z m => ?_) (fun c m => tU_ne T1 _ (fun z => m (by rw [z]; exact hc))) (fun z kz => ?_) ?_ (fun z m => h.fc z (List.mem_cons_of_mem _ m))
  · rw [ce_si _ _ (fun y => m (by rw [y]; exact hc)), ce_sr _ _ (fun y => m (by rw [y]; exact hc1))]
  · rw [gr_si, gr_sr, if_neg (fun y => by have := kz.2; rw [y.1, w4.1.1.2] at this; omega), gi_si, if_neg (fun y => by have := kz.2; rw [y.1, k.2] at this; omega), gi_sr]
    exact ⟨rfl, rfl⟩
  · have := mT_U (T := T1) (l := T1 P ++ [q]) o
    simp at this ⊢
    omega
theorem Sst.push {q : Nat} (h : Sst E x S T F col S1 T1 (q :: F1) c1) : Sst E x S T F col (srC (srC S1 q 15 (grC S1 x 10)) x 10 (some q)) (tU T1 x (q :: T1 x)) F1 c1 := by
  have hq := h.fc q (List.mem_cons_self ..)
  have kq := (h.ci.tf.2 q (List.mem_cons_self ..)).1
  have hx := h.cx 0 (by omega)
  refine h.u (h.ci.push h.k1 hq) ((eK.sr S1 _ _ _).tr (eK.sr _ _ _ _)) (fun z m => ?_) (fun c m => tU_ne T1 _ (fun z => m (by rw [z]; exact hx))) (fun z kz => ?_) ?_ (fun z m => h.fc z (List.mem_cons_of_mem _ m))
  · rw [ce_sr _ _ (fun y => m (by rw [y]; exact hx)), ce_sr _ _ (fun y => m (by rw [y]; exact hq))]
  · rw [gr_sr, if_neg (fun y => by have := kz.2; rw [y.1, h.k1.2] at this; omega), gr_sr, if_neg (fun y => by have := kz.2; rw [y.1, kq.2] at this; omega), gi_sr, gi_sr]
    exact ⟨rfl, rfl⟩
  · have := mT_U (T := T1) (l := q :: T1 x) (show own x x from Or.inl rfl)
    simp at this ⊢
    omega
theorem Sst.pop {q : Nat} {L : List Nat} (h : Sst E x S T F col S1 T1 F1 c1) (hT : T1 x = q :: L) : Sst E x S T F col (srC (srC S1 x 10 (grC S1 q 15)) q 15 none) (tU T1 x L) (q :: F1) c1 := by
  have mq : q ∈ T1 x := by rw [hT]; exact List.mem_cons_self ..
  have kq := h.ci.tk x q mq
  have hx := h.cx 0 (by omega)
  have hq : c1 q = x := by rw [kq.2]; exact hx
  refine h.u (h.ci.pop h.k1 hT) ((eK.sr S1 _ _ _).tr (eK.sr _ _ _ _)) (fun z m => ?_) (fun c m => tU_ne T1 _ (fun z => m (by rw [z]; exact hx))) (fun z kz => ?_) ?_ (fun z m => ?_)
  · rw [ce_sr _ _ (fun y => m (by rw [y]; exact hq)), ce_sr _ _ (fun y => m (by rw [y]; exact hx))]
  · rw [gr_sr, if_neg (fun y => by have := kz.2; rw [y.1, kq.1.2] at this; omega), gr_sr, if_neg (fun y => by have := kz.2; rw [y.1, h.k1.2] at this; omega), gi_sr, gi_sr]
    exact ⟨rfl, rfl⟩
  · have := mT_U (T := T1) (l := L) (show own x x from Or.inl rfl)
    rw [hT] at this
    simp at this ⊢
    omega
  · rcases List.mem_cons.mp m with rfl | m
    · exact hq
    · exact h.fc z m
end
