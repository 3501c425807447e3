/-! ===== what holds of an assembly's places; values of readers ===== -/
def noE : Nat → Prop := fun _ => False
theorem noE_n : ∀ c, ¬ noE c := fun _ h => h
def nK (v : Int32) : Prop := v = 4 ∨ v = 5 ∨ v = 7
def nd (S : Cst) (L : List Nat) : Prop := ∃ q, q ∈ L ∧ nK (giC S q 2)
def sK (v : Int32) : Prop := v = 0 ∨ v = 1 ∨ v = 2 ∨ v = 3
def PI (S : Cst) (T : Nat → List Nat) (x : Nat) : Prop := (∀ d, pl x d → (giC S d 0 = 0 → T (d + 1) = []) ∧ (giC S d 0 ≠ 3 → (T (d + 1)).length ≤ 1) ∧ sK (giC S d 0) ∧ (d = x + 3 → giC S d 0 ≠ 1)) ∧ (nd S (T (x + 1)) → 1 ≤ fcU S x 8) ∧ (giC S (x + 3) 0 = 3 → 1 ≤ fcU S x 8) ∧ (nd S (T (x + 1)) → giC S (x + 3) 0 = 3 → 2 ≤ fcU S x 8)
/-- the sorts of places and the kinds of motions stand -/
def gP (S S' : Cst) : Prop := eN S S' ∧ (∀ q, q < S.1 → kdC S q = 5 → giC S' q 0 = giC S q 0) ∧ (∀ q, q < S.1 → kdC S q = 3 → giC S' q 2 = giC S q 2)
theorem gP.rf (S : Cst) : gP S S := ⟨eN.rf S, fun _ _ _ => rfl, fun _ _ _ => rfl⟩
theorem gP.tr {S S1 S2 : Cst} (h : gP S S1) (g : gP S1 S2) : gP S S2 := ⟨h.1.tr g.1, fun q a k => (g.2.1 q (Nat.lt_of_lt_of_le a h.1.1.1) (by rw [(h.1.2 q a).1]; exact k)).trans (h.2.1 q a k), fun q a k => (g.2.2 q (Nat.lt_of_lt_of_le a h.1.1.1) (by rw [(h.1.2 q a).1]; exact k)).trans (h.2.2 q a k)⟩
theorem gF.p {S S' : Cst} (h : gF S S') : gP S S' := ⟨h.1, fun q a k => h.2.1 q a (by rw [k]; decide) 0, fun q a k => h.2.1 q a (by rw [k]; decide) 2⟩
theorem gX.p {D : Nat → Prop} {S S' : Cst} (h : gX D S S') (h5 : ∀ q, q < S.1 → D q → kdC S q ≠ 5) (h3 : ∀ q, q < S.1 → D q → kdC S q = 3 → giC S' q 2 = giC S q 2) : gP S S' := by
  refine ⟨h.1, fun q a k => h.2.1 q a (by rw [k]; decide) (fun z => h5 q a z k) 0, fun q a k => ?_⟩
  by_cases z : D q
  · exact h3 q a z k
  · exact h.2.1 q a (by rw [k]; decide) z 2
theorem gP.si {S : Cst} {a b : Nat} {v : Int32} (h5 : kdC S a = 5 → b ≠ 0) (h3 : kdC S a = 3 → b ≠ 2) : gP S (siC S a b v) := by
  refine ⟨(eK.si S a b v).n, fun q _ k => ?_, fun q _ k => ?_⟩
  · rw [gi_si, if_neg (fun z => h5 (by rw [← z.1]; exact k) z.2.symm)]
  · rw [gi_si, if_neg (fun z => h3 (by rw [← z.1]; exact k) z.2.symm)]
theorem gP.sf {S : Cst} {a : Nat} {f : Nat → Int32} (h : kdC S a ≠ 5 ∧ kdC S a ≠ 3) : gP S (sfC S a f) := by
  refine ⟨(eK.sf S a f).n, fun q _ k => ?_, fun q _ k => ?_⟩
  · rw [gi_sf, if_neg (fun z => h.1 (by rw [← z]; exact k))]
  · rw [gi_sf, if_neg (fun z => h.2 (by rw [← z]; exact k))]
theorem LSt.p {E : Nat → Prop} {T : Nat → List Nat} {F : List Nat} {S S2 : Cst} {col c2 : Nat → Nat} {l : Nat} (h : LSt E T F l S col S2 c2) (k : iK S l 2) (wf : wfS S) : gP S S2 := by
  have kz := (wf.w2 k).2.1.2
  have g := fun (q : Nat) (a : q < S.1) (n2 : kdC S q ≠ 2) (n20 : kdC S q ≠ 20) => h.2.2.2.1 q a (fun z => n2 (by rw [z]; exact k.2)) (fun z => n20 (by rw [z]; exact kz.2))
  refine ⟨h.2.1, fun q a e => ?_, fun q a e => ?_⟩
  · unfold giC
    rw [g q a (by rw [e]; decide) (by rw [e]; decide)]
  · unfold giC
    rw [g q a (by rw [e]; decide) (by rw [e]; decide)]
theorem fcU_cg {S S' : Cst} {x : Nat} : ∀ n, (∀ p, p < n → giC S' (x + 13 + 3 * p) 0 = giC S (x + 13 + 3 * p) 0) → fcU S' x n = fcU S x n := by
  intro n
  induction n with
  | zero => intro _; rfl
  | succ n ih =>
    intro h
    rw [fcU, fcU, ih (fun p hp => h p (by omega)), h n (by omega)]
section
variable {E E0 : Nat → Prop} {x : Nat} {S S1 S2 : Cst} {T T1 T2 : Nat → List Nat} {F F1 : List Nat} {col c1 : Nat → Nat}
theorem pl.lt (h : CI E S T F col) (k : iK S x 0) {d : Nat} (o : pl x d) : iK S d 5 := by
  rcases o with o | ⟨p, hp, o⟩
  · rw [o]
    exact (h.wf.w0 k).1.2.2.1
  · rw [o]
    exact (dk_ix h.wf k hp).2
theorem PI.kp (h : PI S1 T1 x) (ci : CI E S1 T1 F1 c1) (k : iK S1 x 0) (g : gP S1 S2) (hT : ∀ c, own x c → c ≠ x → T2 c = T1 c) : PI S2 T2 x := by
  have hs : ∀ d, pl x d → giC S2 d 0 = giC S1 d 0 := fun d o => g.2.1 d (o.lt ci k).1 (o.lt ci k).2
  have hf : fcU S2 x 8 = fcU S1 x 8 := fcU_cg 8 (fun p hp => hs _ (Or.inr ⟨p, hp, rfl⟩))
  have ht := hT (x + 1) (Or.inr (Or.inl rfl)) (by omega)
  have hn : nd S2 (T2 (x + 1)) → nd S1 (T1 (x + 1)) := fun ⟨q, m, n⟩ => by
    rw [ht] at m
    have kq := (ci.tk _ q m).1
    rw [g.2.2 q kq.1 kq.2] at n
    exact ⟨q, m, n⟩
  refine ⟨fun d o => ?_, fun n => ?_, fun n => ?_, fun n m => ?_⟩
  · rw [hs d o, hT (d + 1) o.o.1 o.o.2.1]
    exact h.1 d o
  · rw [hf]
    exact h.2.1 (hn n)
  · rw [hf]
    rw [hs (x + 3) (Or.inl rfl)] at n
    exact h.2.2.1 n
  · rw [hf]
    rw [hs (x + 3) (Or.inl rfl)] at m
    exact h.2.2.2 (hn n) m
theorem at_s (h : CI E S T F col) {P : Nat} (e : ¬ E P) (k : iK S P 4) {i : Int32} (h1 : 0 ≤ i.toInt) (h2 : i.toInt < (T P).length) : f_Y5_at S P i = some ((T P).getD i.toNatClampNeg 0) := by
  have w := h.tp P e k
  have w4 := h.wf.w4 k
  have h9 : (Int32.ofNat 9).toInt = 9 := by decide
  have hn := iNat h1
  unfold f_Y5_at b_Y5_at_21 b_Y5_at_31
  rw [w4.2.1, Option.getD_some, w4.1.2, if_neg (fun z => by have := iLt.mp z; rw [i0] at this; omega), if_neg (fun z => by have := iLe.mp z; omega), if_pos (iLt.mpr (by rw [h9]; omega)), w.2.2 _ (by omega)]
theorem at_n (h : CI E S T F col) {P : Nat} (e : ¬ E P) (k : iK S P 4) {i : Int32} (h2 : i.toInt < 0 ∨ (T P).length ≤ i.toInt) : f_Y5_at S P i = none := by
  have w := h.tp P e k
  unfold f_Y5_at b_Y5_at_21 b_Y5_at_31
  by_cases c : i < 0
  · rw [if_pos c]
  · rw [if_neg c, if_pos]
    have c := mt iLt.mpr c
    rw [i0] at c
    exact iLe.mpr (by omega)
theorem tp_n (h : CI E S T F col) {P : Nat} (e : ¬ E P) (k : iK S P 4) (hT : T P = []) : f_Y5_top S P = none := by
  have w := h.tp P e k
  rw [hT] at w
  have w1 : (giC S P 1).toInt = 0 := w.1
  have e1 := iSub (x := giC S P 1) (y := 1) (by rw [i1]; omega) (by rw [i1]; omega)
  rw [i1] at e1
  exact at_n h e k (Or.inl (by omega))
theorem tp_s (h : CI E S T F col) {P q : Nat} {l : List Nat} (e : ¬ E P) (k : iK S P 4) (hT : T P = l ++ [q]) : f_Y5_top S P = some q := by
  have w := h.tp P e k
  have hl : (T P).length = l.length + 1 := by rw [hT, List.length_append]; rfl
  have e1 := iSub (x := giC S P 1) (y := 1) (by rw [i1]; omega) (by rw [i1]; omega)
  rw [i1] at e1
  have hn := iNat (x := giC S P 1 - 1) (by omega)
  have := at_s h e k (i := giC S P 1 - 1) (by omega) (by omega)
  unfold f_Y5_top
  rw [this, hT]
  congr 1
  rw [List.getD_eq_getElem?_getD, show (giC S P 1 - 1).toNatClampNeg = l.length by omega, List.getElem?_append_right (Nat.le_refl _), Nat.sub_self]
  rfl
/-- the top is none: nothing there; it is one: it is the last -/
theorem tp_i (h : CI E S T F col) {P : Nat} (e : ¬ E P) (k : iK S P 4) : (f_Y5_top S P = none → T P = []) ∧ (∀ q, f_Y5_top S P = some q → ∃ l, T P = l ++ [q]) := by
  rcases List.eq_nil_or_concat (T P) with z | ⟨l, q, z⟩
  · rw [tp_n h e k z]
    exact ⟨fun _ => z, fun q y => by cases y⟩
  · rw [List.concat_eq_append] at z
    rw [tp_s h e k z]
    exact ⟨fun y => (by cases y), fun r y => by cases y; exact ⟨l, z⟩⟩
theorem mN {q : Nat} (h : f_Y4_needsPlace S q = 0) : ¬ nK (giC S q 2) := by
  unfold f_Y4_needsPlace b_Y4_needsPlace_25 b_Y4_needsPlace_30 at h
  intro n
  rcases n with n | n | n
  · rw [if_pos n] at h
    exact absurd h (by decide)
  · rw [n] at h
    exact absurd h (by decide)
  · rw [n] at h
    exact absurd h (by decide)
theorem mN' {q : Nat} (h : ¬ f_Y4_needsPlace S q = 0) : nK (giC S q 2) := by
  unfold f_Y4_needsPlace b_Y4_needsPlace_25 b_Y4_needsPlace_30 at h
  split at h
  · next c => exact Or.inl c
  · split at h
    · next c => exact Or.inr (Or.inl c)
    · split at h
      · next c => exact Or.inr (Or.inr c)
      · exact absurd rfl h
theorem needs_lp (h : CI E S T F col) {P : Nat} (e : ¬ E P) (k : iK S P 4) : ∀ (n : Nat) (b : Int32), 0 ≤ b.toInt → b.toInt ≤ (T P).length → (T P).length - b.toInt < n → lp_Y5_needsPlace_2 S P n b = 0 → ∀ i, b.toNatClampNeg ≤ i → i < (T P).length → ¬ nK (giC S ((T P).getD i 0) 2) := by
  have w := h.tp P e k
  intro n
  induction n with
  | zero => intro b h1 h2 h3; omega
  | succ n ih =>
    intro b h1 h2 h3 h4 i hi hl
    rw [lp_Y5_needsPlace_2] at h4
    unfold st_Y5_needsPlace_2 at h4
    have hb := iNat h1
    by_cases c : b.toInt = (T P).length
    · omega
    · rw [if_neg (fun z => by have := iLe.mp z; omega), at_s h e k h1 (by omega), if_neg (by simp), Option.getD_some] at h4
      by_cases z : f_Y4_needsPlace S ((T P).getD b.toNatClampNeg 0) = 0
      · rw [if_pos z] at h4
        have e1 := iAdd (x := b) (y := 1) (by rw [i1]; omega) (by rw [i1]; omega)
        rw [i1] at e1
        have hb' := iNat (x := b + 1) (by omega)
        by_cases d : i = b.toNatClampNeg
        · rw [d]
          exact mN z
        · exact ih (b + 1) (by omega) (by omega) (by omega) h4 i (by omega) hl
      · rw [if_neg z] at h4
        exact absurd (show (1 : Int32) = 0 from h4) (by decide)
theorem needs_v (h : CI E S T F col) {P : Nat} (e : ¬ E P) (k : iK S P 4) (z : f_Y5_needsPlace S P = 0) : ¬ nd S (T P) := by
  rintro ⟨q, m, n⟩
  obtain ⟨i, hi, ei⟩ := List.getElem_of_mem m
  have w := h.tp P e k
  refine needs_lp h e k 100000 0 (by rw [i0]; omega) (by rw [i0]; omega) (by rw [i0]; omega) z i (by rw [show (0 : Int32).toNatClampNeg = 0 from rfl]; omega) hi ?_
  rw [List.getD_eq_getElem?_getD, List.getElem?_eq_getElem hi, ei]
  exact n
theorem mot_n (h : CI E S T F col) (k : iK S x 0) {d : Nat} (o : pl x d) (z : giC S d 0 ≠ 2) : f_Y6_motion S d = none := by
  unfold f_Y6_motion b_Y6_motion_20
  rw [if_neg z]
theorem mot_s (h : CI E S T F col) (k : iK S x 0) {d : Nat} (o : pl x d) (e : ¬ E (d + 1)) (z : giC S d 0 = 2) : (T (d + 1) = [] → f_Y6_motion S d = none) ∧ ∀ q l, T (d + 1) = q :: l → f_Y6_motion S d = some q := by
  have k5 := o.lt h k
  have w5 := h.wf.w5 k5
  unfold f_Y6_motion b_Y6_motion_20
  rw [if_pos z, w5.2, Option.getD_some]
  refine ⟨fun y => at_n h e w5.1 (Or.inr (by rw [y, i0]; exact Int.le_refl _)), fun q l y => ?_⟩
  rw [at_s h e w5.1 (i := 0) (by rw [i0]; omega) (by rw [i0, y, List.length_cons]; omega), y]
  rfl
end
