/-! ===== whose motions are where: T (a pile's, a spare chain's), F afloat, col (which assembly's a cell is) ===== -/
def tU (T : Nat → List Nat) (c : Nat) (l : List Nat) : Nat → List Nat := fun d => if d = c then l else T d
theorem tU_at (T : Nat → List Nat) (c : Nat) (l : List Nat) : tU T c l c = l := if_pos rfl
theorem tU_ne (T : Nat → List Nat) {c d : Nat} (l : List Nat) (h : d ≠ c) : tU T c l d = T d := if_neg h
def Ch (S : Cst) : Option Nat → List Nat → Prop
  | r, [] => r = none
  | r, q :: L => r = some q ∧ Ch S (grC S q 15) L
theorem Ch.cg {S S' : Cst} : ∀ (L : List Nat) (r : Option Nat), (∀ q, q ∈ L → grC S' q 15 = grC S q 15) → Ch S r L → Ch S' r L := by
  intro L
  induction L with
  | nil => intro r _ h; exact h
  | cons q L ih =>
    intro r g h
    refine ⟨h.1, ?_⟩
    rw [g q (List.mem_cons_self ..)]
    exact ih _ (fun z m => g z (List.mem_cons_of_mem _ m)) h.2
def CI (E : Nat → Prop) (S : Cst) (T : Nat → List Nat) (F : List Nat) (col : Nat → Nat) : Prop :=
  wfS S ∧ (∀ c, T c ≠ [] → c < S.1) ∧ (∀ c q, q ∈ T c → iK S q 3 ∧ col q = col c) ∧ (∀ c d q, q ∈ T c → q ∈ T d → c = d) ∧ (∀ c, (T c).Nodup) ∧ (F.Nodup ∧ ∀ q, q ∈ F → iK S q 3 ∧ ∀ c, q ∉ T c) ∧ (∀ P, ¬ E P → iK S P 4 → (giC S P 1).toInt = (T P).length ∧ (T P).length ≤ 9 ∧ ∀ i, i < (T P).length → grC S (P + 1) i = some ((T P).getD i 0)) ∧ (∀ x, iK S x 0 → Ch S (grC S x 10) (T x)) ∧ (∀ x, iK S x 0 → ∀ j, j < 40 → col (x + j) = x) ∧ (∀ q, iK S q 3 → ∀ j, j < 4 → col (q + j) = col q) ∧ (∀ l, iK S l 2 → col ((grC S l 2).getD 0) = col l)
section
variable {E : Nat → Prop} {S : Cst} {T : Nat → List Nat} {F : List Nat} {col : Nat → Nat}
theorem CI.wf (h : CI E S T F col) : wfS S := h.1
theorem CI.tz (h : CI E S T F col) : ∀ c, T c ≠ [] → c < S.1 := h.2.1
theorem CI.tk (h : CI E S T F col) : ∀ c q, q ∈ T c → iK S q 3 ∧ col q = col c := h.2.2.1
theorem CI.td (h : CI E S T F col) : ∀ c d q, q ∈ T c → q ∈ T d → c = d := h.2.2.2.1
theorem CI.tn (h : CI E S T F col) : ∀ c, (T c).Nodup := h.2.2.2.2.1
theorem CI.tf (h : CI E S T F col) : F.Nodup ∧ ∀ q, q ∈ F → iK S q 3 ∧ ∀ c, q ∉ T c := h.2.2.2.2.2.1
theorem CI.tp (h : CI E S T F col) : ∀ P, ¬ E P → iK S P 4 → (giC S P 1).toInt = (T P).length ∧ (T P).length ≤ 9 ∧ ∀ i, i < (T P).length → grC S (P + 1) i = some ((T P).getD i 0) := h.2.2.2.2.2.2.1
theorem CI.tc (h : CI E S T F col) : ∀ x, iK S x 0 → Ch S (grC S x 10) (T x) := h.2.2.2.2.2.2.2.1
theorem CI.c0 (h : CI E S T F col) : ∀ x, iK S x 0 → ∀ j, j < 40 → col (x + j) = x := h.2.2.2.2.2.2.2.2.1
theorem CI.c3 (h : CI E S T F col) : ∀ q, iK S q 3 → ∀ j, j < 4 → col (q + j) = col q := h.2.2.2.2.2.2.2.2.2.1
theorem CI.c2 (h : CI E S T F col) : ∀ l, iK S l 2 → col ((grC S l 2).getD 0) = col l := h.2.2.2.2.2.2.2.2.2.2
theorem CI.si (h : CI E S T F col) {a b : Nat} {v : Int32} (ok : okI (kdC S a) b v) (n4 : kdC S a ≠ 4) : CI E (siC S a b v) T F col := by
  refine ⟨wf_si h.wf ok, h.tz, fun c q m => ⟨ik_si.mpr (h.tk c q m).1, (h.tk c q m).2⟩, h.td, h.tn, ⟨h.tf.1, fun q m => ⟨ik_si.mpr (h.tf.2 q m).1, (h.tf.2 q m).2⟩⟩, fun P e k => ?_, fun x k => ?_, fun x k => h.c0 x (ik_si.mp k), fun q k => h.c3 q (ik_si.mp k), fun l k => ?_⟩
  · have k := ik_si.mp k
    have w := h.tp P e k
    rw [gi_si, if_neg (fun z => n4 (by rw [← z.1]; exact k.2))]
    simp only [gr_si]
    exact w
  · have w := h.tc x (ik_si.mp k)
    rw [gr_si]
    exact w.cg _ _ (fun q _ => by rw [gr_si])
  · rw [gr_si]
    exact h.c2 l (ik_si.mp k)
theorem CI.sf (h : CI E S T F col) {a : Nat} {f : Nat → Int32} (ok : kdC S a = 20 ∨ kdC S a = 21 ∨ (kdC S a = 22 ∧ ∀ i, fits .byte (.int (f i)) = true)) : CI E (sfC S a f) T F col := by
  refine ⟨wf_sf h.wf ok, h.tz, fun c q m => ⟨ik_sf.mpr (h.tk c q m).1, (h.tk c q m).2⟩, h.td, h.tn, ⟨h.tf.1, fun q m => ⟨ik_sf.mpr (h.tf.2 q m).1, (h.tf.2 q m).2⟩⟩, fun P e k => ?_, fun x k => ?_, fun x k => h.c0 x (ik_sf.mp k), fun q k => h.c3 q (ik_sf.mp k), fun l k => ?_⟩
  · have k := ik_sf.mp k
    have w := h.tp P e k
    rw [gi_sf, if_neg (fun z => by have := k.2; rw [z] at this; omega)]
    simp only [gr_sf]
    exact w
  · have w := h.tc x (ik_sf.mp k)
    rw [gr_sf]
    exact w.cg _ _ (fun q _ => by rw [gr_sf])
  · rw [gr_sf]
    exact h.c2 l (ik_sf.mp k)
/-- the top of a pile comes afloat -/
theorem CI.pull (h : CI E S T F col) {P q : Nat} {l : List Nat} {v : Int32} (e : ¬ E P) (k : iK S P 4) (hT : T P = l ++ [q]) (hv : v.toInt = l.length) : CI E (srC (siC S P 1 v) (P + 1) l.length none) (tU T P l) (q :: F) col := by
  have w := h.tp P e k
  have w4 := h.wf.w4 k
  rw [hT, List.length_append] at w
  have hq : q ∈ T P := by rw [hT]; simp
  have hn := h.tn P
  rw [hT, List.nodup_append] at hn
  have sub : ∀ c z, z ∈ tU T P l c → z ∈ T c := fun c z m => by
    by_cases y : c = P
    · rw [y, tU_at] at m
      rw [y, hT]
      exact List.mem_append_left _ m
    · rwa [tU_ne T l y] at m
  have nq : ∀ c, q ∉ tU T P l c := fun c m => by
    have y := h.td c P q (sub c q m) hq
    rw [y, tU_at] at m
    exact hn.2.2 q m q (List.mem_singleton_self q) rfl
  refine ⟨wf_sr (wf_si h.wf ⟨fun z => by rw [k.2] at z; omega, fun z => by rw [k.2] at z; omega, fun z => by rw [k.2] at z; omega, fun _ _ => ⟨by omega, by simp at w; omega⟩, fun z => by rw [k.2] at z; omega, fun z => by rw [k.2] at z; omega⟩) ?_, fun c g => ?_, fun c z m => ?_, fun c d z m1 m2 => h.td c d z (sub c z m1) (sub d z m2), fun c => ?_, ⟨?_, fun z m => ?_⟩, fun Q eQ kQ => ?_, fun x kx => ?_, fun x kx => h.c0 x (ik_si.mp (ik_sr.mp kx)), fun z kz => h.c3 z (ik_si.mp (ik_sr.mp kz)), fun z kz => ?_⟩
  · have k1 := w4.1.1.2
    refine ⟨fun z y => (by cases y), ?_, ?_, ?_, ?_, ?_, ?_, ?_, ?_, fun _ => Or.inl rfl, ?_⟩ <;> (rw [kd_si, k1]; intro z; omega)
  · by_cases y : c = P
    · rw [y]
      exact k.1
    · rw [tU_ne T l y] at g
      exact h.tz c g
  · exact ⟨ik_sr.mpr (ik_si.mpr (h.tk c z (sub c z m)).1), (h.tk c z (sub c z m)).2⟩
  · by_cases y : c = P
    · rw [y, tU_at]
      exact hn.1
    · rw [tU_ne T l y]
      exact h.tn c
  · exact List.nodup_cons.mpr ⟨fun m => (h.tf.2 q m).2 P hq, h.tf.1⟩
  · rcases List.mem_cons.mp m with rfl | m
    · exact ⟨ik_sr.mpr (ik_si.mpr (h.tk P z hq).1), nq⟩
    · exact ⟨ik_sr.mpr (ik_si.mpr (h.tf.2 z m).1), fun c y => (h.tf.2 z m).2 c (sub c z y)⟩
  · have kQ := ik_si.mp (ik_sr.mp kQ)
    have wQ := h.tp Q eQ kQ
    simp only [gi_sr, gi_si, gr_sr, gr_si]
    by_cases y : Q = P
    · rw [if_pos ⟨y, trivial⟩, y, tU_at]
      refine ⟨hv, by simp at w; omega, fun i hi => ?_⟩
      rw [if_neg (fun z => by omega)]
      have := w.2.2 i (by simp; omega)
      rw [this]
      congr 1
      rw [List.getD_eq_getElem?_getD, List.getD_eq_getElem?_getD, List.getElem?_append_left hi]
    · rw [if_neg (fun z => y z.1), tU_ne T l y]
      refine ⟨wQ.1, wQ.2.1, fun i hi => ?_⟩
      rw [if_neg (fun z => y (by omega))]
      exact wQ.2.2 i hi
  · have kx := ik_si.mp (ik_sr.mp kx)
    have y : x ≠ P := fun z => by have := kx.2; rw [z, k.2] at this; omega
    have y2 : x ≠ P + 1 := fun z => by have := kx.2; rw [z, w4.1.1.2] at this; omega
    rw [tU_ne T l y, gr_sr, if_neg (fun z => y2 z.1), gr_si]
    refine (h.tc x kx).cg _ _ (fun z m => ?_)
    have kz := (h.tk x z m).1
    rw [gr_sr, if_neg (fun y => by have := kz.2; rw [y.1, w4.1.1.2] at this; omega), gr_si]
  · have kz := ik_si.mp (ik_sr.mp kz)
    rw [gr_sr, if_neg (fun y => by have := kz.2; rw [y.1, w4.1.1.2] at this; omega), gr_si]
    exact h.c2 z kz
/-- one that is afloat comes to the top of a pile -/
theorem CI.put {q : Nat} (h : CI E S T (q :: F) col) {P : Nat} {v : Int32} (e : ¬ E P) (k : iK S P 4) (hl : (T P).length < 9) (hc : col q = col P) (hv : v.toInt = (T P).length + 1) : CI E (siC (srC S (P + 1) (T P).length (some q)) P 1 v) (tU T P (T P ++ [q])) F col := by
  have w := h.tp P e k
  have w4 := h.wf.w4 k
  have hF := h.tf
  have kq := hF.2 q (List.mem_cons_self ..)
  have hn := List.nodup_cons.mp hF.1
  have sub : ∀ c z, z ∈ tU T P (T P ++ [q]) c → z ∈ T c ∨ (c = P ∧ z = q) := fun c z m => by
    by_cases y : c = P
    · rw [y, tU_at] at m
      rw [y]
      rcases List.mem_append.mp m with m | m
      · exact Or.inl m
      · exact Or.inr ⟨rfl, List.mem_singleton.mp m⟩
    · rw [tU_ne T _ y] at m
      exact Or.inl m
  refine ⟨wf_si (wf_sr h.wf ?_) ?_, fun c g => ?_, fun c z m => ?_, fun c d z m1 m2 => ?_, fun c => ?_, ⟨hn.2, fun z m => ?_⟩, fun Q eQ kQ => ?_, fun x kx => ?_, fun x kx => h.c0 x (ik_sr.mp (ik_si.mp kx)), fun z kz => h.c3 z (ik_sr.mp (ik_si.mp kz)), fun z kz => ?_⟩
  · have k1 := w4.1.1.2
    refine ⟨fun z y => by cases y; exact kq.1.1, ?_, ?_, ?_, ?_, ?_, ?_, ?_, ?_, fun _ => Or.inr ⟨q, rfl, kq.1⟩, ?_⟩ <;> (rw [k1]; intro z; omega)
  · rw [kd_sr, k.2]
    exact ⟨fun z => by omega, fun z => by omega, fun z => by omega, fun _ _ => ⟨by omega, by omega⟩, fun z => by omega, fun z => by omega⟩
  · by_cases y : c = P
    · rw [y]
      exact k.1
    · rw [tU_ne T _ y] at g
      exact h.tz c g
  · rcases sub c z m with m | ⟨rfl, rfl⟩
    · exact ⟨ik_si.mpr (ik_sr.mpr (h.tk c z m).1), (h.tk c z m).2⟩
    · exact ⟨ik_si.mpr (ik_sr.mpr kq.1), hc⟩
  · rcases sub c z m1 with m1 | ⟨r1, r2⟩ <;> rcases sub d z m2 with m2 | ⟨s1, s2⟩
    · exact h.td c d z m1 m2
    · rw [s2] at m1
      exact absurd m1 (kq.2 c)
    · rw [r2] at m2
      exact absurd m2 (kq.2 d)
    · rw [r1, s1]
  · by_cases y : c = P
    · rw [y, tU_at]
      refine List.nodup_append.mpr ⟨h.tn P, (by simp), fun a m b m' z => ?_⟩
      rw [z, List.mem_singleton.mp m'] at m
      exact kq.2 P m
    · rw [tU_ne T _ y]
      exact h.tn c
  · have g := hF.2 z (List.mem_cons_of_mem _ m)
    refine ⟨ik_si.mpr (ik_sr.mpr g.1), fun c y => ?_⟩
    rcases sub c z y with y | ⟨_, y⟩
    · exact g.2 c y
    · rw [y] at m
      exact hn.1 m
  · have kQ := ik_sr.mp (ik_si.mp kQ)
    have wQ := h.tp Q eQ kQ
    simp only [gi_sr, gi_si, gr_sr, gr_si]
    by_cases y : Q = P
    · rw [if_pos ⟨y, trivial⟩, y, tU_at, List.length_append]
      refine ⟨by rw [hv]; simp, by simp; omega, fun i hi => ?_⟩
      simp only [List.length_singleton] at hi
      by_cases d : i = (T P).length
      · rw [if_pos ⟨rfl, d⟩, d]
        congr 1
        rw [List.getD_eq_getElem?_getD, List.getElem?_append_right (Nat.le_refl _), Nat.sub_self]
        rfl
      · rw [if_neg (fun z => d z.2)]
        rw [w.2.2 i (by omega)]
        congr 1
        rw [List.getD_eq_getElem?_getD, List.getD_eq_getElem?_getD, List.getElem?_append_left (by omega)]
    · rw [if_neg (fun z => y z.1), tU_ne T _ y]
      refine ⟨wQ.1, wQ.2.1, fun i hi => ?_⟩
      rw [if_neg (fun z => y (by omega))]
      exact wQ.2.2 i hi
  · have kx := ik_sr.mp (ik_si.mp kx)
    have y : x ≠ P := fun z => by have := kx.2; rw [z, k.2] at this; omega
    have y2 : x ≠ P + 1 := fun z => by have := kx.2; rw [z, w4.1.1.2] at this; omega
    rw [tU_ne T _ y, gr_si, gr_sr, if_neg (fun z => y2 z.1)]
    refine (h.tc x kx).cg _ _ (fun z m => ?_)
    have kz := (h.tk x z m).1
    rw [gr_si, gr_sr, if_neg (fun y => by have := kz.2; rw [y.1, w4.1.1.2] at this; omega)]
  · have kz := ik_sr.mp (ik_si.mp kz)
    rw [gr_si, gr_sr, if_neg (fun y => by have := kz.2; rw [y.1, w4.1.1.2] at this; omega)]
    exact h.c2 z kz
end
section
variable {E : Nat → Prop} {S : Cst} {T : Nat → List Nat} {F : List Nat} {col : Nat → Nat}
/-- one that is afloat goes to the spare ones -/
theorem CI.push {q x : Nat} (h : CI E S T (q :: F) col) (k : iK S x 0) (hc : col q = x) : CI E (srC (srC S q 15 (grC S x 10)) x 10 (some q)) (tU T x (q :: T x)) F col := by
  have hF := h.tf
  have kq := hF.2 q (List.mem_cons_self ..)
  have hn := List.nodup_cons.mp hF.1
  have w0 := h.wf.w0 k
  have hx : col x = x := h.c0 x k 0 (by omega)
  have ne : q ≠ x := fun z => by have := kq.1.2; rw [z, k.2] at this; omega
  have sub : ∀ c z, z ∈ tU T x (q :: T x) c → z ∈ T c ∨ (c = x ∧ z = q) := fun c z m => by
    by_cases y : c = x
    · rw [y, tU_at] at m
      rw [y]
      rcases List.mem_cons.mp m with m | m
      · exact Or.inr ⟨rfl, m⟩
      · exact Or.inl m
    · rw [tU_ne T _ y] at m
      exact Or.inl m
  refine ⟨wf_sr (wf_sr h.wf ?_) ?_, fun c g => ?_, fun c z m => ?_, fun c d z m1 m2 => ?_, fun c => ?_, ⟨hn.2, fun z m => ?_⟩, fun Q eQ kQ => ?_, fun y ky => ?_, fun y ky => h.c0 y (ik_sr.mp (ik_sr.mp ky)), fun z kz => h.c3 z (ik_sr.mp (ik_sr.mp kz)), fun z kz => ?_⟩
  · refine ⟨fun z y => h.wf.1 x k.1 10 z y, ?_, ?_, ?_, fun _ => ⟨rfl, w0.2.2⟩, ?_, ?_, ?_, ?_, ?_, ?_⟩ <;> (rw [kq.1.2]; intro z; omega)
  · refine ⟨fun z y => by cases y; exact kq.1.1, fun _ => ⟨rfl, Or.inr ⟨q, rfl, ik_sr.mpr kq.1⟩⟩, ?_, ?_, ?_, ?_, ?_, ?_, ?_, ?_, ?_⟩ <;> (rw [kd_sr, k.2]; intro z; omega)
  · by_cases y : c = x
    · rw [y]
      exact k.1
    · rw [tU_ne T _ y] at g
      exact h.tz c g
  · rcases sub c z m with m | ⟨r1, r2⟩
    · exact ⟨ik_sr.mpr (ik_sr.mpr (h.tk c z m).1), (h.tk c z m).2⟩
    · rw [r1, r2]
      exact ⟨ik_sr.mpr (ik_sr.mpr kq.1), by rw [hc, hx]⟩
  · rcases sub c z m1 with m1 | ⟨r1, r2⟩ <;> rcases sub d z m2 with m2 | ⟨s1, s2⟩
    · exact h.td c d z m1 m2
    · rw [s2] at m1
      exact absurd m1 (kq.2 c)
    · rw [r2] at m2
      exact absurd m2 (kq.2 d)
    · rw [r1, s1]
  · by_cases y : c = x
    · rw [y, tU_at]
      exact List.nodup_cons.mpr ⟨kq.2 x, h.tn x⟩
    · rw [tU_ne T _ y]
      exact h.tn c
  · have g := hF.2 z (List.mem_cons_of_mem _ m)
    refine ⟨ik_sr.mpr (ik_sr.mpr g.1), fun c y => ?_⟩
    rcases sub c z y with y | ⟨_, y⟩
    · exact g.2 c y
    · rw [y] at m
      exact hn.1 m
  · have kQ := ik_sr.mp (ik_sr.mp kQ)
    have y : Q ≠ x := fun z => by have := kQ.2; rw [z, k.2] at this; omega
    have w4 := h.wf.w4 kQ
    rw [tU_ne T _ y]
    simp only [gi_sr, gr_sr]
    have wQ := h.tp Q eQ kQ
    refine ⟨wQ.1, wQ.2.1, fun i hi => ?_⟩
    rw [if_neg (fun z => by have := w4.1.1.2; rw [z.1, k.2] at this; omega), if_neg (fun z => by have := w4.1.1.2; rw [z.1, kq.1.2] at this; omega)]
    exact wQ.2.2 i hi
  · have ky := ik_sr.mp (ik_sr.mp ky)
    by_cases e : y = x
    · rw [e, tU_at, gr_sr, if_pos ⟨rfl, rfl⟩]
      refine ⟨rfl, ?_⟩
      rw [gr_sr, if_neg (fun z => ne z.1), gr_sr, if_pos ⟨rfl, rfl⟩]
      refine (h.tc x k).cg _ _ (fun z m => ?_)
      rw [gr_sr, if_neg (fun y => by have := (h.tk x z m).1.2; rw [y.1, k.2] at this; omega), gr_sr, if_neg (fun y => kq.2 x (by rw [← y.1]; exact m))]
    · rw [tU_ne T _ e, gr_sr, if_neg (fun z => e z.1), gr_sr, if_neg (fun z => by have := ky.2; rw [z.1, kq.1.2] at this; omega)]
      refine (h.tc y ky).cg _ _ (fun z m => ?_)
      rw [gr_sr, if_neg (fun w => by have := (h.tk y z m).1.2; rw [w.1, k.2] at this; omega), gr_sr, if_neg (fun w => kq.2 y (by rw [← w.1]; exact m))]
  · have kz := ik_sr.mp (ik_sr.mp kz)
    rw [gr_sr, if_neg (fun y => by have := kz.2; rw [y.1, k.2] at this; omega), gr_sr, if_neg (fun y => by have := kz.2; rw [y.1, kq.1.2] at this; omega)]
    exact h.c2 z kz
/-- a spare one comes afloat -/
theorem CI.pop {q x : Nat} {L : List Nat} (h : CI E S T F col) (k : iK S x 0) (hT : T x = q :: L) : CI E (srC (srC S x 10 (grC S q 15)) q 15 none) (tU T x L) (q :: F) col := by
  have mq : q ∈ T x := by rw [hT]; exact List.mem_cons_self ..
  have kq := (h.tk x q mq).1
  have hn := h.tn x
  rw [hT] at hn
  have hn := List.nodup_cons.mp hn
  have hx : col x = x := h.c0 x k 0 (by omega)
  have ne : q ≠ x := fun z => by have := kq.2; rw [z, k.2] at this; omega
  have w3 := h.wf.w3 kq
  have cx := h.tc x k
  rw [hT] at cx
  have sub : ∀ c z, z ∈ tU T x L c → z ∈ T c := fun c z m => by
    by_cases y : c = x
    · rw [y, tU_at] at m
      rw [y, hT]
      exact List.mem_cons_of_mem _ m
    · rwa [tU_ne T L y] at m
  have nq : ∀ c, q ∉ tU T x L c := fun c m => by
    have y := h.td c x q (sub c q m) mq
    rw [y, tU_at] at m
    exact hn.1 m
  refine ⟨wf_sr (wf_sr h.wf ?_) ?_, fun c g => ?_, fun c z m => ⟨ik_sr.mpr (ik_sr.mpr (h.tk c z (sub c z m)).1), (h.tk c z (sub c z m)).2⟩, fun c d z m1 m2 => h.td c d z (sub c z m1) (sub d z m2), fun c => ?_, ⟨List.nodup_cons.mpr ⟨fun m => (h.tf.2 q m).2 x mq, h.tf.1⟩, fun z m => ?_⟩, fun Q eQ kQ => ?_, fun y ky => ?_, fun y ky => h.c0 y (ik_sr.mp (ik_sr.mp ky)), fun z kz => h.c3 z (ik_sr.mp (ik_sr.mp kz)), fun z kz => ?_⟩
  · refine ⟨fun z y => h.wf.1 q kq.1 15 z y, fun _ => ⟨rfl, w3.2.2.2⟩, ?_, ?_, ?_, ?_, ?_, ?_, ?_, ?_, ?_⟩ <;> (rw [k.2]; intro z; omega)
  · refine ⟨fun z y => (by cases y), ?_, ?_, ?_, fun _ => ⟨rfl, Or.inl rfl⟩, ?_, ?_, ?_, ?_, ?_, ?_⟩ <;> (rw [kd_sr, kq.2]; intro z; omega)
  · by_cases y : c = x
    · rw [y]
      exact k.1
    · rw [tU_ne T _ y] at g
      exact h.tz c g
  · by_cases y : c = x
    · rw [y, tU_at]
      exact hn.2
    · rw [tU_ne T _ y]
      exact h.tn c
  · rcases List.mem_cons.mp m with rfl | m
    · exact ⟨ik_sr.mpr (ik_sr.mpr kq), nq⟩
    · exact ⟨ik_sr.mpr (ik_sr.mpr (h.tf.2 z m).1), fun c y => (h.tf.2 z m).2 c (sub c z y)⟩
  · have kQ := ik_sr.mp (ik_sr.mp kQ)
    have y : Q ≠ x := fun z => by have := kQ.2; rw [z, k.2] at this; omega
    have w4 := h.wf.w4 kQ
    rw [tU_ne T _ y]
    simp only [gi_sr, gr_sr]
    have wQ := h.tp Q eQ kQ
    refine ⟨wQ.1, wQ.2.1, fun i hi => ?_⟩
    rw [if_neg (fun z => by have := w4.1.1.2; rw [z.1, kq.2] at this; omega), if_neg (fun z => by have := w4.1.1.2; rw [z.1, k.2] at this; omega)]
    exact wQ.2.2 i hi
  · have ky := ik_sr.mp (ik_sr.mp ky)
    by_cases e : y = x
    · rw [e, tU_at, gr_sr, if_neg (fun z => ne z.1.symm), gr_sr, if_pos ⟨rfl, rfl⟩]
      refine cx.2.cg _ _ (fun z m => ?_)
      have mz : z ∈ T x := by rw [hT]; exact List.mem_cons_of_mem _ m
      rw [gr_sr, if_neg (fun y => hn.1 (by rw [← y.1]; exact m)), gr_sr, if_neg (fun y => by have := (h.tk x z mz).1.2; rw [y.1, k.2] at this; omega)]
    · rw [tU_ne T _ e, gr_sr, if_neg (fun z => by have := ky.2; rw [z.1, kq.2] at this; omega), gr_sr, if_neg (fun z => e z.1)]
      refine (h.tc y ky).cg _ _ (fun z m => ?_)
      rw [gr_sr, if_neg (fun w => e (h.td y x q (by rw [← w.1]; exact m) mq)), gr_sr, if_neg (fun w => by have := (h.tk y z m).1.2; rw [w.1, k.2] at this; omega)]
  · have kz := ik_sr.mp (ik_sr.mp kz)
    rw [gr_sr, if_neg (fun y => by have := kz.2; rw [y.1, kq.2] at this; omega), gr_sr, if_neg (fun y => by have := kz.2; rw [y.1, k.2] at this; omega)]
    exact h.c2 z kz
end
