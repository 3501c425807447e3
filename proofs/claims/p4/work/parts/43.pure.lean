/-! ===== move's reason ===== -/
/-- an AMEND or a SECOND in x3's place has enough rows below it -/
def GM (S : HS) (x3 : Int32) : Prop := (x3 = 2 ∨ x3 = 3 → 1 ≤ (S.1 6).toInt) ∧ (x3 = 3 → 2 ≤ (S.1 6).toInt)
theorem m395 (S : HS) (x1 x2 x3 x4 : Int32) : q_X11_reasonOfMove_395 S x1 x2 x3 x4 := by
  have f : q_X11_reasonOfMove_411 S x1 x2 x3 x4 := by
    refine ⟨free_p S, ?_⟩
    unfold q_X11_reasonOfMove_a415
    split <;> exact True.intro
  unfold q_X11_reasonOfMove_395
  split
  · exact f
  split
  · exact f
  split
  · exact f
  · exact True.intro
theorem m348 {S : HS} (h : RA S) (hp : 1 ≤ (S.1 6).toInt) (x1 x2 x3 x4 x5 y0 : Int32) (hy : y0 = (-1) ∨ vp_in y0 90) : q_X11_reasonOfMove_348 S x1 x2 x3 x4 x5 y0 := by
  have t := top_in h hp
  unfold q_X11_reasonOfMove_348
  split
  · exact m395 S x1 x2 x3 x4
  rename_i z
  have hy := hy.resolve_left z
  refine ⟨hy, top_p h hp, ?_⟩
  rw [top_s]
  refine ⟨vIn t.1 t.2, top_p h hp, ?_⟩
  rw [top_s]
  refine ⟨vIn t.1 t.2, ?_⟩
  split
  · exact m395 S x1 x2 x3 x4
  · exact True.intro
theorem m293 {S : HS} (h : RA S) (hp : 1 ≤ (S.1 6).toInt) (x1 : Int32) {x2 : Int32} (hx : vp_in x2 90) {x3 : Int32} (g : GM S x3) (x4 y0 : Int32) (hy : vp_in y0 90) : q_X11_reasonOfMove_a293 S x1 x2 x3 x4 y0 := by
  refine ⟨hy, hx, hx, hx, ?_⟩
  split
  · split
    · rename_i z
      have hq := g.2 z
      have hr := h.2.1
      have e2 : (2 : Int32).toInt = 2 := by decide
      have e := iSub (x := S.1 6) (y := 2) (by rw [e2]; omega) (by rw [e2]; omega)
      rw [e2] at e
      have r := h.2.2.2.1 ((S.1 6) - 2).toNatClampNeg (by rw [iNat (by omega)]; omega)
      exact ⟨vIn (by omega) (by omega), m348 h hp _ _ _ _ _ _ (Or.inr (vIn r.1 r.2))⟩
    · exact m348 h hp _ _ _ _ _ _ (Or.inl rfl)
  · exact True.intro
theorem m259 {S : HS} (h : RA S) (x1 : Int32) {x2 : Int32} (hx : vp_in x2 90) {x3 : Int32} (g : GM S x3) (x4 : Int32) (hp : x4 = 0 ∨ 1 ≤ (S.1 6).toInt) : q_X11_reasonOfMove_259 S x1 x2 x3 x4 := by
  unfold q_X11_reasonOfMove_259
  split
  · split
    · exact True.intro
    split
    · exact m395 S x1 x2 x3 x4
    rename_i z
    have hp := hp.resolve_left z
    have t := top_in h hp
    refine ⟨top_p h hp, ?_⟩
    rw [top_s]
    exact m293 h hp x1 hx g x4 _ (vIn t.1 t.2)
  · exact True.intro
theorem m239 {S : HS} (h : RA S) (hp : 1 ≤ (S.1 6).toInt) (x1 : Int32) {x2 : Int32} (hx : vp_in x2 90) {x3 : Int32} (g : GM S x3) (x4 : Int32) : q_X11_reasonOfMove_239 S x1 x2 x3 x4 := by
  have t := top_in h hp
  refine ⟨hx, top_p h hp, ?_⟩
  rw [top_s]
  refine ⟨vIn t.1 t.2, ?_⟩
  split
  · exact m259 h x1 hx g x4 (Or.inr hp)
  · exact True.intro
theorem m196 {S : HS} (h : RA S) (x1 : Int32) {x2 : Int32} (hx : vp_in x2 90) {x3 : Int32} (g : GM S x3) (y0 : Int32) (hp : y0 = 0 ∨ 1 ≤ (S.1 6).toInt) : q_X11_reasonOfMove_196 S x1 x2 x3 y0 := by
  unfold q_X11_reasonOfMove_196
  split
  · exact m259 h x1 hx g y0 hp
  rename_i z
  have hp := hp.resolve_left z
  have t := top_in h hp
  refine ⟨hx, ?_⟩
  split
  · refine ⟨hx, ?_⟩
    split
    · exact m239 h hp x1 hx g y0
    · refine ⟨hx, top_p h hp, ?_⟩
      rw [top_s]
      refine ⟨vIn t.1 t.2, ?_⟩
      split
      · exact m239 h hp x1 hx g y0
      · exact True.intro
  · exact True.intro
theorem m161 {S : HS} (h : RA S) (x1 : Int32) {x2 : Int32} (hx : vp_in x2 90) {x3 : Int32} (g : GM S x3) : q_X11_reasonOfMove_161 S x1 x2 x3 := by
  unfold q_X11_reasonOfMove_161
  have n : q_X11_reasonOfMove_195 S x1 x2 x3 := m196 h x1 hx g 0 (Or.inl rfl)
  split
  · split
    · split
      · rename_i z
        exact m196 h x1 hx g 1 (Or.inr (g.1 (Or.inl z)))
      split
      · rename_i z
        exact m196 h x1 hx g 1 (Or.inr (g.1 (Or.inr z)))
      · exact n
    · exact n
  · exact True.intro
theorem m127 {S : HS} (h : RA S) (x1 : Int32) {x2 : Int32} (hx : vp_in x2 90) {x3 : Int32} (g : GM S x3) : q_X11_reasonOfMove_127 S x1 x2 x3 := by
  unfold q_X11_reasonOfMove_127
  split
  · exact True.intro
  split
  · split
    · exact m161 h x1 hx g
    · rename_i z
      refine ⟨seconder_p h (pend_gt z), ?_⟩
      rw [seconder_s]
      unfold q_X11_reasonOfMove_a156
      split
      · exact True.intro
      · exact m161 h x1 hx g
  · exact True.intro
theorem m70 {S : HS} (h : RA S) (x1 : Int32) {x2 : Int32} (hx : vp_in x2 90) {x3 : Int32} (g : GM S x3) : ∀ (n : Nat) (x4 x : Int32), 0 ≤ x.toInt → x.toInt ≤ (S.1 6).toInt → (S.1 6).toInt - x.toInt < n → lq_X11_reasonOfMove_70 n S x1 x2 x3 x4 x := by
  intro n
  induction n with
  | zero => intro x4 x h1 h2 h3; omega
  | succ n ih =>
    intro x4 x h1 h2 h3
    rw [lq_X11_reasonOfMove_70]
    unfold ps_X11_reasonOfMove_70 st_X11_reasonOfMove_70
    have hp := h.2.1
    by_cases c : S.1 6 ≤ x
    · rw [if_pos c, if_pos c]
      refine ⟨?_, True.intro⟩
      split
      · exact True.intro
      split
      · exact m127 h x1 hx g
      · exact True.intro
    · rw [if_neg c, if_neg c]
      have c := mt iLe.mpr c
      have hx9 : vp_in x 9 := vIn h1 (by omega)
      have r := h.2.2.2.1 x.toNatClampNeg (by rw [iNat h1]; omega)
      have hr : vp_in (S.2 31 x.toNatClampNeg) 90 := vIn r.1 r.2
      have e := iAdd (x := x) (y := 1) (by rw [i1]; omega) (by rw [i1]; omega)
      rw [i1] at e
      by_cases z : x4 = 0
      · rw [if_pos z, if_pos z]
        by_cases y : S.2 14 (S.2 31 x.toNatClampNeg).toNatClampNeg < x3
        · rw [if_pos y, if_pos y]
          exact ⟨⟨hx9, hr, True.intro⟩, ih 0 (x + 1) (by omega) (by omega) (by omega)⟩
        · rw [if_neg y, if_neg y]
          exact ⟨⟨hx9, hr, True.intro⟩, ih 1 (x + 1) (by omega) (by omega) (by omega)⟩
      · rw [if_neg z, if_neg z]
        exact ⟨True.intro, ih 1 (x + 1) (by omega) (by omega) (by omega)⟩
/-- the lowest pending motion is a MAIN -/
def RK (S : HS) : Prop := 1 ≤ (S.1 6).toInt → S.2 14 (S.2 31 0).toNatClampNeg = 1
theorem isAbout_3 {S : HS} (h : RA S) (k : RK S) (q : ¬ (f_X11_isAbout S 3).1 = 0) : 2 ≤ (S.1 6).toInt := by
  have hp := isAbout_pos h q
  refine Decidable.byContradiction (fun w => q ?_)
  have e := iSub (x := S.1 6) (y := 1) (by rw [i1]; omega) (by rw [i1]; omega)
  rw [i1] at e
  have z : ((S.1 6) - 1).toNatClampNeg = 0 := by
    have := iNat (x := (S.1 6) - 1) (by omega)
    omega
  unfold f_X11_isAbout
  rw [if_neg (fun y => by rw [y, i0] at hp; omega), top_s]
  unfold b_X11_isAbout_a17 f_X11_top
  dsimp only
  rw [z, k hp, if_neg (by decide), if_neg (by decide)]
  rfl
theorem m34 {S : HS} (h : RA S) (k : RK S) (x1 : Int32) {x2 : Int32} (hx : vp_in x2 90) (y0 : Int32) : q_X11_reasonOfMove_34 S x1 x2 y0 := by
  unfold q_X11_reasonOfMove_34
  split
  · rename_i z
    split
    · refine m127 h x1 hx ⟨fun y => ?_, fun y => ?_⟩
      · subst z
        exact absurd y (by decide)
      · subst z
        exact absurd y (by decide)
    · exact True.intro
  split
  · rename_i z
    have z := iLe.mp z
    have e4 : (4 : Int32).toInt = 4 := by decide
    rw [e4] at z
    have n2 : y0 ≠ 2 := fun y => by
      have e2 : (2 : Int32).toInt = 2 := by decide
      rw [y, e2] at z
      omega
    have n3 : y0 ≠ 3 := fun y => by
      have e3 : (3 : Int32).toInt = 3 := by decide
      rw [y, e3] at z
      omega
    exact m70 h x1 hx ⟨fun y => y.elim (fun y => absurd y n2) (fun y => absurd y n3), fun y => absurd y n3⟩ 100000 0 0 (by rw [i0]; omega) (by rw [i0]; have := h.2.1; omega) (by rw [i0]; have := h.2.1; omega)
  · refine ⟨isAbout_p h y0, ?_⟩
    rw [isAbout_s]
    unfold q_X11_reasonOfMove_a59
    split
    · exact True.intro
    · rename_i q
      exact m127 h x1 hx ⟨fun _ => isAbout_pos h q, fun y => by subst y; exact isAbout_3 h k q⟩
theorem move_p {S : HS} (h : RA S) (k : RK S) (hd : 1 ≤ (S.1 35).toInt ∨ S.1 35 = 0) (x1 : Int32) : p_X11_reasonOfMove S x1 := by
  unfold p_X11_reasonOfMove
  split
  · exact True.intro
  rename_i z
  have hd := hd.resolve_right z
  have d := draft0_in h hd
  have d0 : vp_in 0 9 := vIn (by rw [i0]; omega) (by rw [i0]; omega)
  refine ⟨d0, ?_⟩
  split
  · exact ⟨vIn d.1 d.2, m34 h k x1 (vIn d.1 d.2) _⟩
  · exact m34 h k x1 (vIn d.1 d.2) _
theorem reasons_p {S : HS} (h : RA S) (k : RK S) (x1 x2 x3 x4 x5 : Int32) : p_X11_reason S x1 x2 x3 x4 x5 := by
  refine reason_p h x1 x2 x3 x4 x5 (word_p h _ _ _ _) (lay_p h _) (move_p h k ?_ _)
  by_cases z : S.1 35 = 0
  · exact Or.inr z
  · refine Or.inl ?_
    have z := mt iEq.mpr z
    rw [i0] at z
    have := h.2.2.1
    omega
