/-! ===== as made, as begun ===== -/
section
variable {x : Nat} {S : Cst} {T : Nat → List Nat} {H R : HS} {n : Int32}
/-- a class's assembly as it is begun -/
def frC (n : Int32) (S : Cst) (T : Nat → List Nat) (x : Nat) : Prop := (giC S (x + 37) 0 = n ∧ giC S (x + 37) 2 = 0 ∧ giC S (x + 37) 3 = -1 ∧ giC S (x + 37) 4 = 0 ∧ giC S (x + 37) 5 = 0 ∧ giC S (x + 37) 6 = -1) ∧ (∀ s, s < 200 → giC S (x + 38) s = 0) ∧ (∀ k, k < 9 → giC S (x + 39) k = mj0 k) ∧ (∀ g, g < 10 → T (rP x g) = []) ∧ (giC S (x + 3) 0 = 0 ∧ ∀ p, p < 8 → giC S (x + 13 + 3 * p) 0 = 0) ∧ (giC S (x + 7) 3 = 0 ∧ giC S (x + 9) 3 = 0) ∧ jS S x ∧ (giC S x 7 = 0 ∧ giC S x 8 = 0 ∧ giC S x 9 = 0 ∧ giC S (x + 11) 1 = 0) ∧ sV S
/-- a reference's Hall as it is begun -/
def frR (n : Int32) (R : HS) : Prop := (R.1 0 = n ∧ R.1 1 = 0 ∧ R.1 2 = -1 ∧ R.1 3 = 0 ∧ R.1 4 = 0 ∧ R.1 5 = -1) ∧ (R.1 6 = 0 ∧ R.1 7 = 0 ∧ R.1 8 = 0 ∧ R.1 9 = 0 ∧ R.1 10 = 0) ∧ (R.1 35 = 0 ∧ R.1 39 = -1) ∧ (∀ s, s < 200 → R.2 11 s = 0) ∧ (∀ j, j < 9 → R.2 12 j = mj0 j) ∧ (∀ p, p < 8 → R.2 34 p = 0)
theorem frR_beg (H : HS) (n : Int32) : frR n (f_X11_begin H n).2 ∧ (f_X11_begin H n).2.2 40 = H.2 40 := by
  obtain ⟨R, eR, a, b, c, d, e, f, g⟩ := beg_v H n
  rw [eR]
  exact ⟨⟨a, b, c, d, e, f⟩, g⟩
theorem frRR (hn : 0 ≤ n.toInt ∧ n.toInt ≤ 200) (c : frC n S T x) (r : frR n R) (z : Nat → Int32) : RR (True, z, n, R.2 40) 0 S T x R := by
  obtain ⟨⟨h0, h1, h2, h3, h4, h5⟩, c38, c39, T0, ⟨s3, sp⟩, ⟨l7, l9⟩, j, ⟨x7, x8, x9, x11⟩, sv⟩ := c
  obtain ⟨⟨v0, v1, v2, v3, v4, v5⟩, ⟨v6, v7, v8, v9, v10⟩, ⟨v35, v39⟩, v11, v12, v34⟩ := r
  obtain ⟨⟨j1, j2⟩, j3, j4, j5, j6, j7⟩ := j
  have N0 : ∀ g, g < 10 → hN R g = 0 := fun g hg => by
    match g with
    | 0 => show (R.1 6).toInt = 0; rw [v6]; rfl
    | 1 => show (R.1 35).toInt = 0; rw [v35]; rfl
    | p + 2 => show (R.2 34 p).toInt = 0; rw [v34 p (by omega)]; rfl
  have nL : ∀ g i, ¬ hL R g i := fun g i l => by
    have := l.2
    rw [N0 g l.1] at this
    omega
  have lc : ∀ l, (0 : Int) ≤ lcl S l := fun l => Int.natCast_nonneg _
  refine ⟨⟨⟨?_, ?_, ?_, ?_, ?_, ?_⟩, fun s hs' _ => ?_, fun k hk => ?_, ?_⟩, fun g hg => ⟨?_, fun i hi => ?_⟩, ⟨⟨fun _ => ?_, fun y => absurd v35 y⟩, fun p hp => ⟨fun _ => ?_, fun y => absurd (v34 p hp) y⟩, fun g _ l => absurd l (nL g 0), fun g _ l => absurd l (nL g 0), fun g _ l => absurd l (nL g 0)⟩, ⟨⟨?_, ?_, fun i j hi => ?_⟩, ⟨?_, ?_, fun i j hi => ?_⟩, ⟨j1, j2⟩, j3, j4, j5, j6, j7, fun i hi => ?_⟩, ⟨⟨⟨?_, fun _ => ?_⟩, ?_, fun _ => ⟨v39, ?_⟩, fun y => absurd v9 y, fun i hi => ?_⟩, sv, v0, rfl⟩, ⟨?_, ?_⟩, fun g i l => absurd l (nL g i), fun g i g' i' l => absurd l (nL g i), fun j l => absurd l (nL j 0)⟩
  · rw [h0, v0]
  · rw [h1, v1]
  · rw [h2, v2]
  · rw [h3, v3]
  · rw [h4, v4]
  · rw [h5, v5]
  · rw [c38 s hs', v11 s hs']
  · rw [c39 k hk, v12 k hk]
  · rw [v4, i0]
    refine ⟨Int.le_refl _, fun s hs' => Or.inl (v11 s ?_)⟩
    rw [v0] at hs'
    omega
  · rw [T0 g hg, N0 g hg]
    rfl
  · rw [T0 g hg] at hi
    exact absurd hi (Nat.not_lt_zero _)
  · exact s3
  · exact sp p hp
  · rw [l7, v7]
  · rw [v7, i0]
    have := lc (x + 7)
    omega
  · rw [v7, i0] at hi
    omega
  · rw [l9, v8]
  · rw [v8, i0]
    have := lc (x + 9)
    omega
  · rw [v8, i0] at hi
    omega
  · rw [v7, i0] at hi
    omega
  · rw [x7, v9]
  · rw [x9, v10]
  · rw [v9, v8, i0]
    omega
  · exact x11
  · rw [v39] at hi
    have : (-1 : Int32).toInt = -1 := by decide
    omega
  · rw [x8, i0]
    omega
  · rw [x8, i0]
    omega
theorem frJX (hn : 1 ≤ n.toInt ∧ n.toInt ≤ 200) (c : frC n S T x) (P z : Nat → Int32) : JX S T x n 0 P z := by
  refine ⟨⟨hn, by omega, fun k hk => absurd hk (Nat.not_lt_zero _)⟩, ⟨?_, fun i j hi => absurd hi (Nat.not_lt_zero _), fun i hi => absurd hi (Nat.not_lt_zero _)⟩, fun H0 hb => ⟨fun k hk => absurd hk (Nat.not_lt_zero _), ?_⟩⟩
  · rw [c.2.2.2.2.2.1.1]
    rfl
  · obtain ⟨r, -⟩ := frR_beg H0 n
    generalize (f_X11_begin H0 n).2 = R at r ⊢
    have z0 : ((0 : Nat) : Int) = 0 := rfl
    rw [fol, z0]
    exact (frRR ⟨by omega, hn.2⟩ c r z).lo0
end
