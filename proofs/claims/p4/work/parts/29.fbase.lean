/-- a Hall and one more row of ints -/
def fX (K : Nat → ClassId) (q : Nat) (F : Nat → Int32) : va_W := [(q, .inl (K 0, 3600, .inl F))]
def fSt (G : va_G) (K : Nat → ClassId) (h : Nat) (g : Nat → Nat) (q : Nat) (F : Nat → Int32) (sz : Nat) (S : HS) (P : Prop) (U : State) : Prop := wS G K sz (hW K h g S ++ fX K q F) U ∧ P
def fB (G : va_G) (K : Nat → ClassId) (h : Nat) (g : Nat → Nat) (q : Nat) (F : Nat → Int32) (A : Nat → Prop) (u : HS) (t : State) : Prop := wB G A (hW K h g u ++ fX K q F) t
section W5
variable {p : Program} {l : Launch} {e : Env} {R : Room} {s : State} {m : MethodId} {args : Array Value} {below : List Frame} {meth : Method} {c : Code} {H : Heap} {locs : List Loc} {cells slots : Nat} {Q : State → Prop}
variable {pc : Nat} {ls : Array Slot} {rest st0 : List Value} {a : Array Value} {A0 : Nat → Prop} {mc ms : Nat} {G : va_G} {K : Nat → ClassId} {h q : Nat} {g : Nat → Nat} {F : Nat → Int32} {S : HS}
theorem fGoi {post : Int32 → HS → Prop} (hr : va_Run p l e R s m args below meth c H locs cells slots mc ms (F0 m pc ls st0) rest (va_Qi post (hB G K h g (va_A (hW K h g S) H.size)) (va_A (hW K h g S) H.size) a) (va_A (hW K h g S) H.size)) (hP : va_P G vwCl (hW K h g S ++ fX K q F) H) (hD : va_D A0 (hW K h g S ++ fX K q F)) (hS : va_S A0 s.heap H locs) (hA : ∀ q, s.heap.size ≤ q → A0 q)
    (kk : ∀ (r : Int32) (u : HS) (H1 : Heap) (locs1 : List Loc), post r u → va_P G vwCl (hW K h g u ++ fX K q F) H1 → va_D A0 (hW K h g u ++ fX K q F) → va_S A0 s.heap H1 locs1 → W p l e R s m args below meth c H1 locs1 (cells + mc) (slots + ms) Q (F0 m (pc + 3) ls (.int r :: rest))) : W p l e R s m args below meth c H locs cells slots Q (F0 m pc ls st0) := by
  have hF : ∀ q, va_A (hW K h g S) H.size q → A0 q := fun q hq => by
    rcases hq with ⟨k, e', h1⟩ | h1
    · exact (dL hD).2 k (q, e') h1
    · exact hA q (Nat.le_trans hS.1 h1)
  refine va_calli hr hS (fun q _ h => hF q h) hF (fun r u t H1 locs1 ht _ hw hB' _ hk hS1 => ?_)
  obtain ⟨hP1, hD1⟩ := hB'
  rw [ht] at hP1
  obtain ⟨x1, x2⟩ := fr3 (wa := []) (wb := fX K q F) hP hD hk hF hP1 hD1
  exact kk r u H1 locs1 hw x1 x2 hS1
theorem mGov_f {m0 h1 h2 : Nat} {gm g1 g2 : Nat → Nat} {M : MS} {post : HS → Prop} (hr : va_Run p l e R s m args below meth c H locs cells slots mc ms (F0 m pc ls st0) rest (va_Qv post (fB G K h2 g2 (g1 40) (M.2.1.2 40) (va_A (hW K h2 g2 M.2.2 ++ fX K (g1 40) (M.2.1.2 40)) H.size)) (va_A (hW K h2 g2 M.2.2 ++ fX K (g1 40) (M.2.1.2 40)) H.size) a) (va_A (hW K h2 g2 M.2.2 ++ fX K (g1 40) (M.2.1.2 40)) H.size)) (hP : va_P G vwCl (mW K m0 gm h1 g1 h2 g2 M) H) (hD : va_D A0 (mW K m0 gm h1 g1 h2 g2 M)) (hS : va_S A0 s.heap H locs) (hA : ∀ q, s.heap.size ≤ q → A0 q)
    (kk : ∀ (u : HS) (H1 : Heap) (locs1 : List Loc), post u → va_P G vwCl (mW K m0 gm h1 g1 h2 g2 (mS M u)) H1 → va_D A0 (mW K m0 gm h1 g1 h2 g2 (mS M u)) → va_S A0 s.heap H1 locs1 → W p l e R s m args below meth c H1 locs1 (cells + mc) (slots + ms) Q (F0 m (pc + 3) ls rest)) : W p l e R s m args below meth c H locs cells slots Q (F0 m pc ls st0) := by
  have hDc := hD.sub (ws' := hW K h2 g2 M.2.2 ++ fX K (g1 40) (M.2.1.2 40)) [33, 34, 35, 36, 37, 38, 39, 40, 41, 42, 43, 44, 45, 46, 47, 48, 49, 50, 51, 52, 53, 54, 55, 56, 57, 58, 59, 60, 31] (by decide) rfl
  have hF : ∀ q, va_A (hW K h2 g2 M.2.2 ++ fX K (g1 40) (M.2.1.2 40)) H.size q → A0 q := fun q hq => by
    rcases hq with ⟨k, e', h1⟩ | h1
    · exact hDc.2 k (q, e') h1
    · exact hA q (Nat.le_trans hS.1 h1)
  refine va_callv hr hS (fun q _ h => hF q h) hF (fun u t H1 locs1 ht _ hw hB' _ hk hS1 => ?_)
  obtain ⟨hP1, hD1⟩ := hB'
  rw [ht] at hP1
  have e1 : H1[g1 40]? = some (vp_cell (K 0) (3600, .inl (M.2.1.2 40))) := pR hP1 0 _ rfl
  have e0 : H[g1 40]? = some (vp_cell (K 0) (3600, .inl (M.2.1.2 40))) := hP 31 _ rfl
  have sub : ∀ q, va_A (hW K h2 g2 M.2.2 ++ fX K (g1 40) (M.2.1.2 40)) H.size q → q ≠ g1 40 → va_A (hW K h2 g2 M.2.2) H.size q := by
    intro q hq hn
    rcases hq with ⟨k, e', h1⟩ | h1
    · by_cases hkl : k < (hW K h2 g2 M.2.2).length
      · rw [List.getElem?_append_left hkl] at h1
        exact Or.inl ⟨k, e', h1⟩
      · rw [List.getElem?_append_right (Nat.not_lt.mp hkl)] at h1
        obtain ⟨x, hx⟩ : ∃ x, k - (hW K h2 g2 M.2.2).length = x := ⟨_, rfl⟩
        rw [hx] at h1
        cases x with
        | zero => cases h1; exact absurd rfl hn
        | succ x => simp [fX] at h1
    · exact Or.inr h1
  have hk1 : ∀ q : Nat, q < H.size → ¬ va_A (hW K h2 g2 M.2.2) H.size q → H1[q]? = H[q]? := by
    intro q hq hn
    by_cases hg : q = g1 40
    · rw [hg, e1, e0]
    · exact hk q hq (fun z => hn (sub q z hg))
  have hD2 : va_D (va_A (hW K h2 g2 M.2.2) H.size) (hW K h2 g2 u) := by
    refine ⟨(dL hD1).1, fun k x hx => sub x.1 ((dL hD1).2 k x hx) (fun hg => ?_)⟩
    have hkl := (List.getElem?_eq_some_iff.mp hx).1
    have a1 : (hW K h2 g2 u ++ fX K (g1 40) (M.2.1.2 40))[k]? = some x := by rw [List.getElem?_append_left hkl]; exact hx
    have a2 : (hW K h2 g2 u ++ fX K (g1 40) (M.2.1.2 40))[28]? = some (g1 40, .inl (K 0, 3600, .inl (M.2.1.2 40))) := rfl
    have := hD1.1 k 28 x _ a1 a2 hg
    have hl : (hW K h2 g2 u).length = 28 := rfl
    omega
  have hF2 : ∀ q, va_A (hW K h2 g2 M.2.2) H.size q → A0 q := fun q hq => by
    rcases hq with ⟨k, e', h1⟩ | h1
    · exact (mD_s hD).2 k (q, e') h1
    · exact hA q (Nat.le_trans hS.1 h1)
  obtain ⟨x1, x2⟩ := mFr_s hP hD hk1 hF2 (pL hP1) hD2
  exact kk u H1 locs1 hw x1 x2 hS1
theorem mPVf {m0 h1 h2 : Nat} {gm g1 g2 : Nat → Nat} {M : MS} {P : Prop} {As : List Value} (hK : va_K G vwCl (wTY K) s) (hE : wE s) (hP : va_P G vwCl (mW K m0 gm h1 g1 h2 g2 M) H) (hD : va_D A0 (mW K m0 gm h1 g1 h2 g2 M)) (p : P) : PreV s H RX11 h2 (va_Pc (.ref h2 :: As) (fSt G K h2 g2 (g1 40) (M.2.1.2 40) H.size M.2.2 P)) As :=
  ⟨fun a U g' mk q => ⟨q.1, (wFB (av := .ref h2 :: As) a U g' mk ⟨q.1, q.2.1⟩).2, q.2.2⟩, va_recv hK (mP_s hP) (ci := 8) (q0 := 0) rfl rfl, fun U hU hW' => ⟨rfl, (((wPS (av := []) hK hE (hP.sub (ws' := hW K h2 g2 M.2.2 ++ fX K (g1 40) (M.2.1.2 40)) [33, 34, 35, 36, 37, 38, 39, 40, 41, 42, 43, 44, 45, 46, 47, 48, 49, 50, 51, 52, 53, 54, 55, 56, 57, 58, 59, 60, 31] rfl) (hD.sub (ws' := hW K h2 g2 M.2.2 ++ fX K (g1 40) (M.2.1.2 40)) [33, 34, 35, 36, 37, 38, 39, 40, 41, 42, 43, 44, 45, 46, 47, 48, 49, 50, 51, 52, 53, 54, 55, 56, 57, 58, 59, 60, 31] (by decide) rfl)).2 U hU hW').2), p⟩⟩
end W5
