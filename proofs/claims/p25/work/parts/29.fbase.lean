section
/-- a Hall and one more row of ints -/
def fX (K : Nat → ClassId) (q : Nat) (F : Nat → Int32) : va_W := [(q, .inl (K 0, 3600, .inl F))]
def fSt (G : va_G) (K : Nat → ClassId) (h : Nat) (g : Nat → Nat) (q : Nat) (F : Nat → Int32) (sz : Nat) (S : HS) (P : Prop) (U : State) : Prop := wS G K sz (hW K h g S ++ fX K q F) U ∧ P
def fB (G : va_G) (K : Nat → ClassId) (h : Nat) (g : Nat → Nat) (q : Nat) (F : Nat → Int32) (A : Nat → Prop) (u : HS) (t : State) : Prop := wB G A (hW K h g u ++ fX K q F) t
section W5
variable {p : Program} {l : Launch} {e : Env} {R : Room} {s : State} {m : MethodId} {args : Array Value} {below : List Frame} {meth : Method} {c : Code} {H : Heap} {locs : List Loc} {cells slots : Nat} {Q : State → Prop}
variable {pc : Nat} {ls : Array Slot} {rest st0 : List Value} {a : Array Value} {A0 : Nat → Prop} {mc ms : Nat} {G : va_G} {K : Nat → ClassId} {h q : Nat} {g : Nat → Nat} {F : Nat → Int32} {S : HS}
theorem fGoi {post : Int32 → HS → Prop} (hr : va_Run p l e R s m args below meth c H locs cells slots mc ms (F0 m pc ls st0) rest (va_Qi post (hB G K h g (va_A (hW K h g S) H.size)) (va_A (hW K h g S) H.size) a) (va_A (hW K h g S) H.size)) (hP : va_P G vwCl (hW K h g S ++ fX K q F) H) (hD : va_D A0 (hW K h g S ++ fX K q F)) (hS : va_S A0 s.heap H locs) (hA : ∀ q, s.heap.size ≤ q → A0 q)
    (kk : ∀ (r : Int32) (u : HS) (H1 : Heap) (locs1 : List Loc), post r u → va_P G vwCl (hW K h g u ++ fX K q F) H1 → va_D A0 (hW K h g u ++ fX K q F) → va_S A0 s.heap H1 locs1 → W p l e R s m args below meth c H1 locs1 (cells + mc) (slots + ms) Q (F0 m (pc + 3) ls (.int r :: rest))) : W p l e R s m args below meth c H locs cells slots Q (F0 m pc ls st0) := by
  have hF : ∀ q, va_A (hW K h g S) H.size q → A0 q := fun q hq => by
    rcases hq with ⟨k, e', h1⟩ | h1
    · exact (dL hD).2 k (q, e') h1
    · exact hA q (Nat.le_trans hS.1 h1)
  refine va_calli hr hS (fun q _ h => hF q h) hF (fun r u t H1 locs1 ht _ hw hB' _ hk hS1 => ?_)
  obtain ⟨hP1, hD1⟩ := hB'
  rw [ht] at hP1
  obtain ⟨x1, x2⟩ := fr3 (wa := []) (wb := fX K q F) hP hD hk hF hP1 hD1
  exact kk r u H1 locs1 hw x1 x2 hS1
theorem mGov_f {m0 h1 h2 : Nat} {gm g1 g2 : Nat → Nat} {M : MS} {post : HS → Prop} (hr : va_Run p l e R s m args below meth c H locs cells slots mc ms (F0 m pc ls st0) rest (va_Qv post (fB G K h2 g2 (g1 40) (M.2.1.2 40) (va_A (hW K h2 g2 M.2.2 ++ fX K (g1 40) (M.2.1.2 40)) H.size)) (va_A (hW K h2 g2 M.2.2 ++ fX K (g1 40) (M.2.1.2 40)) H.size) a) (va_A (hW K h2 g2 M.2.2 ++ fX K (g1 40) (M.2.1.2 40)) H.size)) (hP : va_P G vwCl (mW K m0 gm h1 g1 h2 g2 M) H) (hD : va_D A0 (mW K m0 gm h1 g1 h2 g2 M)) (hS : va_S A0 s.heap H locs) (hA : ∀ q, s.heap.size ≤ q → A0 q)
    (kk : ∀ (u : HS) (H1 : Heap) (locs1 : List Loc), post u → va_P G vwCl (mW K m0 gm h1 g1 h2 g2 (mS M u)) H1 → va_D A0 (mW K m0 gm h1 g1 h2 g2 (mS M u)) → va_S A0 s.heap H1 locs1 → W p l e R s m args below meth c H1 locs1 (cells + mc) (slots + ms) Q (F0 m (pc + 3) ls rest)) : W p l e R s m args below meth c H locs cells slots Q (F0 m pc ls st0) := by
  have hDc := hD.sub (ws' := hW K h2 g2 M.2.2 ++ fX K (g1 40) (M.2.1.2 40)) [33, 34, 35, 36, 37, 38, 39, 40, 41, 42, 43, 44, 45, 46, 47, 48, 49, 50, 51, 52, 53, 54, 55, 56, 57, 58, 59, 60, 31] (by decide) rfl
  have hF : ∀ q, va_A (hW K h2 g2 M.2.2 ++ fX K (g1 40) (M.2.1.2 40)) H.size q → A0 q := fun q hq => by
    rcases hq with ⟨k, e', h1⟩ | h1
    · exact hDc.2 k (q, e') h1
    · exact hA q (Nat.le_trans hS.1 h1)
  refine va_callv hr hS (fun q _ h => hF q h) hF (fun u t H1 locs1 ht _ hw hB' _ hk hS1 => ?_)
  obtain ⟨hP1, hD1⟩ := hB'
  rw [ht] at hP1
  have e1 : H1[g1 40]? = some (vp_cell (K 0) (3600, .inl (M.2.1.2 40))) := pR hP1 0 _ rfl
  have e0 : H[g1 40]? = some (vp_cell (K 0) (3600, .inl (M.2.1.2 40))) := hP 31 _ rfl
  have sub : ∀ q, va_A (hW K h2 g2 M.2.2 ++ fX K (g1 40) (M.2.1.2 40)) H.size q → q ≠ g1 40 → va_A (hW K h2 g2 M.2.2) H.size q := by
    intro q hq hn
    rcases hq with ⟨k, e', h1⟩ | h1
    · by_cases hkl : k < (hW K h2 g2 M.2.2).length
      · rw [List.getElem?_append_left hkl] at h1
        exact Or.inl ⟨k, e', h1⟩
      · rw [List.getElem?_append_right (Nat.not_lt.mp hkl)] at h1
        obtain ⟨x, hx⟩ : ∃ x, k - (hW K h2 g2 M.2.2).length = x := ⟨_, rfl⟩
        rw [hx] at h1
        cases x with
        | zero => cases h1; exact absurd rfl hn
        | succ x => simp [fX] at h1
    · exact Or.inr h1
  have hk1 : ∀ q : Nat, q < H.size → ¬ va_A (hW K h2 g2 M.2.2) H.size q → H1[q]? = H[q]? := by
    intro q hq hn
    by_cases hg : q = g1 40
    · rw [hg, e1, e0]
    · exact hk q hq (fun z => hn (sub q z hg))
  have hD2 : va_D (va_A (hW K h2 g2 M.2.2) H.size) (hW K h2 g2 u) := by
    refine ⟨(dL hD1).1, fun k x hx => sub x.1 ((dL hD1).2 k x hx) (fun hg => ?_)⟩
    have hkl := (List.getElem?_eq_some_iff.mp hx).1
    have a1 : (hW K h2 g2 u ++ fX K (g1 40) (M.2.1.2 40))[k]? = some x := by rw [List.getElem?_append_left hkl]; exact hx
    have a2 : (hW K h2 g2 u ++ fX K (g1 40) (M.2.1.2 40))[28]? = some (g1 40, .inl (K 0, 3600, .inl (M.2.1.2 40))) := rfl
    have := hD1.1 k 28 x _ a1 a2 hg
    have hl : (hW K h2 g2 u).length = 28 := rfl
    omega
  have hF2 : ∀ q, va_A (hW K h2 g2 M.2.2) H.size q → A0 q := fun q hq => by
    rcases hq with ⟨k, e', h1⟩ | h1
    · exact (mD_s hD).2 k (q, e') h1
    · exact hA q (Nat.le_trans hS.1 h1)
  obtain ⟨x1, x2⟩ := mFr_s hP hD hk1 hF2 (pL hP1) hD2
  exact kk u H1 locs1 hw x1 x2 hS1
theorem mPVf {m0 h1 h2 : Nat} {gm g1 g2 : Nat → Nat} {M : MS} {P : Prop} {As : List Value} (hK : va_K G vwCl (wTY K) s) (hE : wE s) (hP : va_P G vwCl (mW K m0 gm h1 g1 h2 g2 M) H) (hD : va_D A0 (mW K m0 gm h1 g1 h2 g2 M)) (p : P) : PreV s H RX11 h2 (va_Pc (.ref h2 :: As) (fSt G K h2 g2 (g1 40) (M.2.1.2 40) H.size M.2.2 P)) As :=
  ⟨fun a U g' mk q => ⟨q.1, (wFB (av := .ref h2 :: As) a U g' mk ⟨q.1, q.2.1⟩).2, q.2.2⟩, va_recv hK (mP_s hP) (ci := 8) (q0 := 0) rfl rfl, fun U hU hW' => ⟨rfl, (((wPS (av := []) hK hE (hP.sub (ws' := hW K h2 g2 M.2.2 ++ fX K (g1 40) (M.2.1.2 40)) [33, 34, 35, 36, 37, 38, 39, 40, 41, 42, 43, 44, 45, 46, 47, 48, 49, 50, 51, 52, 53, 54, 55, 56, 57, 58, 59, 60, 31] rfl) (hD.sub (ws' := hW K h2 g2 M.2.2 ++ fX K (g1 40) (M.2.1.2 40)) [33, 34, 35, 36, 37, 38, 39, 40, 41, 42, 43, 44, 45, 46, 47, 48, 49, 50, 51, 52, 53, 54, 55, 56, 57, 58, 59, 60, 31] (by decide) rfl)).2 U hU hW').2), p⟩⟩
end W5
end
section
theorem gdX11_follow_0 : ckS (List.drop 0 cX11_follow.data.toList) 0 [(0, .iconst 0, 1), (1, .istore_n 3, 1), (2, .iload_n 3, 1), (3, .iload_n 2, 1), (4, .if_icmp .ge 49, 3), (7, .bipush 6, 2), (9, .iload_n 3, 1), (10, .imul, 1), (11, .istore 4, 2), (13, .aload_n 0, 1), (14, .aload_n 1, 1), (15, .iload 4, 2), (17, .iaload, 1), (18, .aload_n 1, 1), (19, .iload 4, 2), (21, .iconst 1, 1), (22, .iadd, 1), (23, .iaload, 1), (24, .aload_n 1, 1), (25, .iload 4, 2), (27, .iconst 2, 1), (28, .iadd, 1), (29, .iaload, 1), (30, .aload_n 1, 1), (31, .iload 4, 2), (33, .iconst 3, 1), (34, .iadd, 1), (35, .iaload, 1), (36, .aload_n 1, 1), (37, .iload 4, 2), (39, .iconst 4, 1), (40, .iadd, 1), (41, .iaload, 1), (42, .invokevirtual 246, 3), (45, .istore 5, 2), (47, .iinc 3 1, 3), (50, .goto (-48), 3), (53, .return_, 1)] = true := by decide +kernel
theorem dX11_follow_0 : decode cX11_follow 0 = .ok (.iconst 0, 1) := ckS_g gdX11_follow_0 0 rfl
theorem dX11_follow_1 : decode cX11_follow 1 = .ok (.istore_n 3, 1) := ckS_g gdX11_follow_0 1 rfl
theorem dX11_follow_2 : decode cX11_follow 2 = .ok (.iload_n 3, 1) := ckS_g gdX11_follow_0 2 rfl
theorem dX11_follow_3 : decode cX11_follow 3 = .ok (.iload_n 2, 1) := ckS_g gdX11_follow_0 3 rfl
theorem dX11_follow_4 : decode cX11_follow 4 = .ok (.if_icmp .ge 49, 3) := ckS_g gdX11_follow_0 4 rfl
theorem dX11_follow_7 : decode cX11_follow 7 = .ok (.bipush 6, 2) := ckS_g gdX11_follow_0 5 rfl
theorem dX11_follow_9 : decode cX11_follow 9 = .ok (.iload_n 3, 1) := ckS_g gdX11_follow_0 6 rfl
theorem dX11_follow_10 : decode cX11_follow 10 = .ok (.imul, 1) := ckS_g gdX11_follow_0 7 rfl
theorem dX11_follow_11 : decode cX11_follow 11 = .ok (.istore 4, 2) := ckS_g gdX11_follow_0 8 rfl
theorem dX11_follow_13 : decode cX11_follow 13 = .ok (.aload_n 0, 1) := ckS_g gdX11_follow_0 9 rfl
theorem dX11_follow_14 : decode cX11_follow 14 = .ok (.aload_n 1, 1) := ckS_g gdX11_follow_0 10 rfl
theorem dX11_follow_15 : decode cX11_follow 15 = .ok (.iload 4, 2) := ckS_g gdX11_follow_0 11 rfl
theorem dX11_follow_17 : decode cX11_follow 17 = .ok (.iaload, 1) := ckS_g gdX11_follow_0 12 rfl
theorem dX11_follow_18 : decode cX11_follow 18 = .ok (.aload_n 1, 1) := ckS_g gdX11_follow_0 13 rfl
theorem dX11_follow_19 : decode cX11_follow 19 = .ok (.iload 4, 2) := ckS_g gdX11_follow_0 14 rfl
theorem dX11_follow_21 : decode cX11_follow 21 = .ok (.iconst 1, 1) := ckS_g gdX11_follow_0 15 rfl
theorem dX11_follow_22 : decode cX11_follow 22 = .ok (.iadd, 1) := ckS_g gdX11_follow_0 16 rfl
theorem dX11_follow_23 : decode cX11_follow 23 = .ok (.iaload, 1) := ckS_g gdX11_follow_0 17 rfl
theorem dX11_follow_24 : decode cX11_follow 24 = .ok (.aload_n 1, 1) := ckS_g gdX11_follow_0 18 rfl
theorem dX11_follow_25 : decode cX11_follow 25 = .ok (.iload 4, 2) := ckS_g gdX11_follow_0 19 rfl
theorem dX11_follow_27 : decode cX11_follow 27 = .ok (.iconst 2, 1) := ckS_g gdX11_follow_0 20 rfl
theorem dX11_follow_28 : decode cX11_follow 28 = .ok (.iadd, 1) := ckS_g gdX11_follow_0 21 rfl
theorem dX11_follow_29 : decode cX11_follow 29 = .ok (.iaload, 1) := ckS_g gdX11_follow_0 22 rfl
theorem dX11_follow_30 : decode cX11_follow 30 = .ok (.aload_n 1, 1) := ckS_g gdX11_follow_0 23 rfl
theorem dX11_follow_31 : decode cX11_follow 31 = .ok (.iload 4, 2) := ckS_g gdX11_follow_0 24 rfl
theorem dX11_follow_33 : decode cX11_follow 33 = .ok (.iconst 3, 1) := ckS_g gdX11_follow_0 25 rfl
theorem dX11_follow_34 : decode cX11_follow 34 = .ok (.iadd, 1) := ckS_g gdX11_follow_0 26 rfl
theorem dX11_follow_35 : decode cX11_follow 35 = .ok (.iaload, 1) := ckS_g gdX11_follow_0 27 rfl
theorem dX11_follow_36 : decode cX11_follow 36 = .ok (.aload_n 1, 1) := ckS_g gdX11_follow_0 28 rfl
theorem dX11_follow_37 : decode cX11_follow 37 = .ok (.iload 4, 2) := ckS_g gdX11_follow_0 29 rfl
theorem dX11_follow_39 : decode cX11_follow 39 = .ok (.iconst 4, 1) := ckS_g gdX11_follow_0 30 rfl
theorem dX11_follow_40 : decode cX11_follow 40 = .ok (.iadd, 1) := ckS_g gdX11_follow_0 31 rfl
theorem dX11_follow_41 : decode cX11_follow 41 = .ok (.iaload, 1) := ckS_g gdX11_follow_0 32 rfl
theorem dX11_follow_42 : decode cX11_follow 42 = .ok (.invokevirtual 246, 3) := ckS_g gdX11_follow_0 33 rfl
theorem dX11_follow_45 : decode cX11_follow 45 = .ok (.istore 5, 2) := ckS_g gdX11_follow_0 34 rfl
theorem dX11_follow_47 : decode cX11_follow 47 = .ok (.iinc 3 1, 3) := ckS_g gdX11_follow_0 35 rfl
theorem dX11_follow_50 : decode cX11_follow 50 = .ok (.goto (-48), 3) := ckS_g gdX11_follow_0 36 rfl
theorem dX11_follow_53 : decode cX11_follow 53 = .ok (.return_, 1) := ckS_g gdX11_follow_0 37 rfl
set_option maxRecDepth 100000 in
theorem z357 : wZ (.methodLink RX11 246 yX11_act) := ⟨wT7 (List.mem_of_getElem? (i := 19) (by decide +kernel)), Or.inl rfl⟩
set_option maxRecDepth 100000 in
theorem z358 : wZ (.code yX11_follow cX11_follow 6 none) := ⟨wT7 (List.mem_of_getElem? (i := 18) rfl), Or.inl rfl⟩
def b_X11_follow_a45 (F : Nat → Int32) (S : HS) (x2 x3 x4 y0 : Int32) : (Int32 × HS) ⊕ (HS × Int32 × Int32) := Sum.inr (S, x2, (x3 + 1))
def q_X11_follow_a45 (F : Nat → Int32) (S : HS) (x2 x3 x4 y0 : Int32) : Prop := True
def st_X11_follow_2 (F : Nat → Int32) (S : HS) (x2 x3 : Int32) : (Int32 × HS) ⊕ (HS × Int32 × Int32) := if x2 ≤ x3 then Sum.inl ((0, S)) else (b_X11_follow_a45 F (f_X11_act S (F (6 * x3).toNatClampNeg) (F ((6 * x3) + 1).toNatClampNeg) (F ((6 * x3) + 2).toNatClampNeg) (F ((6 * x3) + 3).toNatClampNeg) (F ((6 * x3) + 4).toNatClampNeg)).2 x2 x3 (6 * x3) (f_X11_act S (F (6 * x3).toNatClampNeg) (F ((6 * x3) + 1).toNatClampNeg) (F ((6 * x3) + 2).toNatClampNeg) (F ((6 * x3) + 3).toNatClampNeg) (F ((6 * x3) + 4).toNatClampNeg)).1)
def ps_X11_follow_2 (F : Nat → Int32) (S : HS) (x2 x3 : Int32) : Prop := (if x2 ≤ x3 then True else (vp_in (6 * x3) 3600) ∧ (vp_in ((6 * x3) + 1) 3600) ∧ (vp_in ((6 * x3) + 2) 3600) ∧ (vp_in ((6 * x3) + 3) 3600) ∧ (vp_in ((6 * x3) + 4) 3600) ∧ (p_X11_act S (F (6 * x3).toNatClampNeg) (F ((6 * x3) + 1).toNatClampNeg) (F ((6 * x3) + 2).toNatClampNeg) (F ((6 * x3) + 3).toNatClampNeg) (F ((6 * x3) + 4).toNatClampNeg)) ∧ (q_X11_follow_a45 F (f_X11_act S (F (6 * x3).toNatClampNeg) (F ((6 * x3) + 1).toNatClampNeg) (F ((6 * x3) + 2).toNatClampNeg) (F ((6 * x3) + 3).toNatClampNeg) (F ((6 * x3) + 4).toNatClampNeg)).2 x2 x3 (6 * x3) (f_X11_act S (F (6 * x3).toNatClampNeg) (F ((6 * x3) + 1).toNatClampNeg) (F ((6 * x3) + 2).toNatClampNeg) (F ((6 * x3) + 3).toNatClampNeg) (F ((6 * x3) + 4).toNatClampNeg)).1))
def lp_X11_follow_2 (F : Nat → Int32) : Nat → HS → Int32 → Int32 → Int32 × HS
  | 0, S, _, _ => (0, S)
  | n + 1, S, x2, x3 => match st_X11_follow_2 F S x2 x3 with
    | Sum.inl r => r
    | Sum.inr q => lp_X11_follow_2 F n q.1 q.2.1 q.2.2
def lq_X11_follow_2 (F : Nat → Int32) : Nat → HS → Int32 → Int32 → Prop
  | 0, _, _, _ => False
  | n + 1, S, x2, x3 => ps_X11_follow_2 F S x2 x3 ∧ (match st_X11_follow_2 F S x2 x3 with
    | Sum.inl _ => True
    | Sum.inr q => lq_X11_follow_2 F n q.1 q.2.1 q.2.2)
def f_X11_follow (F : Nat → Int32) (S : HS) (x2 : Int32) : Int32 × HS := (lp_X11_follow_2 F 100000 S x2 0)
def p_X11_follow (F : Nat → Int32) (S : HS) (x2 : Int32) : Prop := (lq_X11_follow_2 F 100000 S x2 0)
def e_X11_follow : List Cond := [.methodLink RX11 246 yX11_act, .instanceMethod yX11_act, .selects RX11 yX11_act yX11_act, .initialized RX11]
def v_X11_follow : List Cond := .code yX11_follow cX11_follow 6 none :: (e_X11_follow ++ (v_X11_act ++ []))
theorem te_X11_follow : GoodIn lw_tbl e_X11_follow := wGc z357 (wGc z222 (wGc z221 (wGc z51 (wG0))))
theorem t_X11_follow : GoodIn lw_tbl v_X11_follow := wGc z358 (wGa te_X11_follow (wGa t_X11_act (wG0)))
set_option maxHeartbeats 4000000 in
set_option maxRecDepth 100000 in
theorem c_X11_follow (l : Launch) (G : va_G) (K : Nat → ClassId) (h : Nat) (g : Nat → Nat) (q : Nat) (F : Nat → Int32) (S0 : HS) (a2 : Int32) (sz : Nat) : Met l yX11_follow v_X11_follow ({ frames := 6, cells := 0, slots := 0, locals := 156 }) (va_Pc [.ref h, .ref q, .int a2] (fSt G K h g q F sz S0 (p_X11_follow F S0 a2))) (va_Qv (fun u : HS => (0, u) = f_X11_follow F S0 a2) (fB G K h g q F (va_A (hW K h g S0 ++ fX K q F) sz)) (va_A (hW K h g S0 ++ fX K q F) sz)) 0 0 (va_A (hW K h g S0 ++ fX K q F) sz) := by
  refine Met.ofW (cc := cX11_follow) (maxL := 6) (ret := none) (by decide) rfl ?_
  intro p e s m args below meth c s₁ B hml hv
  obtain ⟨rfl, ⟨hsz, hP, hK, hD0, hTE⟩, hp⟩ := hv
  have hx := B.exec
  have hb := B.bytes
  have hr := B.returns
  have hts := atoms_spec (ws := v_X11_follow) B.pre
  have t_ := t_X11_follow
  have mw : ∀ w ∈ e_X11_follow, w ∈ v_X11_follow := fun w h => List.mem_cons_of_mem _ (List.mem_append_left _ h)
  have hw := fun w (h : w ∈ e_X11_follow) => hts w (mw w h)
  have j_X11_act : ∀ w ∈ v_X11_act, w ∈ v_X11_follow := fun w h => List.mem_cons_of_mem _ (List.mem_append_right _ (List.mem_append_left _ h))
  have hown : s.vm.findClass RX11 = some m.cls := findClass_of_methodNamed B.named
  have hlocks := B.notSynchronized
  subst hsz
  have hD := hD0.self (sz := s.heap.size)
  generalize hAe : va_A (hW K h g S0 ++ fX K q F) s.heap.size = A at hD ⊢
  have hA : ∀ q : Nat, s.heap.size ≤ q → A q := fun q h => by rw [← hAe]; exact Or.inr h
  have hS : va_S A s.heap s.heap [] := va_S.rf
  have hl := lv_entry ([.ref h, .ref q, .int a2]) (n := 6) (Nat.le_of_ble_eq_true rfl)
  rw [lg_entry_eq]
  generalize (lg_sl ([.ref h, .ref q, .int a2]) ++ List.replicate (6 - (lg_sl ([.ref h, .ref q, .int a2])).length) Slot.unset).toArray = ls at hl ⊢
  have hl : lv_has ls 6 [(0, .ref h), (1, .ref q), (2, .int a2)] := hl
  refine wGen (fun Q hQ => ?_)
  obtain ⟨X, hX⟩ : ∃ X, f_X11_follow F S0 a2 = X := ⟨_, rfl⟩
  have L_2 : ∀ (n : Nat) (S : HS) (x2 x3 : Int32) (H : Heap) (locs : List Loc) (ls : Array Slot), lp_X11_follow_2 F n S x2 x3 = X → lq_X11_follow_2 F n S x2 x3 → va_P G vwCl (hW K h g S ++ fX K q F) H → va_D A (hW K h g S ++ fX K q F) → va_S A s.heap H locs → lv_has ls 6 [(0, .ref h), (1, .ref q), (2, .int x2), (3, .int x3)] → W p l e ({ frames := 6, cells := 0, slots := 0, locals := 156 } : Room) s m #[Value.ref h, Value.ref q, Value.int a2] below meth c H locs 0 0 Q (F0 m 2 ls []) := by
    intro n1
    induction n1 with
    | zero => intro S x2 x3 H locs ls hE hp; exact False.elim hp
    | succ n1 ih1 =>
      intro S x2 x3 H locs ls hO1 hp hP hD hS hl
      rw [lp_X11_follow_2] at hO1
      rw [lq_X11_follow_2] at hp
      obtain ⟨hp, hq1⟩ := hp
      generalize hE : st_X11_follow_2 F S x2 x3 = Y1 at hO1 hq1
      unfold st_X11_follow_2 at hE
      unfold ps_X11_follow_2 at hp
      refine lv_iload_n hx hb dX11_follow_2 rfl (lv_at hl 3 rfl) ?_
      refine lv_iload_n hx hb dX11_follow_3 rfl (lv_at hl 2 rfl) ?_
      refine lv_icmp_ge (tgt := 53) hx hb dX11_follow_4 (by decide) (fun c1 => ?_) (fun c1 => ?_)
      · rw [if_pos c1] at hE hp
        subst hE
        have hE := hO1
        dsimp only at hE
        subst hQ
        exact W.vret hx hb hr (fun t ht hW => ⟨⟨S, rfl, hE.trans hX.symm, by rw [ht]; exact hP, hD⟩, hS.F ht⟩) hS.2.2 dX11_follow_53
      · rw [if_neg c1] at hE hp
        refine lv_bipush (v := 6) hx hb dX11_follow_7 (by decide) ?_
        refine lv_iload_n hx hb dX11_follow_9 rfl (lv_at hl 3 rfl) ?_
        refine lv_imul hx hb dX11_follow_10 ?_
        refine lv_istore (lv' := [(4, .int (6 * x3)), (0, .ref h), (1, .ref q), (2, .int x2), (3, .int x3)]) hx hb dX11_follow_11 hl (by decide) rfl (fun ls hl => ?_)
        refine lv_aload_n hx hb dX11_follow_13 rfl (lv_at hl 1 rfl) ?_
        refine lv_aload_n hx hb dX11_follow_14 rfl (lv_at hl 2 rfl) ?_
        refine lv_iload hx hb dX11_follow_15 (lv_at hl 0 rfl) ?_
        obtain ⟨hy2, hp⟩ := hp
        refine va_iald hx hb hK hP 28 0 rfl rfl hy2 dX11_follow_17 ?_
        refine lv_aload_n hx hb dX11_follow_18 rfl (lv_at hl 2 rfl) ?_
        refine lv_iload hx hb dX11_follow_19 (lv_at hl 0 rfl) ?_
        refine lv_iconst (v := 1) hx hb dX11_follow_21 (by decide) ?_
        refine lv_iadd hx hb dX11_follow_22 ?_
        obtain ⟨hy3, hp⟩ := hp
        refine va_iald hx hb hK hP 28 0 rfl rfl hy3 dX11_follow_23 ?_
        refine lv_aload_n hx hb dX11_follow_24 rfl (lv_at hl 2 rfl) ?_
        refine lv_iload hx hb dX11_follow_25 (lv_at hl 0 rfl) ?_
        refine lv_iconst (v := 2) hx hb dX11_follow_27 (by decide) ?_
        refine lv_iadd hx hb dX11_follow_28 ?_
        obtain ⟨hy4, hp⟩ := hp
        refine va_iald hx hb hK hP 28 0 rfl rfl hy4 dX11_follow_29 ?_
        refine lv_aload_n hx hb dX11_follow_30 rfl (lv_at hl 2 rfl) ?_
        refine lv_iload hx hb dX11_follow_31 (lv_at hl 0 rfl) ?_
        refine lv_iconst (v := 3) hx hb dX11_follow_33 (by decide) ?_
        refine lv_iadd hx hb dX11_follow_34 ?_
        obtain ⟨hy5, hp⟩ := hp
        refine va_iald hx hb hK hP 28 0 rfl rfl hy5 dX11_follow_35 ?_
        refine lv_aload_n hx hb dX11_follow_36 rfl (lv_at hl 2 rfl) ?_
        refine lv_iload hx hb dX11_follow_37 (lv_at hl 0 rfl) ?_
        refine lv_iconst (v := 4) hx hb dX11_follow_39 (by decide) ?_
        refine lv_iadd hx hb dX11_follow_40 ?_
        obtain ⟨hy6, hp⟩ := hp
        refine va_iald hx hb hK hP 28 0 rfl rfl hy6 dX11_follow_41 ?_
        obtain ⟨hy7, hp⟩ := hp
        refine fGoi (va_runV (As := [.int (F (6 * x3).toNatClampNeg), .int (F ((6 * x3) + 1).toNatClampNeg), .int (F ((6 * x3) + 2).toNatClampNeg), .int (F ((6 * x3) + 3).toNatClampNeg), .int (F ((6 * x3) + 4).toNatClampNeg)]) (rest := []) ⟨hx, hb, hml, hown, hts⟩ (c_X11_act l G K h g S (F (6 * x3).toNatClampNeg) (F ((6 * x3) + 1).toNatClampNeg) (F ((6 * x3) + 2).toNatClampNeg) (F ((6 * x3) + 3).toNatClampNeg) (F ((6 * x3) + 4).toNatClampNeg) _) (cwV 5 hts (wGV t_ (mw (.methodLink RX11 246 yX11_act) (List.mem_of_getElem? (i := 0) rfl)) (mw (.instanceMethod yX11_act) (List.mem_of_getElem? (i := 1) rfl)) (mw (.selects RX11 yX11_act yX11_act) (List.mem_of_getElem? (i := 2) rfl)) (mw (.initialized RX11) (List.mem_of_getElem? (i := 3) rfl)) j_X11_act) rfl rfl rfl (by decide +kernel) ⟨Nat.le_of_ble_eq_true rfl, Nat.le_of_ble_eq_true rfl⟩) (hPV hK hTE (pL hP) (dL hD) hy7) rfl rfl hl.1 rfl (lv_room (Nat.le_of_ble_eq_true rfl)) dX11_follow_42 ⟨Nat.le_of_ble_eq_true rfl, Nat.le_of_ble_eq_true rfl⟩) hP hD hS hA (fun r9 u8 H locs hv hP hD hS => ?_)
        rw [← hv] at hE hp
        dsimp only at hE hp
        unfold b_X11_follow_a45 at hE
        unfold q_X11_follow_a45 at hp
        refine lv_istore (lv' := [(5, .int r9), (4, .int (6 * x3)), (0, .ref h), (1, .ref q), (2, .int x2), (3, .int x3)]) hx hb dX11_follow_45 hl (by decide) rfl (fun ls hl => ?_)
        refine lv_iinc (v := (x3 + 1)) (lv' := [(3, .int (x3 + 1)), (5, .int r9), (4, .int (6 * x3)), (0, .ref h), (1, .ref q), (2, .int x2)]) hx hb dX11_follow_47 hl (k := 5) rfl rfl (by decide) rfl (fun ls hl => ?_)
        refine lv_goto (tgt := 2) hx hb dX11_follow_50 (by decide) ?_
        subst hE
        dsimp only at hO1 hq1
        exact ih1 u8 x2 (x3 + 1) _ _ _ hO1 hq1 hP hD hS (lv_sub hl [3, 4, 5, 0] rfl)
  have B_M : ∀ (S : HS) (x2 : Int32) (H : Heap) (locs : List Loc) (ls : Array Slot), f_X11_follow F S x2 = X → p_X11_follow F S x2 → va_P G vwCl (hW K h g S ++ fX K q F) H → va_D A (hW K h g S ++ fX K q F) → va_S A s.heap H locs → lv_has ls 6 [(0, .ref h), (1, .ref q), (2, .int x2)] → W p l e ({ frames := 6, cells := 0, slots := 0, locals := 156 } : Room) s m #[Value.ref h, Value.ref q, Value.int a2] below meth c H locs 0 0 Q (F0 m 0 ls []) := by
    intro S x2 H locs ls hE hp hP hD hS hl
    unfold f_X11_follow at hE
    unfold p_X11_follow at hp
    refine lv_iconst (v := 0) hx hb dX11_follow_0 (by decide) ?_
    refine lv_istore_n (lv' := [(3, .int 0), (0, .ref h), (1, .ref q), (2, .int x2)]) hx hb dX11_follow_1 rfl hl (by decide) rfl (fun ls hl => ?_)
    exact L_2 100000 S x2 0 _ _ _ hE hp hP hD hS (lv_sub hl [1, 2, 3, 0] rfl)
  exact B_M S0 a2 _ _ _ hX hp hP hD hS hl
theorem gdX12_before_0 : ckS (List.drop 0 cX12_before.data.toList) 0 [(0, .iload_n 1, 1), (1, .iconst 0, 1), (2, .aload_n 0, 1), (3, .getfield 16, 3), (6, .getfield 48, 3), (9, .invokestatic 1, 3), (12, .ifCond .ne 5, 3), (15, .iconst (-1), 1), (16, .ireturn, 1), (17, .aload_n 0, 1), (18, .getfield 20, 3), (21, .aload_n 0, 1), (22, .getfield 16, 3), (25, .getfield 96, 3), (28, .invokevirtual 36, 3), (31, .aload_n 0, 1), (32, .getfield 20, 3), (35, .aload_n 0, 1), (36, .getfield 16, 3), (39, .getfield 167, 3), (42, .iload_n 1, 1), (43, .invokevirtual 170, 3), (46, .aload_n 0, 1), (47, .getfield 20, 3), (50, .iload_n 2, 1), (51, .iload_n 3, 1), (52, .invokevirtual 92, 3), (55, .ireturn, 1)] = true := by decide +kernel
theorem dX12_before_0 : decode cX12_before 0 = .ok (.iload_n 1, 1) := ckS_g gdX12_before_0 0 rfl
theorem dX12_before_1 : decode cX12_before 1 = .ok (.iconst 0, 1) := ckS_g gdX12_before_0 1 rfl
theorem dX12_before_2 : decode cX12_before 2 = .ok (.aload_n 0, 1) := ckS_g gdX12_before_0 2 rfl
theorem dX12_before_3 : decode cX12_before 3 = .ok (.getfield 16, 3) := ckS_g gdX12_before_0 3 rfl
theorem dX12_before_6 : decode cX12_before 6 = .ok (.getfield 48, 3) := ckS_g gdX12_before_0 4 rfl
theorem dX12_before_9 : decode cX12_before 9 = .ok (.invokestatic 1, 3) := ckS_g gdX12_before_0 5 rfl
theorem dX12_before_12 : decode cX12_before 12 = .ok (.ifCond .ne 5, 3) := ckS_g gdX12_before_0 6 rfl
theorem dX12_before_15 : decode cX12_before 15 = .ok (.iconst (-1), 1) := ckS_g gdX12_before_0 7 rfl
theorem dX12_before_16 : decode cX12_before 16 = .ok (.ireturn, 1) := ckS_g gdX12_before_0 8 rfl
theorem dX12_before_17 : decode cX12_before 17 = .ok (.aload_n 0, 1) := ckS_g gdX12_before_0 9 rfl
theorem dX12_before_18 : decode cX12_before 18 = .ok (.getfield 20, 3) := ckS_g gdX12_before_0 10 rfl
theorem dX12_before_21 : decode cX12_before 21 = .ok (.aload_n 0, 1) := ckS_g gdX12_before_0 11 rfl
theorem dX12_before_22 : decode cX12_before 22 = .ok (.getfield 16, 3) := ckS_g gdX12_before_0 12 rfl
theorem dX12_before_25 : decode cX12_before 25 = .ok (.getfield 96, 3) := ckS_g gdX12_before_0 13 rfl
theorem dX12_before_28 : decode cX12_before 28 = .ok (.invokevirtual 36, 3) := ckS_g gdX12_before_0 14 rfl
theorem dX12_before_31 : decode cX12_before 31 = .ok (.aload_n 0, 1) := ckS_g gdX12_before_0 15 rfl
theorem dX12_before_32 : decode cX12_before 32 = .ok (.getfield 20, 3) := ckS_g gdX12_before_0 16 rfl
theorem dX12_before_35 : decode cX12_before 35 = .ok (.aload_n 0, 1) := ckS_g gdX12_before_0 17 rfl
theorem dX12_before_36 : decode cX12_before 36 = .ok (.getfield 16, 3) := ckS_g gdX12_before_0 18 rfl
theorem dX12_before_39 : decode cX12_before 39 = .ok (.getfield 167, 3) := ckS_g gdX12_before_0 19 rfl
theorem dX12_before_42 : decode cX12_before 42 = .ok (.iload_n 1, 1) := ckS_g gdX12_before_0 20 rfl
theorem dX12_before_43 : decode cX12_before 43 = .ok (.invokevirtual 170, 3) := ckS_g gdX12_before_0 21 rfl
theorem dX12_before_46 : decode cX12_before 46 = .ok (.aload_n 0, 1) := ckS_g gdX12_before_0 22 rfl
theorem dX12_before_47 : decode cX12_before 47 = .ok (.getfield 20, 3) := ckS_g gdX12_before_0 23 rfl
theorem dX12_before_50 : decode cX12_before 50 = .ok (.iload_n 2, 1) := ckS_g gdX12_before_0 24 rfl
theorem dX12_before_51 : decode cX12_before 51 = .ok (.iload_n 3, 1) := ckS_g gdX12_before_0 25 rfl
theorem dX12_before_52 : decode cX12_before 52 = .ok (.invokevirtual 92, 3) := ckS_g gdX12_before_0 26 rfl
theorem dX12_before_55 : decode cX12_before 55 = .ok (.ireturn, 1) := ckS_g gdX12_before_0 27 rfl
set_option maxRecDepth 100000 in
theorem z359 : wZ (.selects RX11 yX11_follow yX11_follow) := ⟨wT7 (List.mem_of_getElem? (i := 17) (by decide +kernel)), Or.inl rfl⟩
set_option maxRecDepth 100000 in
theorem z360 : wZ (.instanceMethod yX11_follow) := ⟨wT7 (List.mem_of_getElem? (i := 16) (by decide +kernel)), Or.inl rfl⟩
set_option maxRecDepth 100000 in
theorem z361 : wZ (.methodLink RX12 170 yX11_follow) := ⟨wT7 (List.mem_of_getElem? (i := 15) (by decide +kernel)), Or.inl rfl⟩
set_option maxRecDepth 100000 in
theorem z362 : wZ (.code yX12_before cX12_before 4 (some .int)) := ⟨wT7 (List.mem_of_getElem? (i := 14) rfl), Or.inl rfl⟩
def b_X12_before_a55 (S : MS) (x1 x2 x3 y0 : Int32) : Int32 × MS := (y0, S)
def q_X12_before_a55 (S : MS) (x1 x2 x3 y0 : Int32) : Prop := True
def b_X12_before_a31 (S : MS) (x1 x2 x3 : Int32) : Int32 × MS := (b_X12_before_a55 (mS (mS S ((f_X11_follow (S.2.1.2 40) S.2.2 x1).2)) ((f_X11_text ((mS S ((f_X11_follow (S.2.1.2 40) S.2.2 x1).2)).2.2) x2 x3).2)) x1 x2 x3 (f_X11_text ((mS S ((f_X11_follow (S.2.1.2 40) S.2.2 x1).2)).2.2) x2 x3).1)
def q_X12_before_a31 (S : MS) (x1 x2 x3 : Int32) : Prop := (p_X11_follow (S.2.1.2 40) S.2.2 x1) ∧ (p_X11_text ((mS S ((f_X11_follow (S.2.1.2 40) S.2.2 x1).2)).2.2) x2 x3) ∧ (q_X12_before_a55 (mS (mS S ((f_X11_follow (S.2.1.2 40) S.2.2 x1).2)) ((f_X11_text ((mS S ((f_X11_follow (S.2.1.2 40) S.2.2 x1).2)).2.2) x2 x3).2)) x1 x2 x3 (f_X11_text ((mS S ((f_X11_follow (S.2.1.2 40) S.2.2 x1).2)).2.2) x2 x3).1)
def f_X12_before (S : MS) (x1 x2 x3 : Int32) : Int32 × MS := if (f_X12_in x1 0 (S.2.1.1 7)) = 0 then ((-1), S) else (b_X12_before_a31 (mS S ((f_X11_begin S.2.2 (S.2.1.1 0)).2)) x1 x2 x3)
def p_X12_before (S : MS) (x1 x2 x3 : Int32) : Prop := (p_X12_in x1 0 (S.2.1.1 7)) ∧ (if (f_X12_in x1 0 (S.2.1.1 7)) = 0 then True else (p_X11_begin S.2.2 (S.2.1.1 0)) ∧ (q_X12_before_a31 (mS S ((f_X11_begin S.2.2 (S.2.1.1 0)).2)) x1 x2 x3))
def e_X12_before : List Cond := [.fieldLink RX12 16 "MotionFloorModel" "hall" "LMotionFloorModel$Hall;", .fieldLink RX12 48 "MotionFloorModel$Hall" "entries" "I", .methodLink RX12 1 yX12_in, .static yX12_in, .initialized RX12, .fieldLink RX12 20 "MotionFloorModel" "spare" "LMotionFloorModel$Hall;", .fieldLink RX12 96 "MotionFloorModel$Hall" "seats" "I", .methodLink RX12 36 yX11_begin, .instanceMethod yX11_begin, .selects RX11 yX11_begin yX11_begin, .initialized RX11, .fieldLink RX12 167 "MotionFloorModel$Hall" "minutes" "[I", .methodLink RX12 170 yX11_follow, .instanceMethod yX11_follow, .selects RX11 yX11_follow yX11_follow, .methodLink RX12 92 yX11_text, .instanceMethod yX11_text, .selects RX11 yX11_text yX11_text]
def v_X12_before : List Cond := .code yX12_before cX12_before 4 (some .int) :: (e_X12_before ++ (wsX120 ++ (wsX110 ++ (v_X12_in ++ (v_X11_begin ++ (v_X11_follow ++ (v_X11_text ++ [])))))))
theorem te_X12_before : GoodIn lw_tbl e_X12_before := wGc z219 (wGc z246 (wGc z3 (wGc z2 (wGc z1 (wGc z299 (wGc z270 (wGc z218 (wGc z217 (wGc z216 (wGc z51 (wGc z297 (wGc z361 (wGc z360 (wGc z359 (wGc z266 (wGc z265 (wGc z264 (wG0))))))))))))))))))
theorem t_X12_before : GoodIn lw_tbl v_X12_before := wGc z362 (wGa te_X12_before (wGa zcX12 (wGa zcX11 (wGa t_X12_in (wGa t_X11_begin (wGa t_X11_follow (wGa t_X11_text (wG0))))))))
set_option maxHeartbeats 4000000 in
set_option maxRecDepth 100000 in
theorem c_X12_before (l : Launch) (G : va_G) (K : Nat → ClassId) (m0 : Nat) (gm : Nat → Nat) (h1 : Nat) (g1 : Nat → Nat) (h2 : Nat) (g2 : Nat → Nat) (S0 : MS) (a1 a2 a3 : Int32) (sz : Nat) : Met l yX12_before v_X12_before ({ frames := 7, cells := 0, slots := 0, locals := 181 }) (va_Pc [.ref m0, .int a1, .int a2, .int a3] (mSt G K m0 gm h1 g1 h2 g2 sz S0 (p_X12_before S0 a1 a2 a3))) (va_Qi (fun (r : Int32) (u : MS) => (r, u) = f_X12_before S0 a1 a2 a3) (mB G K m0 gm h1 g1 h2 g2 (va_A (mW K m0 gm h1 g1 h2 g2 S0) sz)) (va_A (mW K m0 gm h1 g1 h2 g2 S0) sz)) 0 0 (va_A (mW K m0 gm h1 g1 h2 g2 S0) sz) := by
  refine Met.ofW (cc := cX12_before) (maxL := 4) (ret := (some .int)) (by decide) rfl ?_
  intro p e s m args below meth c s₁ B hml hv
  obtain ⟨rfl, ⟨hsz, hP, hK, hD0, hTE⟩, hp⟩ := hv
  have hx := B.exec
  have hb := B.bytes
  have hr := B.returns
  have hts := atoms_spec (ws := v_X12_before) B.pre
  have t_ := t_X12_before
  have mw : ∀ w ∈ e_X12_before, w ∈ v_X12_before := fun w h => List.mem_cons_of_mem _ (List.mem_append_left _ h)
  have hw := fun w (h : w ∈ e_X12_before) => hts w (mw w h)
  have iX12 : ∀ w ∈ wsX120, w ∈ v_X12_before := fun w h => List.mem_cons_of_mem _ (List.mem_append_right _ (List.mem_append_left _ h))
  have iX11 : ∀ w ∈ wsX110, w ∈ v_X12_before := fun w h => List.mem_cons_of_mem _ (List.mem_append_right _ (List.mem_append_right _ (List.mem_append_left _ h)))
  have j_X12_in : ∀ w ∈ v_X12_in, w ∈ v_X12_before := fun w h => List.mem_cons_of_mem _ (List.mem_append_right _ (List.mem_append_right _ (List.mem_append_right _ (List.mem_append_left _ h))))
  have j_X11_begin : ∀ w ∈ v_X11_begin, w ∈ v_X12_before := fun w h => List.mem_cons_of_mem _ (List.mem_append_right _ (List.mem_append_right _ (List.mem_append_right _ (List.mem_append_right _ (List.mem_append_left _ h)))))
  have j_X11_follow : ∀ w ∈ v_X11_follow, w ∈ v_X12_before := fun w h => List.mem_cons_of_mem _ (List.mem_append_right _ (List.mem_append_right _ (List.mem_append_right _ (List.mem_append_right _ (List.mem_append_right _ (List.mem_append_left _ h))))))
  have j_X11_text : ∀ w ∈ v_X11_text, w ∈ v_X12_before := fun w h => List.mem_cons_of_mem _ (List.mem_append_right _ (List.mem_append_right _ (List.mem_append_right _ (List.mem_append_right _ (List.mem_append_right _ (List.mem_append_right _ (List.mem_append_left _ h)))))))
  have hown : s.vm.findClass RX12 = some m.cls := findClass_of_methodNamed B.named
  have hlocks := B.notSynchronized
  subst hsz
  have hD := hD0.self (sz := s.heap.size)
  generalize hAe : va_A (mW K m0 gm h1 g1 h2 g2 S0) s.heap.size = A at hD ⊢
  have hA : ∀ q : Nat, s.heap.size ≤ q → A q := fun q h => by rw [← hAe]; exact Or.inr h
  have hS : va_S A s.heap s.heap [] := va_S.rf
  have hl := lv_entry ([.ref m0, .int a1, .int a2, .int a3]) (n := 4) (Nat.le_of_ble_eq_true rfl)
  rw [lg_entry_eq]
  generalize (lg_sl ([.ref m0, .int a1, .int a2, .int a3]) ++ List.replicate (4 - (lg_sl ([.ref m0, .int a1, .int a2, .int a3])).length) Slot.unset).toArray = ls at hl ⊢
  have hl : lv_has ls 4 [(0, .ref m0), (1, .int a1), (2, .int a2), (3, .int a3)] := hl
  refine wGen (fun Q hQ => ?_)
  obtain ⟨X, hX⟩ : ∃ X, f_X12_before S0 a1 a2 a3 = X := ⟨_, rfl⟩
  have B_M : ∀ (S : MS) (x1 x2 x3 : Int32) (H : Heap) (locs : List Loc) (ls : Array Slot), f_X12_before S x1 x2 x3 = X → p_X12_before S x1 x2 x3 → va_P G vwCl (mW K m0 gm h1 g1 h2 g2 S) H → va_D A (mW K m0 gm h1 g1 h2 g2 S) → va_S A s.heap H locs → lv_has ls 4 [(0, .ref m0), (1, .int x1), (2, .int x2), (3, .int x3)] → W p l e ({ frames := 7, cells := 0, slots := 0, locals := 181 } : Room) s m #[Value.ref m0, Value.int a1, Value.int a2, Value.int a3] below meth c H locs 0 0 Q (F0 m 0 ls []) := by
    intro S x1 x2 x3 H locs ls hE hp hP hD hS hl
    unfold f_X12_before at hE
    unfold p_X12_before at hp
    refine lv_iload_n hx hb dX12_before_0 rfl (lv_at hl 1 rfl) ?_
    refine lv_iconst (v := 0) hx hb dX12_before_1 (by decide) ?_
    refine lv_aload_n hx hb dX12_before_2 rfl (lv_at hl 0 rfl) ?_
    refine va_get (D := G) (ci := 9) (v := .ref h1) (C := RX12) (T := TX12) (N := 7) hx hb hts iX12 hown hK hP 0 rfl rfl 0 (by decide) (hw (.fieldLink RX12 16 "MotionFloorModel" "hall" "LMotionFloorModel$Hall;") (List.mem_of_getElem? (i := 0) rfl)) (fun _ h9 => h9) rfl dX12_before_3 ?_
    refine va_get (D := G) (ci := 8) (v := .int (S.2.1.1 7)) (C := RX11) (T := TX11) (N := 42) hx hb hts iX11 hown hK hP 5 rfl rfl 7 (by decide) (hw (.fieldLink RX12 48 "MotionFloorModel$Hall" "entries" "I") (List.mem_of_getElem? (i := 1) rfl)) (fun _ h9 => h9) rfl dX12_before_6 ?_
    obtain ⟨hy1, hp⟩ := hp
    refine nGoi (va_runS (As := [.int x1, .int 0, .int (S.2.1.1 7)]) (rest := []) ⟨hx, hb, hml, hown, hts⟩ (c_X12_in l G K x1 0 (S.2.1.1 7) _) (va_cwS 3 hts (wGS t_ (mw (.methodLink RX12 1 yX12_in) (List.mem_of_getElem? (i := 2) rfl)) (mw (.static yX12_in) (List.mem_of_getElem? (i := 3) rfl)) (mw (.initialized RX12) (List.mem_of_getElem? (i := 4) rfl)) j_X12_in) rfl rfl rfl (by decide +kernel) ⟨Nat.le_of_ble_eq_true rfl, Nat.le_of_ble_eq_true rfl⟩) (nPS hK hTE hy1) rfl rfl hl.1 rfl (lv_room (Nat.le_of_ble_eq_true rfl)) dX12_before_9 ⟨Nat.le_of_ble_eq_true rfl, Nat.le_of_ble_eq_true rfl⟩) hP hS hA (fun r H locs hv hP hS => ?_)
    subst hv
    refine lv_if_ne (tgt := 17) hx hb dX12_before_12 (by decide) (fun c2 => ?_) (fun c2 => ?_)
    · rw [if_neg c2] at hE hp
      refine lv_aload_n hx hb dX12_before_17 rfl (lv_at hl 0 rfl) ?_
      refine va_get (D := G) (ci := 9) (v := .ref h2) (C := RX12) (T := TX12) (N := 7) hx hb hts iX12 hown hK hP 0 rfl rfl 1 (by decide) (hw (.fieldLink RX12 20 "MotionFloorModel" "spare" "LMotionFloorModel$Hall;") (List.mem_of_getElem? (i := 5) rfl)) (fun _ h9 => h9) rfl dX12_before_18 ?_
      refine lv_aload_n hx hb dX12_before_21 rfl (lv_at hl 0 rfl) ?_
      refine va_get (D := G) (ci := 9) (v := .ref h1) (C := RX12) (T := TX12) (N := 7) hx hb hts iX12 hown hK hP 0 rfl rfl 0 (by decide) (hw (.fieldLink RX12 16 "MotionFloorModel" "hall" "LMotionFloorModel$Hall;") (List.mem_of_getElem? (i := 0) rfl)) (fun _ h9 => h9) rfl dX12_before_22 ?_
      refine va_get (D := G) (ci := 8) (v := .int (S.2.1.1 0)) (C := RX11) (T := TX11) (N := 42) hx hb hts iX11 hown hK hP 5 rfl rfl 0 (by decide) (hw (.fieldLink RX12 96 "MotionFloorModel$Hall" "seats" "I") (List.mem_of_getElem? (i := 6) rfl)) (fun _ h9 => h9) rfl dX12_before_25 ?_
      obtain ⟨hy3, hp⟩ := hp
      refine mGov_s (va_runV (As := [.int (S.2.1.1 0)]) (rest := []) ⟨hx, hb, hml, hown, hts⟩ (c_X11_begin l G K h2 g2 S.2.2 (S.2.1.1 0) _) (cwV 1 hts (wGV t_ (mw (.methodLink RX12 36 yX11_begin) (List.mem_of_getElem? (i := 7) rfl)) (mw (.instanceMethod yX11_begin) (List.mem_of_getElem? (i := 8) rfl)) (mw (.selects RX11 yX11_begin yX11_begin) (List.mem_of_getElem? (i := 9) rfl)) (mw (.initialized RX11) (List.mem_of_getElem? (i := 10) rfl)) j_X11_begin) rfl rfl rfl (by decide +kernel) ⟨Nat.le_of_ble_eq_true rfl, Nat.le_of_ble_eq_true rfl⟩) (hPV hK hTE (mP_s hP) (mD_s hD) hy3) rfl rfl hl.1 rfl (lv_room (Nat.le_of_ble_eq_true rfl)) dX12_before_28 ⟨Nat.le_of_ble_eq_true rfl, Nat.le_of_ble_eq_true rfl⟩) hP hD hS hA (fun u4 H locs hv hP hD hS => ?_)
      rw [← hv] at hE hp
      dsimp only at hE hp
      unfold b_X12_before_a31 at hE
      unfold q_X12_before_a31 at hp
      refine lv_aload_n hx hb dX12_before_31 rfl (lv_at hl 0 rfl) ?_
      refine va_get (D := G) (ci := 9) (v := .ref h2) (C := RX12) (T := TX12) (N := 7) hx hb hts iX12 hown hK hP 0 rfl rfl 1 (by decide) (hw (.fieldLink RX12 20 "MotionFloorModel" "spare" "LMotionFloorModel$Hall;") (List.mem_of_getElem? (i := 5) rfl)) (fun _ h9 => h9) rfl dX12_before_32 ?_
      refine lv_aload_n hx hb dX12_before_35 rfl (lv_at hl 0 rfl) ?_
      refine va_get (D := G) (ci := 9) (v := .ref h1) (C := RX12) (T := TX12) (N := 7) hx hb hts iX12 hown hK hP 0 rfl rfl 0 (by decide) (hw (.fieldLink RX12 16 "MotionFloorModel" "hall" "LMotionFloorModel$Hall;") (List.mem_of_getElem? (i := 0) rfl)) (fun _ h9 => h9) rfl dX12_before_36 ?_
      refine va_get (D := G) (ci := 8) (v := .ref (g1 40)) (C := RX11) (T := TX11) (N := 42) hx hb hts iX11 hown hK hP 5 rfl rfl 40 (by decide) (hw (.fieldLink RX12 167 "MotionFloorModel$Hall" "minutes" "[I") (List.mem_of_getElem? (i := 11) rfl)) (fun _ h9 => h9) rfl dX12_before_39 ?_
      refine lv_iload_n hx hb dX12_before_42 rfl (lv_at hl 1 rfl) ?_
      obtain ⟨hy6, hp⟩ := hp
      refine mGov_f (va_runV (As := [.ref (g1 40), .int x1]) (rest := []) ⟨hx, hb, hml, hown, hts⟩ (c_X11_follow l G K h2 g2 (g1 40) (((mS S u4).2.1).2 40) ((mS S u4).2.2) x1 _) (cwV 2 hts (wGV t_ (mw (.methodLink RX12 170 yX11_follow) (List.mem_of_getElem? (i := 12) rfl)) (mw (.instanceMethod yX11_follow) (List.mem_of_getElem? (i := 13) rfl)) (mw (.selects RX11 yX11_follow yX11_follow) (List.mem_of_getElem? (i := 14) rfl)) (mw (.initialized RX11) (List.mem_of_getElem? (i := 10) rfl)) j_X11_follow) rfl rfl rfl (by decide +kernel) ⟨Nat.le_of_ble_eq_true rfl, Nat.le_of_ble_eq_true rfl⟩) (mPVf hK hTE hP hD hy6) rfl rfl hl.1 rfl (lv_room (Nat.le_of_ble_eq_true rfl)) dX12_before_43 ⟨Nat.le_of_ble_eq_true rfl, Nat.le_of_ble_eq_true rfl⟩) hP hD hS hA (fun u7 H locs hv hP hD hS => ?_)
      have hv := congrArg Prod.snd hv
      dsimp only at hv
      subst hv
      refine lv_aload_n hx hb dX12_before_46 rfl (lv_at hl 0 rfl) ?_
      refine va_get (D := G) (ci := 9) (v := .ref h2) (C := RX12) (T := TX12) (N := 7) hx hb hts iX12 hown hK hP 0 rfl rfl 1 (by decide) (hw (.fieldLink RX12 20 "MotionFloorModel" "spare" "LMotionFloorModel$Hall;") (List.mem_of_getElem? (i := 5) rfl)) (fun _ h9 => h9) rfl dX12_before_47 ?_
      refine lv_iload_n hx hb dX12_before_50 rfl (lv_at hl 2 rfl) ?_
      refine lv_iload_n hx hb dX12_before_51 rfl (lv_at hl 3 rfl) ?_
      obtain ⟨hy8, hp⟩ := hp
      refine mGoi_s (va_runV (As := [.int x2, .int x3]) (rest := []) ⟨hx, hb, hml, hown, hts⟩ (c_X11_text l G K h2 g2 ((mS (mS S u4) ((f_X11_follow (((mS S u4).2.1).2 40) ((mS S u4).2.2) x1).2)).2.2) x2 x3 _) (cwV 2 hts (wGV t_ (mw (.methodLink RX12 92 yX11_text) (List.mem_of_getElem? (i := 15) rfl)) (mw (.instanceMethod yX11_text) (List.mem_of_getElem? (i := 16) rfl)) (mw (.selects RX11 yX11_text yX11_text) (List.mem_of_getElem? (i := 17) rfl)) (mw (.initialized RX11) (List.mem_of_getElem? (i := 10) rfl)) j_X11_text) rfl rfl rfl (by decide +kernel) ⟨Nat.le_of_ble_eq_true rfl, Nat.le_of_ble_eq_true rfl⟩) (hPV hK hTE (mP_s hP) (mD_s hD) hy8) rfl rfl hl.1 rfl (lv_room (Nat.le_of_ble_eq_true rfl)) dX12_before_52 ⟨Nat.le_of_ble_eq_true rfl, Nat.le_of_ble_eq_true rfl⟩) hP hD hS hA (fun r10 u9 H locs hv hP hD hS => ?_)
      rw [← hv] at hE hp
      dsimp only at hE hp
      unfold b_X12_before_a55 at hE
      unfold q_X12_before_a55 at hp
      subst hQ
      exact W.iret (v := r10) hx hb hr (fun t ht hW => ⟨⟨r10, (mS (mS (mS S u4) ((f_X11_follow (((mS S u4).2.1).2 40) ((mS S u4).2.2) x1).2)) u9), rfl, hE.trans hX.symm, by rw [ht]; exact hP, hD⟩, hS.F ht⟩) hS.2.2 dX12_before_55
    · rw [if_pos c2] at hE hp
      refine lv_iconst (v := (-1)) hx hb dX12_before_15 (by decide) ?_
      subst hQ
      exact W.iret (v := (-1)) hx hb hr (fun t ht hW => ⟨⟨(-1), S, rfl, hE.trans hX.symm, by rw [ht]; exact hP, hD⟩, hS.F ht⟩) hS.2.2 dX12_before_16
  exact B_M S0 a1 a2 a3 _ _ _ hX hp hP hD hS hl
end
section
/-! ===== numbers ===== -/
theorem iAdd {x y : Int32} (h1 : -2147483648 ≤ x.toInt + y.toInt) (h2 : x.toInt + y.toInt ≤ 2147483647) : (x + y).toInt = x.toInt + y.toInt := by
  rw [Int32.toInt_add]
  unfold Int.bmod
  dsimp only
  split <;> omega
theorem iSub {x y : Int32} (h1 : -2147483648 ≤ x.toInt - y.toInt) (h2 : x.toInt - y.toInt ≤ 2147483647) : (x - y).toInt = x.toInt - y.toInt := by
  rw [Int32.toInt_sub]
  unfold Int.bmod
  dsimp only
  split <;> omega
theorem iMul {x y : Int32} {n : Int} (e : x.toInt * y.toInt = n) (h1 : -2147483648 ≤ n) (h2 : n ≤ 2147483647) : (x * y).toInt = n := by
  rw [Int32.toInt_mul, e]
  unfold Int.bmod
  dsimp only
  split <;> omega
theorem iNat {x : Int32} (h : 0 ≤ x.toInt) : (x.toNatClampNeg : Int) = x.toInt := by
  rw [Int32.toNatClampNeg]
  exact Int.toNat_of_nonneg h
theorem i0 : (0 : Int32).toInt = 0 := by decide
theorem i1 : (1 : Int32).toInt = 1 := by decide
theorem iLt {x y : Int32} : x < y ↔ x.toInt < y.toInt := Int32.lt_iff_toInt_lt
theorem iLe {x y : Int32} : x ≤ y ↔ x.toInt ≤ y.toInt := Int32.le_iff_toInt_le
theorem iEq {x y : Int32} : x = y ↔ x.toInt = y.toInt := Int32.toInt_inj.symm
theorem vIn {x : Int32} {n : Nat} (h1 : 0 ≤ x.toInt) (h2 : x.toInt < n) : vp_in x n := vp_in_iff.mpr ⟨h1, h2⟩
theorem nB0 : narrow .boolean (.int 0) = .int 0 := rfl
theorem nB1 : narrow .boolean (.int 1) = .int 1 := rfl
/-! ===== in(v, low, high) ===== -/
theorem in_f (v lo hi : Int32) : f_X12_in v lo hi = if lo.toInt ≤ v.toInt ∧ v.toInt ≤ hi.toInt then 1 else 0 := by
  unfold f_X12_in b_X12_in_14 b_X12_in_15
  by_cases h1 : v < lo
  · rw [if_pos h1, if_neg (fun q => by have := iLt.mp h1; omega)]
  · rw [if_neg h1]
    by_cases h2 : hi < v
    · rw [if_pos h2, if_neg (fun q => by have := iLt.mp h2; omega)]
    · rw [if_neg h2, if_pos]
      have a := mt iLt.mpr h1
      have b := mt iLt.mpr h2
      omega
theorem in_p (v lo hi : Int32) : p_X12_in v lo hi := by
  unfold p_X12_in q_X12_in_14 q_X12_in_15
  split
  · exact ⟨rfl, trivial⟩
  · split <;> exact ⟨rfl, trivial⟩
theorem in_b (v lo hi : Int32) : narrow .boolean (.int (f_X12_in v lo hi)) = .int (f_X12_in v lo hi) := by
  rw [in_f]
  split <;> rfl
/-! ===== a Hall: reads ===== -/
/-- seats, pending, drafted in their ranges; the slots in row and draft are slots -/
def RA (S : HS) : Prop := (1 ≤ (S.1 0).toInt ∧ (S.1 0).toInt ≤ 200) ∧ (0 ≤ (S.1 6).toInt ∧ (S.1 6).toInt ≤ 9) ∧ (0 ≤ (S.1 35).toInt ∧ (S.1 35).toInt ≤ 9) ∧
  (∀ i : Nat, (i : Int) < (S.1 6).toInt → 0 ≤ (S.2 31 i).toInt ∧ (S.2 31 i).toInt < 90) ∧ (∀ i : Nat, (i : Int) < (S.1 35).toInt → 0 ≤ (S.2 32 i).toInt ∧ (S.2 32 i).toInt < 90)
theorem seat_f {S : HS} (h : RA S) (a : Int32) : f_X11_isSeat S a = (if 0 ≤ a.toInt ∧ a.toInt < (S.1 0).toInt then 1 else 0, S) := by
  unfold f_X11_isSeat
  obtain ⟨⟨h1, h2⟩, -⟩ := h
  have e := iSub (x := S.1 0) (y := 1) (by rw [i1]; omega) (by rw [i1]; omega)
  rw [in_f, e, i0, i1]
  by_cases q : 0 ≤ a.toInt ∧ a.toInt < (S.1 0).toInt
  · rw [if_pos (by omega), if_pos q]
  · rw [if_neg (by omega), if_neg q]
theorem seat_p (S : HS) (a : Int32) : p_X11_isSeat S a := ⟨in_p _ _ _, in_b _ _ _, trivial⟩
theorem here_p {S : HS} (h : RA S) (a : Int32) : p_X11_isHere S a := by
  refine ⟨seat_p S a, ?_⟩
  rw [seat_f h a]
  dsimp only
  unfold q_X11_isHere_a5
  by_cases q : 0 ≤ a.toInt ∧ a.toInt < (S.1 0).toInt
  · rw [if_pos q, if_neg (by decide)]
    refine ⟨vIn q.1 (by have := h.1.2; omega), ?_⟩
    split
    · exact ⟨rfl, trivial⟩
    · exact ⟨rfl, trivial⟩
  · rw [if_neg q, if_pos rfl]
    exact ⟨rfl, trivial⟩
theorem here_f {S : HS} (h : RA S) (a : Int32) : f_X11_isHere S a = (if (0 ≤ a.toInt ∧ a.toInt < (S.1 0).toInt) ∧ S.2 11 a.toNatClampNeg ≠ 0 then 1 else 0, S) := by
  unfold f_X11_isHere
  rw [seat_f h a]
  dsimp only
  unfold b_X11_isHere_a5 b_X11_isHere_21 b_X11_isHere_22
  by_cases q : 0 ≤ a.toInt ∧ a.toInt < (S.1 0).toInt
  · rw [if_pos q, if_neg (by decide)]
    by_cases z : S.2 11 a.toNatClampNeg = 0
    · rw [if_pos z, if_neg (fun x => x.2 z)]
    · rw [if_neg z, if_pos ⟨q, z⟩]
  · rw [if_neg q, if_pos rfl, if_neg (fun x => q x.1)]
theorem top_p {S : HS} (h : RA S) (hp : 1 ≤ (S.1 6).toInt) : p_X11_top S := by
  have e := iSub (x := S.1 6) (y := 1) (by rw [i1]; have := h.2.1; omega) (by rw [i1]; have := h.2.1; omega)
  rw [i1] at e
  exact ⟨vIn (by omega) (by have := h.2.1; omega), trivial⟩
theorem top_in {S : HS} (h : RA S) (hp : 1 ≤ (S.1 6).toInt) : 0 ≤ (f_X11_top S).1.toInt ∧ (f_X11_top S).1.toInt < 90 := by
  have e := iSub (x := S.1 6) (y := 1) (by rw [i1]; have := h.2.1; omega) (by rw [i1]; have := h.2.1; omega)
  rw [i1] at e
  refine h.2.2.2.1 _ ?_
  rw [iNat (by omega)]
  omega
theorem seconder_p {S : HS} (h : RA S) (hp : 1 ≤ (S.1 6).toInt) : p_X11_hasSeconder S := by
  refine ⟨top_p h hp, ?_⟩
  have t := top_in h hp
  refine ⟨vIn t.1 t.2, ?_⟩
  split <;> exact ⟨rfl, trivial⟩
theorem draft0_in {S : HS} (h : RA S) (hd : 1 ≤ (S.1 35).toInt) : 0 ≤ (S.2 32 (0 : Int32).toNatClampNeg).toInt ∧ (S.2 32 (0 : Int32).toNatClampNeg).toInt < 90 :=
  h.2.2.2.2 _ (by rw [iNat (by rw [i0]; omega), i0]; omega)
theorem hasDraft_p {S : HS} (h : RA S) (lo hi : Int32) : p_X11_hasDraft S lo hi := by
  unfold p_X11_hasDraft
  split
  · exact ⟨rfl, trivial⟩
  · rename_i q
    have q := mt iLe.mpr q
    rw [i0] at q
    split
    · have d := draft0_in h (by omega)
      refine ⟨vIn (by rw [i0]; omega) (by rw [i0]; omega), vIn d.1 d.2, in_p _ _ _, ?_⟩
      split <;> exact ⟨rfl, trivial⟩
    · exact ⟨rfl, trivial⟩
theorem isAbout_p {S : HS} (h : RA S) (k : Int32) : p_X11_isAbout S k := by
  unfold p_X11_isAbout
  split
  · trivial
  · rename_i q
    have q := mt iEq.mpr q
    rw [i0] at q
    have hp : 1 ≤ (S.1 6).toInt := by have := h.2.1; omega
    have t := top_in h hp
    refine ⟨top_p h hp, vIn t.1 t.2, ?_⟩
    repeat' split
    all_goals first | exact ⟨rfl, trivial⟩ | trivial
/-- the first free place: found in eight rounds -/
theorem free_q (S : HS) : ∀ (n : Nat) (x : Int32), 0 ≤ x.toInt → x.toInt ≤ 8 → 8 - x.toInt < n → lq_X11_free_2 n S x := by
  intro n
  induction n with
  | zero => intro x h1 h2 h3; omega
  | succ n ih =>
    intro x h1 h2 h3
    rw [lq_X11_free_2]
    unfold ps_X11_free_2 st_X11_free_2
    by_cases c : 8 ≤ x
    · rw [if_pos c, if_pos c]
      exact ⟨trivial, trivial⟩
    · rw [if_neg c, if_neg c]
      have c := mt iLe.mpr c
      have e8 : (8 : Int32).toInt = 8 := by decide
      rw [e8] at c
      refine ⟨⟨vIn h1 (by omega), by split <;> trivial⟩, ?_⟩
      by_cases z : S.2 34 x.toNatClampNeg = 0
      · rw [if_pos z]; trivial
      · rw [if_neg z]
        have e := iAdd (x := x) (y := 1) (by rw [i1]; omega) (by rw [i1]; omega)
        rw [i1] at e
        exact ih (x + 1) (by omega) (by omega) (by omega)
theorem free_p (S : HS) : p_X11_free S := free_q S 100000 0 (by rw [i0]; omega) (by rw [i0]; omega) (by rw [i0]; omega)
end
section
/-! ===== a Hall: reads leave it as it is ===== -/
theorem top_s (S : HS) : (f_X11_top S).2 = S := rfl
theorem seconder_s (S : HS) : (f_X11_hasSeconder S).2 = S := by
  unfold f_X11_hasSeconder
  rw [top_s]
  unfold b_X11_hasSeconder_a8 b_X11_hasSeconder_18
  split <;> rfl
theorem hasDraft_s (S : HS) (lo hi : Int32) : (f_X11_hasDraft S lo hi).2 = S := by
  unfold f_X11_hasDraft b_X11_hasDraft_37 b_X11_hasDraft_38
  repeat' split
  all_goals rfl
theorem isAbout_s (S : HS) (k : Int32) : (f_X11_isAbout S k).2 = S := by
  unfold f_X11_isAbout
  rw [top_s]
  unfold b_X11_isAbout_a17 b_X11_isAbout_39 b_X11_isAbout_57
  repeat' split
  all_goals rfl
theorem seat_s {S : HS} (h : RA S) (a : Int32) : (f_X11_isSeat S a).2 = S := by rw [seat_f h a]
theorem here_s {S : HS} (h : RA S) (a : Int32) : (f_X11_isHere S a).2 = S := by rw [here_f h a]
/-- behind isSeat: where it says so the number is a seat -/
theorem seat_in {S : HS} (h : RA S) {a : Int32} (q : ¬ (f_X11_isSeat S a).1 = 0) : vp_in a 200 := by
  rw [seat_f h a] at q
  dsimp only at q
  by_cases z : 0 ≤ a.toInt ∧ a.toInt < (S.1 0).toInt
  · exact vIn z.1 (by have := h.1.2; omega)
  · rw [if_neg z] at q
    exact absurd rfl q
theorem pend_pos {S : HS} (h : RA S) (q : ¬ S.1 6 = 0) : 1 ≤ (S.1 6).toInt := by
  have q := mt iEq.mpr q
  rw [i0] at q
  have := h.2.1
  omega
theorem pend_gt {S : HS} (q : ¬ S.1 6 ≤ 0) : 1 ≤ (S.1 6).toInt := by
  have q := mt iLe.mpr q
  rw [i0] at q
  omega
/-! ===== the reasons, act by act: every index lies in its row ===== -/
theorem r105 {S : HS} (h : RA S) (x1 x2 x3 x4 x5 : Int32) : p_X11_isSeat S x2 ∧ q_X11_reason_a105 (f_X11_isSeat S x2).2 x1 x2 x3 x4 x5 (f_X11_isSeat S x2).1 := by
  refine ⟨seat_p S x2, ?_⟩
  rw [seat_s h]
  unfold q_X11_reason_a105
  split
  · exact True.intro
  · rename_i q
    refine ⟨seat_in h q, ?_⟩
    split <;> exact True.intro
theorem r129 {S : HS} (h : RA S) (x1 x2 x3 x4 x5 : Int32) : q_X11_reason_129 S x1 x2 x3 x4 x5 := by
  refine ⟨seat_p S x2, ?_⟩
  rw [seat_s h]
  unfold q_X11_reason_a134
  split
  · exact True.intro
  · rename_i q
    refine ⟨seat_in h q, ?_⟩
    split <;> exact True.intro
theorem r260 {S : HS} (h : RA S) (x1 x2 x3 x4 x5 : Int32) : p_X11_isSeat S x2 ∧ q_X11_reason_a260 (f_X11_isSeat S x2).2 x1 x2 x3 x4 x5 (f_X11_isSeat S x2).1 := by
  refine ⟨seat_p S x2, ?_⟩
  rw [seat_s h]
  unfold q_X11_reason_a260
  split
  · exact True.intro
  rename_i q
  refine ⟨seat_in h q, ?_⟩
  split
  · exact True.intro
  split
  · exact True.intro
  split
  · split
    · exact True.intro
    rename_i z
    have hp := pend_pos h z
    have t := top_in h hp
    refine ⟨top_p h hp, ?_⟩
    rw [top_s]
    refine ⟨vIn t.1 t.2, ?_⟩
    split
    · exact True.intro
    refine ⟨top_p h hp, ?_⟩
    rw [top_s]
    refine ⟨vIn t.1 t.2, ?_⟩
    split
    · split
      · exact True.intro
      refine ⟨top_p h hp, ?_⟩
      rw [top_s]
      refine ⟨vIn t.1 t.2, ?_⟩
      split <;> exact True.intro
    · exact True.intro
  · exact True.intro
theorem r407 {S : HS} (h : RA S) (hp : 1 ≤ (S.1 6).toInt) (x1 x2 x3 x4 x5 : Int32) : p_X11_hasSeconder S ∧ q_X11_reason_a407 (f_X11_hasSeconder S).2 x1 x2 x3 x4 x5 (f_X11_hasSeconder S).1 := by
  refine ⟨seconder_p h hp, ?_⟩
  rw [seconder_s]
  unfold q_X11_reason_a407
  have t := top_in h hp
  split
  · exact True.intro
  refine ⟨top_p h hp, ?_⟩
  rw [top_s]
  refine ⟨vIn t.1 t.2, in_p _ _ _, ?_⟩
  split <;> exact True.intro
theorem r461 {S : HS} (h : RA S) (x1 x2 x3 x4 x5 : Int32) : p_X11_hasDraft S 2 3 ∧ q_X11_reason_a461 (f_X11_hasDraft S 2 3).2 x1 x2 x3 x4 x5 (f_X11_hasDraft S 2 3).1 := by
  refine ⟨hasDraft_p h 2 3, ?_⟩
  rw [hasDraft_s]
  unfold q_X11_reason_a461
  split
  · exact True.intro
  rename_i q
  have hd : 1 ≤ (S.1 35).toInt := by
    refine Decidable.byContradiction (fun z => q ?_)
    unfold f_X11_hasDraft b_X11_hasDraft_37 b_X11_hasDraft_38
    rw [if_pos (iLe.mpr (by rw [i0]; omega))]
  have d := draft0_in h hd
  refine ⟨vIn (by rw [i0]; omega) (by rw [i0]; omega), vIn d.1 d.2, ?_⟩
  split
  · refine ⟨in_p _ _ _, ?_⟩
    split
    · exact True.intro
    refine ⟨in_p _ _ _, ?_⟩
    split
    · exact True.intro
    split <;> exact True.intro
  · exact True.intro
theorem r593 {S : HS} (h : RA S) (hp : 1 ≤ (S.1 6).toInt) (x1 x2 x3 x4 x5 : Int32) : p_X11_isSeat S x2 ∧ q_X11_reason_a593 (f_X11_isSeat S x2).2 x1 x2 x3 x4 x5 (f_X11_isSeat S x2).1 := by
  refine ⟨seat_p S x2, ?_⟩
  rw [seat_s h]
  unfold q_X11_reason_a593
  have t := top_in h hp
  split
  · exact True.intro
  rename_i q
  refine ⟨seat_in h q, ?_⟩
  split
  · exact True.intro
  refine ⟨seconder_p h hp, ?_⟩
  rw [seconder_s]
  unfold q_X11_reason_a615
  split
  · refine ⟨top_p h hp, ?_⟩
    rw [top_s]
    refine ⟨vIn t.1 t.2, ?_⟩
    split
    · exact True.intro
    refine ⟨top_p h hp, ?_⟩
    rw [top_s]
    refine ⟨vIn t.1 t.2, ?_⟩
    split
    · exact True.intro
    split <;> exact True.intro
  · exact True.intro
theorem r676 {S : HS} (h : RA S) (hp : 1 ≤ (S.1 6).toInt) (x1 x2 x3 x4 x5 : Int32) : p_X11_isSeat S x2 ∧ q_X11_reason_a676 (f_X11_isSeat S x2).2 x1 x2 x3 x4 x5 (f_X11_isSeat S x2).1 := by
  refine ⟨seat_p S x2, ?_⟩
  rw [seat_s h]
  unfold q_X11_reason_a676
  split
  · exact True.intro
  rename_i q
  refine ⟨in_p _ _ _, ?_⟩
  split
  · exact True.intro
  refine ⟨seat_in h q, ?_⟩
  split
  · exact True.intro
  refine ⟨seconder_p h hp, ?_⟩
  rw [seconder_s]
  unfold q_X11_reason_a707
  split <;> exact True.intro
theorem r734 {S : HS} (h : RA S) (hp : 1 ≤ (S.1 6).toInt) (x1 x2 x3 x4 x5 : Int32) : p_X11_top S ∧ q_X11_reason_a734 (f_X11_top S).2 x1 x2 x3 x4 x5 (f_X11_top S).1 := by
  have t := top_in h hp
  refine ⟨top_p h hp, ?_⟩
  rw [top_s]
  refine ⟨vIn t.1 t.2, ?_⟩
  split
  · exact True.intro
  refine ⟨top_p h hp, ?_⟩
  rw [top_s]
  refine ⟨vIn t.1 t.2, ?_⟩
  split
  · refine ⟨here_p h x2, ?_⟩
    rw [here_s h]
    unfold q_X11_reason_a760
    split <;> exact True.intro
  · exact True.intro
theorem r778 {S : HS} (h : RA S) (x1 x2 x3 x4 x5 : Int32) : p_X11_isHere S (S.1 2) ∧ q_X11_reason_a778 (f_X11_isHere S (S.1 2)).2 x1 x2 x3 x4 x5 (f_X11_isHere S (S.1 2)).1 := by
  refine ⟨here_p h _, ?_⟩
  rw [here_s h]
  unfold q_X11_reason_a778
  split
  · exact True.intro
  split
  · exact True.intro
  rename_i z
  have hp := pend_pos h z
  have t := top_in h hp
  refine ⟨top_p h hp, ?_⟩
  rw [top_s]
  refine ⟨vIn t.1 t.2, ?_⟩
  split
  · exact True.intro
  split <;> exact True.intro
theorem r845 {S : HS} (h : RA S) (hp : 1 ≤ (S.1 6).toInt) (x1 x2 x3 x4 x5 : Int32) : p_X11_top S ∧ q_X11_reason_a845 (f_X11_top S).2 x1 x2 x3 x4 x5 (f_X11_top S).1 := by
  have t := top_in h hp
  refine ⟨top_p h hp, ?_⟩
  rw [top_s]
  refine ⟨vIn t.1 t.2, ?_⟩
  split
  · refine ⟨seconder_p h hp, ?_⟩
    rw [seconder_s]
    unfold q_X11_reason_a855
    split
    · refine ⟨seat_p S x2, ?_⟩
      rw [seat_s h]
      unfold q_X11_reason_a866
      split
      · exact True.intro
      rename_i q
      refine ⟨seat_in h q, ?_⟩
      split
      · exact True.intro
      split <;> exact True.intro
    · exact True.intro
  · exact True.intro
theorem r906 {S : HS} (h : RA S) (x1 x2 x3 x4 x5 : Int32) : p_X11_isHere S (S.1 2) ∧ q_X11_reason_a906 (f_X11_isHere S (S.1 2)).2 x1 x2 x3 x4 x5 (f_X11_isHere S (S.1 2)).1 := by
  refine ⟨here_p h _, ?_⟩
  rw [here_s h]
  unfold q_X11_reason_a906
  split
  · exact True.intro
  split <;> exact True.intro
theorem r936 {S : HS} (h : RA S) (x1 x2 x3 x4 x5 : Int32) : p_X11_isHere S (S.1 2) ∧ q_X11_reason_a936 (f_X11_isHere S (S.1 2)).2 x1 x2 x3 x4 x5 (f_X11_isHere S (S.1 2)).1 := by
  refine ⟨here_p h _, ?_⟩
  rw [here_s h]
  unfold q_X11_reason_a936
  split <;> exact True.intro
/-- every reason but word's, lay's and move's, which are asked for -/
theorem reason_p {S : HS} (h : RA S) (x1 x2 x3 x4 x5 : Int32) (hw : p_X11_reasonOfWord S x2 x3 x4 x5) (hl : p_X11_reasonOfLay S x2) (hm : p_X11_reasonOfMove S x2) : p_X11_reason S x1 x2 x3 x4 x5 := by
  unfold p_X11_reason
  by_cases c1 : x1 = 1
  · rw [if_pos c1]; exact r105 h ..
  rw [if_neg c1]
  by_cases c2 : x1 = 2
  · rw [if_pos c2]; exact r129 h ..
  rw [if_neg c2]
  by_cases c3 : x1 = 3
  · rw [if_pos c3]
    refine ⟨in_p _ _ _, ?_⟩
    repeat' split
    all_goals exact True.intro
  rw [if_neg c3]
  by_cases c4 : x1 = 4
  · rw [if_pos c4]; exact r129 h ..
  rw [if_neg c4]
  by_cases c5 : x1 = 5
  · rw [if_pos c5]
    refine ⟨in_p _ _ _, ?_⟩
    split
    · exact True.intro
    refine ⟨in_p _ _ _, ?_⟩
    repeat' split
    all_goals exact True.intro
  rw [if_neg c5]
  by_cases c6 : x1 = 6
  · rw [if_pos c6]
    refine ⟨in_p _ _ _, ?_⟩
    repeat' split
    all_goals exact True.intro
  rw [if_neg c6]
  by_cases c7 : x1 = 7
  · rw [if_pos c7]; exact r260 h ..
  rw [if_neg c7]
  by_cases c8 : x1 = 8
  · rw [if_pos c8]
    repeat' split
    all_goals exact True.intro
  rw [if_neg c8]
  by_cases c9 : x1 = 9
  · rw [if_pos c9]
    split
    · exact True.intro
    rename_i z
    have hp := pend_pos h z
    split
    · exact True.intro
    split
    · exact r407 h hp ..
    · exact True.intro
  rw [if_neg c9]
  by_cases c10 : x1 = 10
  · rw [if_pos c10]
    refine ⟨in_p _ _ _, ?_⟩
    repeat' split
    all_goals exact True.intro
  rw [if_neg c10]
  by_cases c11 : x1 = 11
  · rw [if_pos c11]; exact r461 h ..
  rw [if_neg c11]
  by_cases c12 : x1 = 12
  · rw [if_pos c12]; exact ⟨hw, True.intro⟩
  rw [if_neg c12]
  by_cases c13 : x1 = 13
  · rw [if_pos c13]; exact ⟨hl, True.intro⟩
  rw [if_neg c13]
  by_cases c14 : x1 = 14
  · rw [if_pos c14]
    refine ⟨in_p _ _ _, ?_⟩
    split
    · exact True.intro
    rename_i q
    have q2 : 0 ≤ x2.toInt ∧ x2.toInt ≤ 7 := by
      refine Decidable.byContradiction (fun z => q ?_)
      rw [in_f, if_neg]
      have e7 : (7 : Int32).toInt = 7 := by decide
      rw [i0, e7]
      exact z
    split
    · exact True.intro
    · refine ⟨vIn q2.1 (by omega), ?_⟩
      split <;> exact True.intro
  rw [if_neg c14]
  by_cases c15 : x1 = 15
  · rw [if_pos c15]; exact ⟨hm, True.intro⟩
  rw [if_neg c15]
  by_cases c16 : x1 = 16
  · rw [if_pos c16]
    split
    · exact True.intro
    · rename_i z
      exact r593 h (pend_pos h z) ..
  rw [if_neg c16]
  by_cases c17 : x1 = 17
  · rw [if_pos c17]
    split
    · exact True.intro
    · rename_i z
      exact r676 h (pend_pos h z) ..
  rw [if_neg c17]
  by_cases c18 : x1 = 18
  · rw [if_pos c18]
    split
    · exact True.intro
    · rename_i z
      exact r734 h (pend_pos h z) ..
  rw [if_neg c18]
  by_cases c19 : x1 = 19
  · rw [if_pos c19]; exact r778 h ..
  rw [if_neg c19]
  by_cases c20 : x1 = 20
  · rw [if_pos c20]
    split
    · exact True.intro
    · rename_i z
      exact r845 h (pend_pos h z) ..
  rw [if_neg c20]
  by_cases c21 : x1 = 21
  · rw [if_pos c21]; exact r906 h ..
  rw [if_neg c21]
  exact r936 h ..
end
section
/-! ===== word's reason ===== -/
theorem hasDraft_d {S : HS} {lo hi : Int32} (q : ¬ (f_X11_hasDraft S lo hi).1 = 0) : 1 ≤ (S.1 35).toInt := by
  refine Decidable.byContradiction (fun z => q ?_)
  unfold f_X11_hasDraft b_X11_hasDraft_37 b_X11_hasDraft_38
  rw [if_pos (iLe.mpr (by rw [i0]; omega))]
theorem isWord_p (x : Int32) : p_X11_isWord x := ⟨in_p _ _ _, in_b _ _ _, True.intro⟩
theorem w102 {S : HS} (h : RA S) (hd : 1 ≤ (S.1 35).toInt) (x1 x2 x3 x4 y0 y1 : Int32) : q_X11_reasonOfWord_102 S x1 x2 x3 x4 y0 y1 := by
  have d := draft0_in h hd
  refine ⟨vIn (by rw [i0]; omega) (by rw [i0]; omega), vIn d.1 d.2, ?_⟩
  split <;> exact True.intro
theorem w71 {S : HS} (h : RA S) (hd : 1 ≤ (S.1 35).toInt) (x1 x2 x3 x4 : Int32) : q_X11_reasonOfWord_71 S x1 x2 x3 x4 := by
  unfold q_X11_reasonOfWord_71 q_X11_reasonOfWord_81 q_X11_reasonOfWord_91
  repeat' split
  all_goals exact w102 h hd ..
theorem w55 {S : HS} (h : RA S) (hd : 1 ≤ (S.1 35).toInt) (x1 x2 x3 x4 : Int32) : q_X11_reasonOfWord_55 S x1 x2 x3 x4 := by
  unfold q_X11_reasonOfWord_55
  split
  · exact w71 h hd ..
  · refine ⟨isWord_p _, ?_⟩
    split
    · exact True.intro
    · exact w71 h hd ..
theorem w44 {S : HS} (h : RA S) (hd : 1 ≤ (S.1 35).toInt) (x1 x2 x3 x4 : Int32) : q_X11_reasonOfWord_44 S x1 x2 x3 x4 := by
  unfold q_X11_reasonOfWord_44
  split
  · exact w55 h hd ..
  · refine ⟨isWord_p _, ?_⟩
    split
    · exact True.intro
    · exact w55 h hd ..
theorem word_p {S : HS} (h : RA S) (x1 x2 x3 x4 : Int32) : p_X11_reasonOfWord S x1 x2 x3 x4 := by
  refine ⟨hasDraft_p h 1 5, ?_⟩
  rw [hasDraft_s]
  unfold q_X11_reasonOfWord_a6
  split
  · exact True.intro
  rename_i q
  have hd := hasDraft_d q
  have d := draft0_in h hd
  refine ⟨vIn (by rw [i0]; omega) (by rw [i0]; omega), vIn d.1 d.2, ?_⟩
  split
  · refine ⟨isWord_p _, ?_⟩
    split
    · exact True.intro
    split
    · exact w44 h hd ..
    · refine ⟨isWord_p _, ?_⟩
      split
      · exact True.intro
      · exact w44 h hd ..
  · exact True.intro
/-! ===== the free places, counted ===== -/
theorem freePlaces_q (S : HS) : ∀ (n : Nat) (y x : Int32), 0 ≤ x.toInt → x.toInt ≤ 8 → 8 - x.toInt < n → lq_X11_freePlaces_4 n S y x := by
  intro n
  induction n with
  | zero => intro y x h1 h2 h3; omega
  | succ n ih =>
    intro y x h1 h2 h3
    rw [lq_X11_freePlaces_4]
    unfold ps_X11_freePlaces_4 st_X11_freePlaces_4
    by_cases c : 8 ≤ x
    · rw [if_pos c, if_pos c]
      exact ⟨True.intro, True.intro⟩
    · rw [if_neg c, if_neg c]
      have c := mt iLe.mpr c
      have e8 : (8 : Int32).toInt = 8 := by decide
      rw [e8] at c
      refine ⟨⟨vIn h1 (by omega), by split <;> exact True.intro⟩, ?_⟩
      have e := iAdd (x := x) (y := 1) (by rw [i1]; omega) (by rw [i1]; omega)
      rw [i1] at e
      by_cases z : S.2 34 x.toNatClampNeg = 0
      · rw [if_pos z]
        exact ih _ (x + 1) (by omega) (by omega) (by omega)
      · rw [if_neg z]
        exact ih _ (x + 1) (by omega) (by omega) (by omega)
theorem freePlaces_p (S : HS) : p_X11_freePlaces S := freePlaces_q S 100000 0 0 (by rw [i0]; omega) (by rw [i0]; omega) (by rw [i0]; omega)
theorem freePlaces_l (S : HS) : ∀ (n : Nat) (y x : Int32), (lp_X11_freePlaces_4 n S y x).2 = S := by
  intro n
  induction n with
  | zero => intro y x; rfl
  | succ n ih =>
    intro y x
    rw [lp_X11_freePlaces_4]
    unfold st_X11_freePlaces_4
    by_cases c : 8 ≤ x
    · rw [if_pos c]
    · rw [if_neg c]
      by_cases z : S.2 34 x.toNatClampNeg = 0
      · rw [if_pos z]
        exact ih _ _
      · rw [if_neg z]
        exact ih _ _
theorem freePlaces_s (S : HS) : (f_X11_freePlaces S).2 = S := freePlaces_l S 100000 0 0
/-! ===== whether a PENDING one wants a place ===== -/
theorem wantsPlace_q {S : HS} (h : RA S) : ∀ (n : Nat) (x : Int32), 0 ≤ x.toInt → x.toInt ≤ (S.1 6).toInt → (S.1 6).toInt - x.toInt < n → lq_X11_wantsPlace_2 n S x := by
  intro n
  induction n with
  | zero => intro x h1 h2 h3; omega
  | succ n ih =>
    intro x h1 h2 h3
    rw [lq_X11_wantsPlace_2]
    unfold ps_X11_wantsPlace_2 st_X11_wantsPlace_2
    have hp := h.2.1
    by_cases c : S.1 6 ≤ x
    · rw [if_pos c, if_pos c]
      exact ⟨True.intro, True.intro⟩
    · rw [if_neg c, if_neg c]
      have c := mt iLe.mpr c
      have hx : vp_in x 9 := vIn h1 (by omega)
      have r := h.2.2.2.1 x.toNatClampNeg (by rw [iNat h1]; omega)
      have hr : vp_in (S.2 31 x.toNatClampNeg) 90 := vIn r.1 r.2
      have e := iAdd (x := x) (y := 1) (by rw [i1]; omega) (by rw [i1]; omega)
      rw [i1] at e
      refine ⟨⟨hx, hr, ?_⟩, ?_⟩
      · split
        · exact True.intro
        · refine ⟨hx, hr, ?_⟩
          split
          · exact True.intro
          · refine ⟨hx, hr, ?_⟩
            split <;> exact True.intro
      · by_cases z4 : S.2 14 (S.2 31 x.toNatClampNeg).toNatClampNeg = 4
        · rw [if_pos z4]; exact True.intro
        rw [if_neg z4]
        by_cases z5 : S.2 14 (S.2 31 x.toNatClampNeg).toNatClampNeg = 5
        · rw [if_pos z5]; exact True.intro
        rw [if_neg z5]
        by_cases z7 : S.2 14 (S.2 31 x.toNatClampNeg).toNatClampNeg = 7
        · rw [if_pos z7]; exact True.intro
        rw [if_neg z7]
        exact ih (x + 1) (by omega) (by omega) (by omega)
theorem wantsPlace_p {S : HS} (h : RA S) : p_X11_wantsPlace S := wantsPlace_q h 100000 0 (by rw [i0]; omega) (by rw [i0]; have := h.2.1; omega) (by rw [i0]; have := h.2.1; omega)
theorem wantsPlace_l (S : HS) : ∀ (n : Nat) (x : Int32), (lp_X11_wantsPlace_2 n S x).2 = S := by
  intro n
  induction n with
  | zero => intro x; rfl
  | succ n ih =>
    intro x
    rw [lp_X11_wantsPlace_2]
    unfold st_X11_wantsPlace_2
    by_cases c : S.1 6 ≤ x
    · rw [if_pos c]
    · rw [if_neg c]
      by_cases z4 : S.2 14 (S.2 31 x.toNatClampNeg).toNatClampNeg = 4
      · rw [if_pos z4]; rfl
      rw [if_neg z4]
      by_cases z5 : S.2 14 (S.2 31 x.toNatClampNeg).toNatClampNeg = 5
      · rw [if_pos z5]; rfl
      rw [if_neg z5]
      by_cases z7 : S.2 14 (S.2 31 x.toNatClampNeg).toNatClampNeg = 7
      · rw [if_pos z7]; rfl
      rw [if_neg z7]
      exact ih _
theorem wantsPlace_s (S : HS) : (f_X11_wantsPlace S).2 = S := wantsPlace_l S 100000 0
/-! ===== lay's reason ===== -/
theorem isAbout_pos {S : HS} (h : RA S) {k : Int32} (q : ¬ (f_X11_isAbout S k).1 = 0) : 1 ≤ (S.1 6).toInt := by
  by_cases z : S.1 6 = 0
  · exact absurd (by unfold f_X11_isAbout; rw [if_pos z]) q
  · exact pend_pos h z
theorem l100 {S : HS} (h : RA S) (x : Int32) : q_X11_reasonOfLay_100 S x := by
  refine ⟨freePlaces_p S, ?_⟩
  rw [freePlaces_s]
  unfold q_X11_reasonOfLay_a104
  split
  · refine ⟨wantsPlace_p h, ?_⟩
    rw [wantsPlace_s]
    unfold q_X11_reasonOfLay_a112
    split <;> exact True.intro
  · exact True.intro
theorem in_07 {x : Int32} (q : ¬ f_X12_in x 0 7 = 0) : 0 ≤ x.toInt ∧ x.toInt ≤ 7 := by
  refine Decidable.byContradiction (fun z => q ?_)
  rw [in_f, if_neg]
  have e7 : (7 : Int32).toInt = 7 := by decide
  rw [i0, e7]
  exact z
theorem lay_p {S : HS} (h : RA S) (x : Int32) : p_X11_reasonOfLay S x := by
  refine ⟨in_p _ _ _, ?_⟩
  split
  · exact True.intro
  rename_i q
  have q2 := in_07 q
  split
  · exact True.intro
  refine ⟨vIn q2.1 (by omega), ?_⟩
  split
  · refine ⟨hasDraft_p h 2 3, ?_⟩
    rw [hasDraft_s]
    unfold q_X11_reasonOfLay_a38
    split
    · exact l100 h x
    rename_i z
    have d := draft0_in h (hasDraft_d z)
    have d0 : vp_in 0 9 := vIn (by rw [i0]; omega) (by rw [i0]; omega)
    refine ⟨d0, vIn d.1 d.2, ?_⟩
    split
    · refine ⟨d0, vIn d.1 d.2, isAbout_p h _, ?_⟩
      rw [isAbout_s]
      unfold q_X11_reasonOfLay_a70
      split
      · exact True.intro
      rename_i y
      have hp := isAbout_pos h y
      have t := top_in h hp
      refine ⟨d0, vIn d.1 d.2, top_p h hp, ?_⟩
      rw [top_s]
      refine ⟨vIn t.1 t.2, ?_⟩
      split
      · exact l100 h x
      · exact True.intro
    · exact l100 h x
  · exact True.intro
end
section
/-! ===== move's reason ===== -/
/-- an AMEND or a SECOND in x3's place has enough rows below it -/
def GM (S : HS) (x3 : Int32) : Prop := (x3 = 2 ∨ x3 = 3 → 1 ≤ (S.1 6).toInt) ∧ (x3 = 3 → 2 ≤ (S.1 6).toInt)
theorem m395 (S : HS) (x1 x2 x3 x4 : Int32) : q_X11_reasonOfMove_395 S x1 x2 x3 x4 := by
  have f : q_X11_reasonOfMove_411 S x1 x2 x3 x4 := by
    refine ⟨free_p S, ?_⟩
    unfold q_X11_reasonOfMove_a415
    split <;> exact True.intro
  unfold q_X11_reasonOfMove_395
  split
  · exact f
  split
  · exact f
  split
  · exact f
  · exact True.intro
theorem m348 {S : HS} (h : RA S) (hp : 1 ≤ (S.1 6).toInt) (x1 x2 x3 x4 x5 y0 : Int32) (hy : y0 = (-1) ∨ vp_in y0 90) : q_X11_reasonOfMove_348 S x1 x2 x3 x4 x5 y0 := by
  have t := top_in h hp
  unfold q_X11_reasonOfMove_348
  split
  · exact m395 S x1 x2 x3 x4
  rename_i z
  have hy := hy.resolve_left z
  refine ⟨hy, top_p h hp, ?_⟩
  rw [top_s]
  refine ⟨vIn t.1 t.2, top_p h hp, ?_⟩
  rw [top_s]
  refine ⟨vIn t.1 t.2, ?_⟩
  split
  · exact m395 S x1 x2 x3 x4
  · exact True.intro
theorem m293 {S : HS} (h : RA S) (hp : 1 ≤ (S.1 6).toInt) (x1 : Int32) {x2 : Int32} (hx : vp_in x2 90) {x3 : Int32} (g : GM S x3) (x4 y0 : Int32) (hy : vp_in y0 90) : q_X11_reasonOfMove_a293 S x1 x2 x3 x4 y0 := by
  refine ⟨hy, hx, hx, hx, ?_⟩
  split
  · split
    · rename_i z
      have hq := g.2 z
      have hr := h.2.1
      have e2 : (2 : Int32).toInt = 2 := by decide
      have e := iSub (x := S.1 6) (y := 2) (by rw [e2]; omega) (by rw [e2]; omega)
      rw [e2] at e
      have r := h.2.2.2.1 ((S.1 6) - 2).toNatClampNeg (by rw [iNat (by omega)]; omega)
      exact ⟨vIn (by omega) (by omega), m348 h hp _ _ _ _ _ _ (Or.inr (vIn r.1 r.2))⟩
    · exact m348 h hp _ _ _ _ _ _ (Or.inl rfl)
  · exact True.intro
theorem m259 {S : HS} (h : RA S) (x1 : Int32) {x2 : Int32} (hx : vp_in x2 90) {x3 : Int32} (g : GM S x3) (x4 : Int32) (hp : x4 = 0 ∨ 1 ≤ (S.1 6).toInt) : q_X11_reasonOfMove_259 S x1 x2 x3 x4 := by
  unfold q_X11_reasonOfMove_259
  split
  · split
    · exact True.intro
    split
    · exact m395 S x1 x2 x3 x4
    rename_i z
    have hp := hp.resolve_left z
    have t := top_in h hp
    refine ⟨top_p h hp, ?_⟩
    rw [top_s]
    exact m293 h hp x1 hx g x4 _ (vIn t.1 t.2)
  · exact True.intro
theorem m239 {S : HS} (h : RA S) (hp : 1 ≤ (S.1 6).toInt) (x1 : Int32) {x2 : Int32} (hx : vp_in x2 90) {x3 : Int32} (g : GM S x3) (x4 : Int32) : q_X11_reasonOfMove_239 S x1 x2 x3 x4 := by
  have t := top_in h hp
  refine ⟨hx, top_p h hp, ?_⟩
  rw [top_s]
  refine ⟨vIn t.1 t.2, ?_⟩
  split
  · exact m259 h x1 hx g x4 (Or.inr hp)
  · exact True.intro
theorem m196 {S : HS} (h : RA S) (x1 : Int32) {x2 : Int32} (hx : vp_in x2 90) {x3 : Int32} (g : GM S x3) (y0 : Int32) (hp : y0 = 0 ∨ 1 ≤ (S.1 6).toInt) : q_X11_reasonOfMove_196 S x1 x2 x3 y0 := by
  unfold q_X11_reasonOfMove_196
  split
  · exact m259 h x1 hx g y0 hp
  rename_i z
  have hp := hp.resolve_left z
  have t := top_in h hp
  refine ⟨hx, ?_⟩
  split
  · refine ⟨hx, ?_⟩
    split
    · exact m239 h hp x1 hx g y0
    · refine ⟨hx, top_p h hp, ?_⟩
      rw [top_s]
      refine ⟨vIn t.1 t.2, ?_⟩
      split
      · exact m239 h hp x1 hx g y0
      · exact True.intro
  · exact True.intro
theorem m161 {S : HS} (h : RA S) (x1 : Int32) {x2 : Int32} (hx : vp_in x2 90) {x3 : Int32} (g : GM S x3) : q_X11_reasonOfMove_161 S x1 x2 x3 := by
  unfold q_X11_reasonOfMove_161
  have n : q_X11_reasonOfMove_195 S x1 x2 x3 := m196 h x1 hx g 0 (Or.inl rfl)
  split
  · split
    · split
      · rename_i z
        exact m196 h x1 hx g 1 (Or.inr (g.1 (Or.inl z)))
      split
      · rename_i z
        exact m196 h x1 hx g 1 (Or.inr (g.1 (Or.inr z)))
      · exact n
    · exact n
  · exact True.intro
theorem m127 {S : HS} (h : RA S) (x1 : Int32) {x2 : Int32} (hx : vp_in x2 90) {x3 : Int32} (g : GM S x3) : q_X11_reasonOfMove_127 S x1 x2 x3 := by
  unfold q_X11_reasonOfMove_127
  split
  · exact True.intro
  split
  · split
    · exact m161 h x1 hx g
    · rename_i z
      refine ⟨seconder_p h (pend_gt z), ?_⟩
      rw [seconder_s]
      unfold q_X11_reasonOfMove_a156
      split
      · exact True.intro
      · exact m161 h x1 hx g
  · exact True.intro
theorem m70 {S : HS} (h : RA S) (x1 : Int32) {x2 : Int32} (hx : vp_in x2 90) {x3 : Int32} (g : GM S x3) : ∀ (n : Nat) (x4 x : Int32), 0 ≤ x.toInt → x.toInt ≤ (S.1 6).toInt → (S.1 6).toInt - x.toInt < n → lq_X11_reasonOfMove_70 n S x1 x2 x3 x4 x := by
  intro n
  induction n with
  | zero => intro x4 x h1 h2 h3; omega
  | succ n ih =>
    intro x4 x h1 h2 h3
    rw [lq_X11_reasonOfMove_70]
    unfold ps_X11_reasonOfMove_70 st_X11_reasonOfMove_70
    have hp := h.2.1
    by_cases c : S.1 6 ≤ x
    · rw [if_pos c, if_pos c]
      refine ⟨?_, True.intro⟩
      split
      · exact True.intro
      split
      · exact m127 h x1 hx g
      · exact True.intro
    · rw [if_neg c, if_neg c]
      have c := mt iLe.mpr c
      have hx9 : vp_in x 9 := vIn h1 (by omega)
      have r := h.2.2.2.1 x.toNatClampNeg (by rw [iNat h1]; omega)
      have hr : vp_in (S.2 31 x.toNatClampNeg) 90 := vIn r.1 r.2
      have e := iAdd (x := x) (y := 1) (by rw [i1]; omega) (by rw [i1]; omega)
      rw [i1] at e
      by_cases z : x4 = 0
      · rw [if_pos z, if_pos z]
        by_cases y : S.2 14 (S.2 31 x.toNatClampNeg).toNatClampNeg < x3
        · rw [if_pos y, if_pos y]
          exact ⟨⟨hx9, hr, True.intro⟩, ih 0 (x + 1) (by omega) (by omega) (by omega)⟩
        · rw [if_neg y, if_neg y]
          exact ⟨⟨hx9, hr, True.intro⟩, ih 1 (x + 1) (by omega) (by omega) (by omega)⟩
      · rw [if_neg z, if_neg z]
        exact ⟨True.intro, ih 1 (x + 1) (by omega) (by omega) (by omega)⟩
/-- the lowest pending motion is a MAIN -/
def RK (S : HS) : Prop := 1 ≤ (S.1 6).toInt → S.2 14 (S.2 31 0).toNatClampNeg = 1
theorem isAbout_3 {S : HS} (h : RA S) (k : RK S) (q : ¬ (f_X11_isAbout S 3).1 = 0) : 2 ≤ (S.1 6).toInt := by
  have hp := isAbout_pos h q
  refine Decidable.byContradiction (fun w => q ?_)
  have e := iSub (x := S.1 6) (y := 1) (by rw [i1]; omega) (by rw [i1]; omega)
  rw [i1] at e
  have z : ((S.1 6) - 1).toNatClampNeg = 0 := by
    have := iNat (x := (S.1 6) - 1) (by omega)
    omega
  unfold f_X11_isAbout
  rw [if_neg (fun y => by rw [y, i0] at hp; omega), top_s]
  unfold b_X11_isAbout_a17 f_X11_top
  dsimp only
  rw [z, k hp, if_neg (by decide), if_neg (by decide)]
  rfl
theorem m34 {S : HS} (h : RA S) (k : RK S) (x1 : Int32) {x2 : Int32} (hx : vp_in x2 90) (y0 : Int32) : q_X11_reasonOfMove_34 S x1 x2 y0 := by
  unfold q_X11_reasonOfMove_34
  split
  · rename_i z
    split
    · refine m127 h x1 hx ⟨fun y => ?_, fun y => ?_⟩
      · subst z
        exact absurd y (by decide)
      · subst z
        exact absurd y (by decide)
    · exact True.intro
  split
  · rename_i z
    have z := iLe.mp z
    have e4 : (4 : Int32).toInt = 4 := by decide
    rw [e4] at z
    have n2 : y0 ≠ 2 := fun y => by
      have e2 : (2 : Int32).toInt = 2 := by decide
      rw [y, e2] at z
      omega
    have n3 : y0 ≠ 3 := fun y => by
      have e3 : (3 : Int32).toInt = 3 := by decide
      rw [y, e3] at z
      omega
    exact m70 h x1 hx ⟨fun y => y.elim (fun y => absurd y n2) (fun y => absurd y n3), fun y => absurd y n3⟩ 100000 0 0 (by rw [i0]; omega) (by rw [i0]; have := h.2.1; omega) (by rw [i0]; have := h.2.1; omega)
  · refine ⟨isAbout_p h y0, ?_⟩
    rw [isAbout_s]
    unfold q_X11_reasonOfMove_a59
    split
    · exact True.intro
    · rename_i q
      exact m127 h x1 hx ⟨fun _ => isAbout_pos h q, fun y => by subst y; exact isAbout_3 h k q⟩
theorem move_p {S : HS} (h : RA S) (k : RK S) (hd : 1 ≤ (S.1 35).toInt ∨ S.1 35 = 0) (x1 : Int32) : p_X11_reasonOfMove S x1 := by
  unfold p_X11_reasonOfMove
  split
  · exact True.intro
  rename_i z
  have hd := hd.resolve_right z
  have d := draft0_in h hd
  have d0 : vp_in 0 9 := vIn (by rw [i0]; omega) (by rw [i0]; omega)
  refine ⟨d0, ?_⟩
  split
  · exact ⟨vIn d.1 d.2, m34 h k x1 (vIn d.1 d.2) _⟩
  · exact m34 h k x1 (vIn d.1 d.2) _
theorem reasons_p {S : HS} (h : RA S) (k : RK S) (x1 x2 x3 x4 x5 : Int32) : p_X11_reason S x1 x2 x3 x4 x5 := by
  refine reason_p h x1 x2 x3 x4 x5 (word_p h _ _ _ _) (lay_p h _) (move_p h k ?_ _)
  by_cases z : S.1 35 = 0
  · exact Or.inr z
  · refine Or.inl ?_
    have z := mt iEq.mpr z
    rw [i0] at z
    have := h.2.2.1
    omega
end
section
/-! ===== the reasons keep the state ===== -/
theorem ite_s {c : Prop} [Decidable c] {x y : Int32 × HS} {S : HS} (h1 : x.2 = S) (h2 : y.2 = S) : (if c then x else y).2 = S := by
  split
  · exact h1
  · exact h2
theorem seat_t (S : HS) (a : Int32) : (f_X11_isSeat S a).2 = S := rfl
theorem free_l (S : HS) : ∀ (n : Nat) (x : Int32), (lp_X11_free_2 n S x).2 = S := by
  intro n
  induction n with
  | zero => intro x; rfl
  | succ n ih =>
    intro x
    rw [lp_X11_free_2]
    unfold st_X11_free_2
    by_cases c : 8 ≤ x
    · rw [if_pos c]
    rw [if_neg c]
    by_cases z : S.2 34 x.toNatClampNeg = 0
    · rw [if_pos z]
    rw [if_neg z]
    exact ih _
theorem sb_X11_isHere_22 (S : HS) (x1 y0 : Int32) : (b_X11_isHere_22 S x1 y0).2 = S := by
  unfold b_X11_isHere_22
  (repeat' (with_reducible refine ite_s ?_ ?_)) <;> rfl
theorem sb_X11_isHere_21 (S : HS) (x1 : Int32) : (b_X11_isHere_21 S x1).2 = S := by
  unfold b_X11_isHere_21
  (repeat' (with_reducible refine ite_s ?_ ?_)) <;> simp only [sb_X11_isHere_22]
theorem sb_X11_isHere_a5 (S : HS) (x1 y0 : Int32) : (b_X11_isHere_a5 S x1 y0).2 = S := by
  unfold b_X11_isHere_a5
  (repeat' (with_reducible refine ite_s ?_ ?_)) <;> simp only [sb_X11_isHere_21, sb_X11_isHere_22]
theorem sf_X11_isHere (S : HS) (x1 : Int32) : (f_X11_isHere S x1).2 = S := by
  unfold f_X11_isHere
  (repeat' (with_reducible refine ite_s ?_ ?_)) <;> simp only [sb_X11_isHere_a5, seat_t]
theorem sf_X11_free (S : HS) : (f_X11_free S ).2 = S := by
  unfold f_X11_free
  (repeat' (with_reducible refine ite_s ?_ ?_)) <;> simp only [free_l]
theorem sb_X11_reasonOfWord_23 (S : HS) (x1 x2 x3 x4 : Int32) : (b_X11_reasonOfWord_23 S x1 x2 x3 x4).2 = S := by
  unfold b_X11_reasonOfWord_23
  (repeat' (with_reducible refine ite_s ?_ ?_)) <;> rfl
theorem sb_X11_reasonOfWord_68 (S : HS) (x1 x2 x3 x4 : Int32) : (b_X11_reasonOfWord_68 S x1 x2 x3 x4).2 = S := by
  unfold b_X11_reasonOfWord_68
  (repeat' (with_reducible refine ite_s ?_ ?_)) <;> rfl
theorem sb_X11_reasonOfWord_131 (S : HS) (x1 x2 x3 x4 x5 y0 : Int32) : (b_X11_reasonOfWord_131 S x1 x2 x3 x4 x5 y0).2 = S := by
  unfold b_X11_reasonOfWord_131
  (repeat' (with_reducible refine ite_s ?_ ?_)) <;> rfl
theorem sb_X11_reasonOfWord_102 (S : HS) (x1 x2 x3 x4 y0 y1 : Int32) : (b_X11_reasonOfWord_102 S x1 x2 x3 x4 y0 y1).2 = S := by
  unfold b_X11_reasonOfWord_102
  (repeat' (with_reducible refine ite_s ?_ ?_)) <;> simp only [sb_X11_reasonOfWord_131]
theorem sb_X11_reasonOfWord_91 (S : HS) (x1 x2 x3 x4 y0 y1 : Int32) : (b_X11_reasonOfWord_91 S x1 x2 x3 x4 y0 y1).2 = S := by
  unfold b_X11_reasonOfWord_91
  (repeat' (with_reducible refine ite_s ?_ ?_)) <;> simp only [sb_X11_reasonOfWord_102]
theorem sb_X11_reasonOfWord_81 (S : HS) (x1 x2 x3 x4 y0 y1 : Int32) : (b_X11_reasonOfWord_81 S x1 x2 x3 x4 y0 y1).2 = S := by
  unfold b_X11_reasonOfWord_81
  (repeat' (with_reducible refine ite_s ?_ ?_)) <;> simp only [sb_X11_reasonOfWord_91]
theorem sb_X11_reasonOfWord_71 (S : HS) (x1 x2 x3 x4 : Int32) : (b_X11_reasonOfWord_71 S x1 x2 x3 x4).2 = S := by
  unfold b_X11_reasonOfWord_71
  (repeat' (with_reducible refine ite_s ?_ ?_)) <;> simp only [sb_X11_reasonOfWord_81]
theorem sb_X11_reasonOfWord_55 (S : HS) (x1 x2 x3 x4 : Int32) : (b_X11_reasonOfWord_55 S x1 x2 x3 x4).2 = S := by
  unfold b_X11_reasonOfWord_55
  (repeat' (with_reducible refine ite_s ?_ ?_)) <;> simp only [sb_X11_reasonOfWord_71, sb_X11_reasonOfWord_68]
theorem sb_X11_reasonOfWord_44 (S : HS) (x1 x2 x3 x4 : Int32) : (b_X11_reasonOfWord_44 S x1 x2 x3 x4).2 = S := by
  unfold b_X11_reasonOfWord_44
  (repeat' (with_reducible refine ite_s ?_ ?_)) <;> simp only [sb_X11_reasonOfWord_55, sb_X11_reasonOfWord_68]
theorem sb_X11_reasonOfWord_a6 (S : HS) (x1 x2 x3 x4 y0 : Int32) : (b_X11_reasonOfWord_a6 S x1 x2 x3 x4 y0).2 = S := by
  unfold b_X11_reasonOfWord_a6
  (repeat' (with_reducible refine ite_s ?_ ?_)) <;> simp only [sb_X11_reasonOfWord_23, sb_X11_reasonOfWord_68, sb_X11_reasonOfWord_44]
theorem sf_X11_reasonOfWord (S : HS) (x1 x2 x3 x4 : Int32) : (f_X11_reasonOfWord S x1 x2 x3 x4).2 = S := by
  unfold f_X11_reasonOfWord
  (repeat' (with_reducible refine ite_s ?_ ?_)) <;> simp only [sb_X11_reasonOfWord_a6, hasDraft_s]
theorem sb_X11_reasonOfLay_29 (S : HS) (x1 : Int32) : (b_X11_reasonOfLay_29 S x1).2 = S := by
  unfold b_X11_reasonOfLay_29
  (repeat' (with_reducible refine ite_s ?_ ?_)) <;> rfl
theorem sb_X11_reasonOfLay_121 (S : HS) (x1 y0 : Int32) : (b_X11_reasonOfLay_121 S x1 y0).2 = S := by
  unfold b_X11_reasonOfLay_121
  (repeat' (with_reducible refine ite_s ?_ ?_)) <;> rfl
theorem sb_X11_reasonOfLay_120 (S : HS) (x1 : Int32) : (b_X11_reasonOfLay_120 S x1).2 = S := by
  unfold b_X11_reasonOfLay_120
  (repeat' (with_reducible refine ite_s ?_ ?_)) <;> simp only [sb_X11_reasonOfLay_121]
theorem sb_X11_reasonOfLay_a112 (S : HS) (x1 y0 : Int32) : (b_X11_reasonOfLay_a112 S x1 y0).2 = S := by
  unfold b_X11_reasonOfLay_a112
  (repeat' (with_reducible refine ite_s ?_ ?_)) <;> simp only [sb_X11_reasonOfLay_120, sb_X11_reasonOfLay_121]
theorem sb_X11_reasonOfLay_a104 (S : HS) (x1 y0 : Int32) : (b_X11_reasonOfLay_a104 S x1 y0).2 = S := by
  unfold b_X11_reasonOfLay_a104
  (repeat' (with_reducible refine ite_s ?_ ?_)) <;> simp only [sb_X11_reasonOfLay_a112, wantsPlace_s, sb_X11_reasonOfLay_120]
theorem sb_X11_reasonOfLay_100 (S : HS) (x1 : Int32) : (b_X11_reasonOfLay_100 S x1).2 = S := by
  unfold b_X11_reasonOfLay_100
  (repeat' (with_reducible refine ite_s ?_ ?_)) <;> simp only [sb_X11_reasonOfLay_a104, freePlaces_s]
theorem sb_X11_reasonOfLay_a94 (S : HS) (x1 y0 y1 : Int32) : (b_X11_reasonOfLay_a94 S x1 y0 y1).2 = S := by
  unfold b_X11_reasonOfLay_a94
  (repeat' (with_reducible refine ite_s ?_ ?_)) <;> simp only [sb_X11_reasonOfLay_100]
theorem sb_X11_reasonOfLay_a70 (S : HS) (x1 y0 : Int32) : (b_X11_reasonOfLay_a70 S x1 y0).2 = S := by
  unfold b_X11_reasonOfLay_a70
  (repeat' (with_reducible refine ite_s ?_ ?_)) <;> simp only [sb_X11_reasonOfLay_a94, top_s]
theorem sb_X11_reasonOfLay_a38 (S : HS) (x1 y0 : Int32) : (b_X11_reasonOfLay_a38 S x1 y0).2 = S := by
  unfold b_X11_reasonOfLay_a38
  (repeat' (with_reducible refine ite_s ?_ ?_)) <;> simp only [sb_X11_reasonOfLay_100, sb_X11_reasonOfLay_a70, isAbout_s]
theorem sf_X11_reasonOfLay (S : HS) (x1 : Int32) : (f_X11_reasonOfLay S x1).2 = S := by
  unfold f_X11_reasonOfLay
  (repeat' (with_reducible refine ite_s ?_ ?_)) <;> simp only [sb_X11_reasonOfLay_29, sb_X11_reasonOfLay_a38, hasDraft_s]
theorem sb_X11_reasonOfMove_143 (S : HS) (x1 x2 x3 : Int32) : (b_X11_reasonOfMove_143 S x1 x2 x3).2 = S := by
  unfold b_X11_reasonOfMove_143
  (repeat' (with_reducible refine ite_s ?_ ?_)) <;> rfl
theorem sb_X11_reasonOfMove_425 (S : HS) (x1 x2 x3 x4 y0 : Int32) : (b_X11_reasonOfMove_425 S x1 x2 x3 x4 y0).2 = S := by
  unfold b_X11_reasonOfMove_425
  (repeat' (with_reducible refine ite_s ?_ ?_)) <;> rfl
theorem sb_X11_reasonOfMove_424 (S : HS) (x1 x2 x3 x4 : Int32) : (b_X11_reasonOfMove_424 S x1 x2 x3 x4).2 = S := by
  unfold b_X11_reasonOfMove_424
  (repeat' (with_reducible refine ite_s ?_ ?_)) <;> simp only [sb_X11_reasonOfMove_425]
theorem sb_X11_reasonOfMove_a415 (S : HS) (x1 x2 x3 x4 y0 : Int32) : (b_X11_reasonOfMove_a415 S x1 x2 x3 x4 y0).2 = S := by
  unfold b_X11_reasonOfMove_a415
  (repeat' (with_reducible refine ite_s ?_ ?_)) <;> simp only [sb_X11_reasonOfMove_425, sb_X11_reasonOfMove_424]
theorem sb_X11_reasonOfMove_411 (S : HS) (x1 x2 x3 x4 : Int32) : (b_X11_reasonOfMove_411 S x1 x2 x3 x4).2 = S := by
  unfold b_X11_reasonOfMove_411
  (repeat' (with_reducible refine ite_s ?_ ?_)) <;> simp only [sb_X11_reasonOfMove_a415, sf_X11_free]
theorem sb_X11_reasonOfMove_395 (S : HS) (x1 x2 x3 x4 : Int32) : (b_X11_reasonOfMove_395 S x1 x2 x3 x4).2 = S := by
  unfold b_X11_reasonOfMove_395
  (repeat' (with_reducible refine ite_s ?_ ?_)) <;> simp only [sb_X11_reasonOfMove_411, sb_X11_reasonOfMove_424]
theorem sb_X11_reasonOfMove_a383 (S : HS) (x1 x2 x3 x4 x5 x6 y0 y1 y2 : Int32) : (b_X11_reasonOfMove_a383 S x1 x2 x3 x4 x5 x6 y0 y1 y2).2 = S := by
  unfold b_X11_reasonOfMove_a383
  (repeat' (with_reducible refine ite_s ?_ ?_)) <;> simp only [sb_X11_reasonOfMove_395]
theorem sb_X11_reasonOfMove_a374 (S : HS) (x1 x2 x3 x4 x5 x6 y0 y1 : Int32) : (b_X11_reasonOfMove_a374 S x1 x2 x3 x4 x5 x6 y0 y1).2 = S := by
  unfold b_X11_reasonOfMove_a374
  (repeat' (with_reducible refine ite_s ?_ ?_)) <;> simp only [sb_X11_reasonOfMove_a383, top_s]
theorem sb_X11_reasonOfMove_348 (S : HS) (x1 x2 x3 x4 x5 y0 : Int32) : (b_X11_reasonOfMove_348 S x1 x2 x3 x4 x5 y0).2 = S := by
  unfold b_X11_reasonOfMove_348
  (repeat' (with_reducible refine ite_s ?_ ?_)) <;> simp only [sb_X11_reasonOfMove_395, sb_X11_reasonOfMove_a374, top_s]
theorem sb_X11_reasonOfMove_a293 (S : HS) (x1 x2 x3 x4 y0 : Int32) : (b_X11_reasonOfMove_a293 S x1 x2 x3 x4 y0).2 = S := by
  unfold b_X11_reasonOfMove_a293
  (repeat' (with_reducible refine ite_s ?_ ?_)) <;> simp only [sb_X11_reasonOfMove_348]
theorem sb_X11_reasonOfMove_259 (S : HS) (x1 x2 x3 x4 : Int32) : (b_X11_reasonOfMove_259 S x1 x2 x3 x4).2 = S := by
  unfold b_X11_reasonOfMove_259
  (repeat' (with_reducible refine ite_s ?_ ?_)) <;> simp only [sb_X11_reasonOfMove_395, sb_X11_reasonOfMove_a293, top_s]
theorem sb_X11_reasonOfMove_257 (S : HS) (x1 x2 x3 x4 : Int32) : (b_X11_reasonOfMove_257 S x1 x2 x3 x4).2 = S := by
  unfold b_X11_reasonOfMove_257
  (repeat' (with_reducible refine ite_s ?_ ?_)) <;> rfl
theorem sb_X11_reasonOfMove_a253 (S : HS) (x1 x2 x3 x4 y0 y1 : Int32) : (b_X11_reasonOfMove_a253 S x1 x2 x3 x4 y0 y1).2 = S := by
  unfold b_X11_reasonOfMove_a253
  (repeat' (with_reducible refine ite_s ?_ ?_)) <;> simp only [sb_X11_reasonOfMove_259, sb_X11_reasonOfMove_257]
theorem sb_X11_reasonOfMove_239 (S : HS) (x1 x2 x3 x4 : Int32) : (b_X11_reasonOfMove_239 S x1 x2 x3 x4).2 = S := by
  unfold b_X11_reasonOfMove_239
  (repeat' (with_reducible refine ite_s ?_ ?_)) <;> simp only [sb_X11_reasonOfMove_a253, top_s]
theorem sb_X11_reasonOfMove_a235 (S : HS) (x1 x2 x3 x4 y0 y1 : Int32) : (b_X11_reasonOfMove_a235 S x1 x2 x3 x4 y0 y1).2 = S := by
  unfold b_X11_reasonOfMove_a235
  (repeat' (with_reducible refine ite_s ?_ ?_)) <;> simp only [sb_X11_reasonOfMove_239, sb_X11_reasonOfMove_257]
theorem sb_X11_reasonOfMove_196 (S : HS) (x1 x2 x3 y0 : Int32) : (b_X11_reasonOfMove_196 S x1 x2 x3 y0).2 = S := by
  unfold b_X11_reasonOfMove_196
  (repeat' (with_reducible refine ite_s ?_ ?_)) <;> simp only [sb_X11_reasonOfMove_259, sb_X11_reasonOfMove_239, sb_X11_reasonOfMove_a235, top_s, sb_X11_reasonOfMove_257]
theorem sb_X11_reasonOfMove_191 (S : HS) (x1 x2 x3 : Int32) : (b_X11_reasonOfMove_191 S x1 x2 x3).2 = S := by
  unfold b_X11_reasonOfMove_191
  (repeat' (with_reducible refine ite_s ?_ ?_)) <;> simp only [sb_X11_reasonOfMove_196]
theorem sb_X11_reasonOfMove_195 (S : HS) (x1 x2 x3 : Int32) : (b_X11_reasonOfMove_195 S x1 x2 x3).2 = S := by
  unfold b_X11_reasonOfMove_195
  (repeat' (with_reducible refine ite_s ?_ ?_)) <;> simp only [sb_X11_reasonOfMove_196]
theorem sb_X11_reasonOfMove_161 (S : HS) (x1 x2 x3 : Int32) : (b_X11_reasonOfMove_161 S x1 x2 x3).2 = S := by
  unfold b_X11_reasonOfMove_161
  (repeat' (with_reducible refine ite_s ?_ ?_)) <;> simp only [sb_X11_reasonOfMove_191, sb_X11_reasonOfMove_195]
theorem sb_X11_reasonOfMove_a156 (S : HS) (x1 x2 x3 y0 : Int32) : (b_X11_reasonOfMove_a156 S x1 x2 x3 y0).2 = S := by
  unfold b_X11_reasonOfMove_a156
  (repeat' (with_reducible refine ite_s ?_ ?_)) <;> simp only [sb_X11_reasonOfMove_161]
theorem sb_X11_reasonOfMove_127 (S : HS) (x1 x2 x3 : Int32) : (b_X11_reasonOfMove_127 S x1 x2 x3).2 = S := by
  unfold b_X11_reasonOfMove_127
  (repeat' (with_reducible refine ite_s ?_ ?_)) <;> simp only [sb_X11_reasonOfMove_143, sb_X11_reasonOfMove_161, sb_X11_reasonOfMove_a156, seconder_s]
theorem move_l (S : HS) (x1 x2 x3 : Int32) : ∀ (n : Nat) (x4 x : Int32), (lp_X11_reasonOfMove_70 n S x1 x2 x3 x4 x).2 = S := by
  intro n
  induction n with
  | zero => intro x4 x; rfl
  | succ n ih =>
    intro x4 x
    rw [lp_X11_reasonOfMove_70]
    unfold st_X11_reasonOfMove_70
    by_cases c : S.1 6 ≤ x
    · rw [if_pos c]
      dsimp only
      split
      · rfl
      split
      · exact sb_X11_reasonOfMove_127 S x1 x2 x3
      · rfl
    rw [if_neg c]
    by_cases z : x4 = 0
    · rw [if_pos z]
      by_cases y : S.2 14 (S.2 31 x.toNatClampNeg).toNatClampNeg < x3
      · rw [if_pos y]
        exact ih _ _
      · rw [if_neg y]
        exact ih _ _
    · rw [if_neg z]
      exact ih _ _
theorem sb_X11_reasonOfMove_a59 (S : HS) (x1 x2 x3 y0 : Int32) : (b_X11_reasonOfMove_a59 S x1 x2 x3 y0).2 = S := by
  unfold b_X11_reasonOfMove_a59
  (repeat' (with_reducible refine ite_s ?_ ?_)) <;> simp only [sb_X11_reasonOfMove_127]
theorem sb_X11_reasonOfMove_34 (S : HS) (x1 x2 y0 : Int32) : (b_X11_reasonOfMove_34 S x1 x2 y0).2 = S := by
  unfold b_X11_reasonOfMove_34
  (repeat' (with_reducible refine ite_s ?_ ?_)) <;> simp only [sb_X11_reasonOfMove_127, move_l, sb_X11_reasonOfMove_a59, isAbout_s]
theorem sf_X11_reasonOfMove (S : HS) (x1 : Int32) : (f_X11_reasonOfMove S x1).2 = S := by
  unfold f_X11_reasonOfMove
  (repeat' (with_reducible refine ite_s ?_ ?_)) <;> simp only [sb_X11_reasonOfMove_34]
theorem sb_X11_reason_128 (S : HS) (x1 x2 x3 x4 x5 y0 : Int32) : (b_X11_reason_128 S x1 x2 x3 x4 x5 y0).2 = S := by
  unfold b_X11_reason_128
  (repeat' (with_reducible refine ite_s ?_ ?_)) <;> rfl
theorem sb_X11_reason_a105 (S : HS) (x1 x2 x3 x4 x5 y0 : Int32) : (b_X11_reason_a105 S x1 x2 x3 x4 x5 y0).2 = S := by
  unfold b_X11_reason_a105
  (repeat' (with_reducible refine ite_s ?_ ?_)) <;> simp only [sb_X11_reason_128]
theorem sb_X11_reason_157 (S : HS) (x1 x2 x3 x4 x5 y0 : Int32) : (b_X11_reason_157 S x1 x2 x3 x4 x5 y0).2 = S := by
  unfold b_X11_reason_157
  (repeat' (with_reducible refine ite_s ?_ ?_)) <;> rfl
theorem sb_X11_reason_a134 (S : HS) (x1 x2 x3 x4 x5 y0 : Int32) : (b_X11_reason_a134 S x1 x2 x3 x4 x5 y0).2 = S := by
  unfold b_X11_reason_a134
  (repeat' (with_reducible refine ite_s ?_ ?_)) <;> simp only [sb_X11_reason_157]
theorem sb_X11_reason_129 (S : HS) (x1 x2 x3 x4 x5 : Int32) : (b_X11_reason_129 S x1 x2 x3 x4 x5).2 = S := by
  unfold b_X11_reason_129
  (repeat' (with_reducible refine ite_s ?_ ?_)) <;> simp only [sb_X11_reason_a134, seat_t]
theorem sb_X11_reason_187 (S : HS) (x1 x2 x3 x4 x5 y0 : Int32) : (b_X11_reason_187 S x1 x2 x3 x4 x5 y0).2 = S := by
  unfold b_X11_reason_187
  (repeat' (with_reducible refine ite_s ?_ ?_)) <;> rfl
theorem sb_X11_reason_225 (S : HS) (x1 x2 x3 x4 x5 y0 : Int32) : (b_X11_reason_225 S x1 x2 x3 x4 x5 y0).2 = S := by
  unfold b_X11_reason_225
  (repeat' (with_reducible refine ite_s ?_ ?_)) <;> rfl
theorem sb_X11_reason_207 (S : HS) (x1 x2 x3 x4 x5 : Int32) : (b_X11_reason_207 S x1 x2 x3 x4 x5).2 = S := by
  unfold b_X11_reason_207
  (repeat' (with_reducible refine ite_s ?_ ?_)) <;> simp only [sb_X11_reason_225]
theorem sb_X11_reason_254 (S : HS) (x1 x2 x3 x4 x5 y0 : Int32) : (b_X11_reason_254 S x1 x2 x3 x4 x5 y0).2 = S := by
  unfold b_X11_reason_254
  (repeat' (with_reducible refine ite_s ?_ ?_)) <;> rfl
theorem sb_X11_reason_294 (S : HS) (x1 x2 x3 x4 x5 : Int32) : (b_X11_reason_294 S x1 x2 x3 x4 x5).2 = S := by
  unfold b_X11_reason_294
  (repeat' (with_reducible refine ite_s ?_ ?_)) <;> rfl
theorem sb_X11_reason_360 (S : HS) (x1 x2 x3 x4 x5 y0 : Int32) : (b_X11_reason_360 S x1 x2 x3 x4 x5 y0).2 = S := by
  unfold b_X11_reason_360
  (repeat' (with_reducible refine ite_s ?_ ?_)) <;> rfl
theorem sb_X11_reason_354 (S : HS) (x1 x2 x3 x4 x5 : Int32) : (b_X11_reason_354 S x1 x2 x3 x4 x5).2 = S := by
  unfold b_X11_reason_354
  (repeat' (with_reducible refine ite_s ?_ ?_)) <;> simp only [sb_X11_reason_360]
theorem sb_X11_reason_359 (S : HS) (x1 x2 x3 x4 x5 : Int32) : (b_X11_reason_359 S x1 x2 x3 x4 x5).2 = S := by
  unfold b_X11_reason_359
  (repeat' (with_reducible refine ite_s ?_ ?_)) <;> simp only [sb_X11_reason_360]
theorem sb_X11_reason_a346 (S : HS) (x1 x2 x3 x4 x5 y0 : Int32) : (b_X11_reason_a346 S x1 x2 x3 x4 x5 y0).2 = S := by
  unfold b_X11_reason_a346
  (repeat' (with_reducible refine ite_s ?_ ?_)) <;> simp only [sb_X11_reason_359, sb_X11_reason_354]
theorem sb_X11_reason_a327 (S : HS) (x1 x2 x3 x4 x5 y0 : Int32) : (b_X11_reason_a327 S x1 x2 x3 x4 x5 y0).2 = S := by
  unfold b_X11_reason_a327
  (repeat' (with_reducible refine ite_s ?_ ?_)) <;> simp only [sb_X11_reason_359, sb_X11_reason_a346, top_s, sb_X11_reason_354]
theorem sb_X11_reason_a313 (S : HS) (x1 x2 x3 x4 x5 y0 : Int32) : (b_X11_reason_a313 S x1 x2 x3 x4 x5 y0).2 = S := by
  unfold b_X11_reason_a313
  (repeat' (with_reducible refine ite_s ?_ ?_)) <;> simp only [sb_X11_reason_354, sb_X11_reason_a327, top_s]
theorem sb_X11_reason_a260 (S : HS) (x1 x2 x3 x4 x5 y0 : Int32) : (b_X11_reason_a260 S x1 x2 x3 x4 x5 y0).2 = S := by
  unfold b_X11_reason_a260
  (repeat' (with_reducible refine ite_s ?_ ?_)) <;> simp only [sb_X11_reason_294, sb_X11_reason_a313, top_s]
theorem sb_X11_reason_374 (S : HS) (x1 x2 x3 x4 x5 y0 : Int32) : (b_X11_reason_374 S x1 x2 x3 x4 x5 y0).2 = S := by
  unfold b_X11_reason_374
  (repeat' (with_reducible refine ite_s ?_ ?_)) <;> rfl
theorem sb_X11_reason_401 (S : HS) (x1 x2 x3 x4 x5 : Int32) : (b_X11_reason_401 S x1 x2 x3 x4 x5).2 = S := by
  unfold b_X11_reason_401
  (repeat' (with_reducible refine ite_s ?_ ?_)) <;> rfl
theorem sb_X11_reason_437 (S : HS) (x1 x2 x3 x4 x5 y0 : Int32) : (b_X11_reason_437 S x1 x2 x3 x4 x5 y0).2 = S := by
  unfold b_X11_reason_437
  (repeat' (with_reducible refine ite_s ?_ ?_)) <;> rfl
theorem sb_X11_reason_a420 (S : HS) (x1 x2 x3 x4 x5 y0 : Int32) : (b_X11_reason_a420 S x1 x2 x3 x4 x5 y0).2 = S := by
  unfold b_X11_reason_a420
  (repeat' (with_reducible refine ite_s ?_ ?_)) <;> simp only [sb_X11_reason_437]
theorem sb_X11_reason_a407 (S : HS) (x1 x2 x3 x4 x5 y0 : Int32) : (b_X11_reason_a407 S x1 x2 x3 x4 x5 y0).2 = S := by
  unfold b_X11_reason_a407
  (repeat' (with_reducible refine ite_s ?_ ?_)) <;> simp only [sb_X11_reason_a420, top_s]
theorem sb_X11_reason_454 (S : HS) (x1 x2 x3 x4 x5 y0 : Int32) : (b_X11_reason_454 S x1 x2 x3 x4 x5 y0).2 = S := by
  unfold b_X11_reason_454
  (repeat' (with_reducible refine ite_s ?_ ?_)) <;> rfl
theorem sb_X11_reason_516 (S : HS) (x1 x2 x3 x4 x5 y0 : Int32) : (b_X11_reason_516 S x1 x2 x3 x4 x5 y0).2 = S := by
  unfold b_X11_reason_516
  (repeat' (with_reducible refine ite_s ?_ ?_)) <;> rfl
theorem sb_X11_reason_478 (S : HS) (x1 x2 x3 x4 x5 : Int32) : (b_X11_reason_478 S x1 x2 x3 x4 x5).2 = S := by
  unfold b_X11_reason_478
  (repeat' (with_reducible refine ite_s ?_ ?_)) <;> simp only [sb_X11_reason_516]
theorem sb_X11_reason_510 (S : HS) (x1 x2 x3 x4 x5 : Int32) : (b_X11_reason_510 S x1 x2 x3 x4 x5).2 = S := by
  unfold b_X11_reason_510
  (repeat' (with_reducible refine ite_s ?_ ?_)) <;> simp only [sb_X11_reason_516]
theorem sb_X11_reason_a461 (S : HS) (x1 x2 x3 x4 x5 y0 : Int32) : (b_X11_reason_a461 S x1 x2 x3 x4 x5 y0).2 = S := by
  unfold b_X11_reason_a461
  (repeat' (with_reducible refine ite_s ?_ ?_)) <;> simp only [sb_X11_reason_478, sb_X11_reason_510, sb_X11_reason_516]
theorem sb_X11_reason_a527 (S : HS) (x1 x2 x3 x4 x5 y0 : Int32) : (b_X11_reason_a527 S x1 x2 x3 x4 x5 y0).2 = S := by
  unfold b_X11_reason_a527
  (repeat' (with_reducible refine ite_s ?_ ?_)) <;> rfl
theorem sb_X11_reason_a533 (S : HS) (x1 x2 x3 x4 x5 y0 : Int32) : (b_X11_reason_a533 S x1 x2 x3 x4 x5 y0).2 = S := by
  unfold b_X11_reason_a533
  (repeat' (with_reducible refine ite_s ?_ ?_)) <;> rfl
theorem sb_X11_reason_571 (S : HS) (x1 x2 x3 x4 x5 y0 : Int32) : (b_X11_reason_571 S x1 x2 x3 x4 x5 y0).2 = S := by
  unfold b_X11_reason_571
  (repeat' (with_reducible refine ite_s ?_ ?_)) <;> rfl
theorem sb_X11_reason_565 (S : HS) (x1 x2 x3 x4 x5 : Int32) : (b_X11_reason_565 S x1 x2 x3 x4 x5).2 = S := by
  unfold b_X11_reason_565
  (repeat' (with_reducible refine ite_s ?_ ?_)) <;> simp only [sb_X11_reason_571]
theorem sb_X11_reason_a577 (S : HS) (x1 x2 x3 x4 x5 y0 : Int32) : (b_X11_reason_a577 S x1 x2 x3 x4 x5 y0).2 = S := by
  unfold b_X11_reason_a577
  (repeat' (with_reducible refine ite_s ?_ ?_)) <;> rfl
theorem sb_X11_reason_632 (S : HS) (x1 x2 x3 x4 x5 : Int32) : (b_X11_reason_632 S x1 x2 x3 x4 x5).2 = S := by
  unfold b_X11_reason_632
  (repeat' (with_reducible refine ite_s ?_ ?_)) <;> rfl
theorem sb_X11_reason_660 (S : HS) (x1 x2 x3 x4 x5 y0 : Int32) : (b_X11_reason_660 S x1 x2 x3 x4 x5 y0).2 = S := by
  unfold b_X11_reason_660
  (repeat' (with_reducible refine ite_s ?_ ?_)) <;> rfl
theorem sb_X11_reason_655 (S : HS) (x1 x2 x3 x4 x5 : Int32) : (b_X11_reason_655 S x1 x2 x3 x4 x5).2 = S := by
  unfold b_X11_reason_655
  (repeat' (with_reducible refine ite_s ?_ ?_)) <;> simp only [sb_X11_reason_660]
theorem sb_X11_reason_a643 (S : HS) (x1 x2 x3 x4 x5 y0 y1 : Int32) : (b_X11_reason_a643 S x1 x2 x3 x4 x5 y0 y1).2 = S := by
  unfold b_X11_reason_a643
  (repeat' (with_reducible refine ite_s ?_ ?_)) <;> simp only [sb_X11_reason_655, sb_X11_reason_660]
theorem sb_X11_reason_a626 (S : HS) (x1 x2 x3 x4 x5 y0 : Int32) : (b_X11_reason_a626 S x1 x2 x3 x4 x5 y0).2 = S := by
  unfold b_X11_reason_a626
  (repeat' (with_reducible refine ite_s ?_ ?_)) <;> simp only [sb_X11_reason_632, sb_X11_reason_a643, top_s]
theorem sb_X11_reason_a615 (S : HS) (x1 x2 x3 x4 x5 y0 : Int32) : (b_X11_reason_a615 S x1 x2 x3 x4 x5 y0).2 = S := by
  unfold b_X11_reason_a615
  (repeat' (with_reducible refine ite_s ?_ ?_)) <;> simp only [sb_X11_reason_a626, top_s, sb_X11_reason_632]
theorem sb_X11_reason_a593 (S : HS) (x1 x2 x3 x4 x5 y0 : Int32) : (b_X11_reason_a593 S x1 x2 x3 x4 x5 y0).2 = S := by
  unfold b_X11_reason_a593
  (repeat' (with_reducible refine ite_s ?_ ?_)) <;> simp only [sb_X11_reason_a615, seconder_s]
theorem sb_X11_reason_688 (S : HS) (x1 x2 x3 x4 x5 : Int32) : (b_X11_reason_688 S x1 x2 x3 x4 x5).2 = S := by
  unfold b_X11_reason_688
  (repeat' (with_reducible refine ite_s ?_ ?_)) <;> rfl
theorem sb_X11_reason_715 (S : HS) (x1 x2 x3 x4 x5 y0 : Int32) : (b_X11_reason_715 S x1 x2 x3 x4 x5 y0).2 = S := by
  unfold b_X11_reason_715
  (repeat' (with_reducible refine ite_s ?_ ?_)) <;> rfl
theorem sb_X11_reason_a707 (S : HS) (x1 x2 x3 x4 x5 y0 : Int32) : (b_X11_reason_a707 S x1 x2 x3 x4 x5 y0).2 = S := by
  unfold b_X11_reason_a707
  (repeat' (with_reducible refine ite_s ?_ ?_)) <;> simp only [sb_X11_reason_715]
theorem sb_X11_reason_a676 (S : HS) (x1 x2 x3 x4 x5 y0 : Int32) : (b_X11_reason_a676 S x1 x2 x3 x4 x5 y0).2 = S := by
  unfold b_X11_reason_a676
  (repeat' (with_reducible refine ite_s ?_ ?_)) <;> simp only [sb_X11_reason_688, sb_X11_reason_a707, seconder_s]
theorem sb_X11_reason_753 (S : HS) (x1 x2 x3 x4 x5 : Int32) : (b_X11_reason_753 S x1 x2 x3 x4 x5).2 = S := by
  unfold b_X11_reason_753
  (repeat' (with_reducible refine ite_s ?_ ?_)) <;> rfl
theorem sb_X11_reason_769 (S : HS) (x1 x2 x3 x4 x5 y0 : Int32) : (b_X11_reason_769 S x1 x2 x3 x4 x5 y0).2 = S := by
  unfold b_X11_reason_769
  (repeat' (with_reducible refine ite_s ?_ ?_)) <;> rfl
theorem sb_X11_reason_a760 (S : HS) (x1 x2 x3 x4 x5 y0 : Int32) : (b_X11_reason_a760 S x1 x2 x3 x4 x5 y0).2 = S := by
  unfold b_X11_reason_a760
  (repeat' (with_reducible refine ite_s ?_ ?_)) <;> simp only [sb_X11_reason_769]
theorem sb_X11_reason_a749 (S : HS) (x1 x2 x3 x4 x5 y0 y1 : Int32) : (b_X11_reason_a749 S x1 x2 x3 x4 x5 y0 y1).2 = S := by
  unfold b_X11_reason_a749
  (repeat' (with_reducible refine ite_s ?_ ?_)) <;> simp only [sb_X11_reason_a760, sf_X11_isHere, sb_X11_reason_753]
theorem sb_X11_reason_a734 (S : HS) (x1 x2 x3 x4 x5 y0 : Int32) : (b_X11_reason_a734 S x1 x2 x3 x4 x5 y0).2 = S := by
  unfold b_X11_reason_a734
  (repeat' (with_reducible refine ite_s ?_ ?_)) <;> simp only [sb_X11_reason_753, sb_X11_reason_a749, top_s]
theorem sb_X11_reason_826 (S : HS) (x1 x2 x3 x4 x5 y0 : Int32) : (b_X11_reason_826 S x1 x2 x3 x4 x5 y0).2 = S := by
  unfold b_X11_reason_826
  (repeat' (with_reducible refine ite_s ?_ ?_)) <;> rfl
theorem sb_X11_reason_a802 (S : HS) (x1 x2 x3 x4 x5 y0 : Int32) : (b_X11_reason_a802 S x1 x2 x3 x4 x5 y0).2 = S := by
  unfold b_X11_reason_a802
  (repeat' (with_reducible refine ite_s ?_ ?_)) <;> simp only [sb_X11_reason_826]
theorem sb_X11_reason_a778 (S : HS) (x1 x2 x3 x4 x5 y0 : Int32) : (b_X11_reason_a778 S x1 x2 x3 x4 x5 y0).2 = S := by
  unfold b_X11_reason_a778
  (repeat' (with_reducible refine ite_s ?_ ?_)) <;> simp only [sb_X11_reason_a802, top_s]
theorem sb_X11_reason_897 (S : HS) (x1 x2 x3 x4 x5 y0 : Int32) : (b_X11_reason_897 S x1 x2 x3 x4 x5 y0).2 = S := by
  unfold b_X11_reason_897
  (repeat' (with_reducible refine ite_s ?_ ?_)) <;> rfl
theorem sb_X11_reason_a866 (S : HS) (x1 x2 x3 x4 x5 y0 : Int32) : (b_X11_reason_a866 S x1 x2 x3 x4 x5 y0).2 = S := by
  unfold b_X11_reason_a866
  (repeat' (with_reducible refine ite_s ?_ ?_)) <;> simp only [sb_X11_reason_897]
theorem sb_X11_reason_858 (S : HS) (x1 x2 x3 x4 x5 : Int32) : (b_X11_reason_858 S x1 x2 x3 x4 x5).2 = S := by
  unfold b_X11_reason_858
  (repeat' (with_reducible refine ite_s ?_ ?_)) <;> rfl
theorem sb_X11_reason_a855 (S : HS) (x1 x2 x3 x4 x5 y0 : Int32) : (b_X11_reason_a855 S x1 x2 x3 x4 x5 y0).2 = S := by
  unfold b_X11_reason_a855
  (repeat' (with_reducible refine ite_s ?_ ?_)) <;> simp only [sb_X11_reason_a866, seat_t, sb_X11_reason_858]
theorem sb_X11_reason_a845 (S : HS) (x1 x2 x3 x4 x5 y0 : Int32) : (b_X11_reason_a845 S x1 x2 x3 x4 x5 y0).2 = S := by
  unfold b_X11_reason_a845
  (repeat' (with_reducible refine ite_s ?_ ?_)) <;> simp only [sb_X11_reason_a855, seconder_s, sb_X11_reason_858]
theorem sb_X11_reason_927 (S : HS) (x1 x2 x3 x4 x5 y0 : Int32) : (b_X11_reason_927 S x1 x2 x3 x4 x5 y0).2 = S := by
  unfold b_X11_reason_927
  (repeat' (with_reducible refine ite_s ?_ ?_)) <;> rfl
theorem sb_X11_reason_a906 (S : HS) (x1 x2 x3 x4 x5 y0 : Int32) : (b_X11_reason_a906 S x1 x2 x3 x4 x5 y0).2 = S := by
  unfold b_X11_reason_a906
  (repeat' (with_reducible refine ite_s ?_ ?_)) <;> simp only [sb_X11_reason_927]
theorem sb_X11_reason_945 (S : HS) (x1 x2 x3 x4 x5 y0 : Int32) : (b_X11_reason_945 S x1 x2 x3 x4 x5 y0).2 = S := by
  unfold b_X11_reason_945
  (repeat' (with_reducible refine ite_s ?_ ?_)) <;> rfl
theorem sb_X11_reason_a936 (S : HS) (x1 x2 x3 x4 x5 y0 : Int32) : (b_X11_reason_a936 S x1 x2 x3 x4 x5 y0).2 = S := by
  unfold b_X11_reason_a936
  (repeat' (with_reducible refine ite_s ?_ ?_)) <;> simp only [sb_X11_reason_945]
theorem sf_X11_reason (S : HS) (x1 x2 x3 x4 x5 : Int32) : (f_X11_reason S x1 x2 x3 x4 x5).2 = S := by
  unfold f_X11_reason
  (repeat' (with_reducible refine ite_s ?_ ?_)) <;> simp only [sb_X11_reason_a105, seat_t, sb_X11_reason_129, sb_X11_reason_187, sb_X11_reason_207, sb_X11_reason_225, sb_X11_reason_254, sb_X11_reason_a260, sb_X11_reason_374, sb_X11_reason_401, sb_X11_reason_a407, seconder_s, sb_X11_reason_454, sb_X11_reason_a461, hasDraft_s, sb_X11_reason_a527, sf_X11_reasonOfWord, sb_X11_reason_a533, sf_X11_reasonOfLay, sb_X11_reason_571, sb_X11_reason_565, sb_X11_reason_a577, sf_X11_reasonOfMove, sb_X11_reason_a593, sb_X11_reason_a676, sb_X11_reason_a734, top_s, sb_X11_reason_a778, sf_X11_isHere, sb_X11_reason_a845, sb_X11_reason_a906, sb_X11_reason_a936]
end
section
/-! ===== the reasons are not negative ===== -/
def NN (r : Int32 × HS) : Prop := (0 : Int32) ≤ r.1
theorem nn {k : Int32} (q : (0 : Int32) ≤ k) (S : HS) : NN (k, S) := q
theorem ite_n {c : Prop} [Decidable c] {x y : Int32 × HS} (h1 : NN x) (h2 : NN y) : NN (if c then x else y) := by
  split
  · exact h1
  · exact h2
theorem nb_X11_reasonOfWord_23 (S : HS) (x1 x2 x3 x4 : Int32) : NN (b_X11_reasonOfWord_23 S x1 x2 x3 x4) := by
  unfold b_X11_reasonOfWord_23
  (repeat' (with_reducible refine ite_n ?_ ?_)) <;> first | (with_reducible refine nn ?_ _; decide)
theorem nb_X11_reasonOfWord_68 (S : HS) (x1 x2 x3 x4 : Int32) : NN (b_X11_reasonOfWord_68 S x1 x2 x3 x4) := by
  unfold b_X11_reasonOfWord_68
  (repeat' (with_reducible refine ite_n ?_ ?_)) <;> first | (with_reducible refine nn ?_ _; decide)
theorem nb_X11_reasonOfWord_102 (S : HS) (x1 x2 x3 x4 y0 y1 : Int32) : NN (b_X11_reasonOfWord_102 S x1 x2 x3 x4 y0 y1) := by
  unfold b_X11_reasonOfWord_102 b_X11_reasonOfWord_131
  (repeat' (with_reducible refine ite_n ?_ ?_)) <;> first | (with_reducible refine nn ?_ _; decide)
theorem nb_X11_reasonOfWord_91 (S : HS) (x1 x2 x3 x4 y0 y1 : Int32) : NN (b_X11_reasonOfWord_91 S x1 x2 x3 x4 y0 y1) := by
  unfold b_X11_reasonOfWord_91
  (repeat' (with_reducible refine ite_n ?_ ?_)) <;> first | with_reducible exact nb_X11_reasonOfWord_102 _ _ _ _ _ _ _ | (with_reducible refine nn ?_ _; decide)
theorem nb_X11_reasonOfWord_81 (S : HS) (x1 x2 x3 x4 y0 y1 : Int32) : NN (b_X11_reasonOfWord_81 S x1 x2 x3 x4 y0 y1) := by
  unfold b_X11_reasonOfWord_81
  (repeat' (with_reducible refine ite_n ?_ ?_)) <;> first | with_reducible exact nb_X11_reasonOfWord_91 _ _ _ _ _ _ _ | (with_reducible refine nn ?_ _; decide)
theorem nb_X11_reasonOfWord_71 (S : HS) (x1 x2 x3 x4 : Int32) : NN (b_X11_reasonOfWord_71 S x1 x2 x3 x4) := by
  unfold b_X11_reasonOfWord_71
  (repeat' (with_reducible refine ite_n ?_ ?_)) <;> first | with_reducible exact nb_X11_reasonOfWord_81 _ _ _ _ _ _ _ | (with_reducible refine nn ?_ _; decide)
theorem nb_X11_reasonOfWord_55 (S : HS) (x1 x2 x3 x4 : Int32) : NN (b_X11_reasonOfWord_55 S x1 x2 x3 x4) := by
  unfold b_X11_reasonOfWord_55
  (repeat' (with_reducible refine ite_n ?_ ?_)) <;> first | with_reducible exact nb_X11_reasonOfWord_71 _ _ _ _ _ | with_reducible exact nb_X11_reasonOfWord_68 _ _ _ _ _ | (with_reducible refine nn ?_ _; decide)
theorem nb_X11_reasonOfWord_44 (S : HS) (x1 x2 x3 x4 : Int32) : NN (b_X11_reasonOfWord_44 S x1 x2 x3 x4) := by
  unfold b_X11_reasonOfWord_44
  (repeat' (with_reducible refine ite_n ?_ ?_)) <;> first | with_reducible exact nb_X11_reasonOfWord_55 _ _ _ _ _ | with_reducible exact nb_X11_reasonOfWord_68 _ _ _ _ _ | (with_reducible refine nn ?_ _; decide)
theorem nb_X11_reasonOfWord_a6 (S : HS) (x1 x2 x3 x4 y0 : Int32) : NN (b_X11_reasonOfWord_a6 S x1 x2 x3 x4 y0) := by
  unfold b_X11_reasonOfWord_a6
  (repeat' (with_reducible refine ite_n ?_ ?_)) <;> first | with_reducible exact nb_X11_reasonOfWord_23 _ _ _ _ _ | with_reducible exact nb_X11_reasonOfWord_68 _ _ _ _ _ | with_reducible exact nb_X11_reasonOfWord_44 _ _ _ _ _ | (with_reducible refine nn ?_ _; decide)
theorem nf_X11_reasonOfWord (S : HS) (x1 x2 x3 x4 : Int32) : NN (f_X11_reasonOfWord S x1 x2 x3 x4) := by
  unfold f_X11_reasonOfWord
  (repeat' (with_reducible refine ite_n ?_ ?_)) <;> first | with_reducible exact nb_X11_reasonOfWord_a6 _ _ _ _ _ _ | (with_reducible refine nn ?_ _; decide)
theorem nb_X11_reasonOfLay_29 (S : HS) (x1 : Int32) : NN (b_X11_reasonOfLay_29 S x1) := by
  unfold b_X11_reasonOfLay_29
  (repeat' (with_reducible refine ite_n ?_ ?_)) <;> first | (with_reducible refine nn ?_ _; decide)
theorem nb_X11_reasonOfLay_120 (S : HS) (x1 : Int32) : NN (b_X11_reasonOfLay_120 S x1) := by
  unfold b_X11_reasonOfLay_120 b_X11_reasonOfLay_121
  (repeat' (with_reducible refine ite_n ?_ ?_)) <;> first | (with_reducible refine nn ?_ _; decide)
theorem nb_X11_reasonOfLay_a112 (S : HS) (x1 y0 : Int32) : NN (b_X11_reasonOfLay_a112 S x1 y0) := by
  unfold b_X11_reasonOfLay_a112 b_X11_reasonOfLay_121
  (repeat' (with_reducible refine ite_n ?_ ?_)) <;> first | with_reducible exact nb_X11_reasonOfLay_120 _ _ | (with_reducible refine nn ?_ _; decide)
theorem nb_X11_reasonOfLay_a104 (S : HS) (x1 y0 : Int32) : NN (b_X11_reasonOfLay_a104 S x1 y0) := by
  unfold b_X11_reasonOfLay_a104
  (repeat' (with_reducible refine ite_n ?_ ?_)) <;> first | with_reducible exact nb_X11_reasonOfLay_a112 _ _ _ | with_reducible exact nb_X11_reasonOfLay_120 _ _ | (with_reducible refine nn ?_ _; decide)
theorem nb_X11_reasonOfLay_100 (S : HS) (x1 : Int32) : NN (b_X11_reasonOfLay_100 S x1) := by
  unfold b_X11_reasonOfLay_100
  (repeat' (with_reducible refine ite_n ?_ ?_)) <;> first | with_reducible exact nb_X11_reasonOfLay_a104 _ _ _ | (with_reducible refine nn ?_ _; decide)
theorem nb_X11_reasonOfLay_a94 (S : HS) (x1 y0 y1 : Int32) : NN (b_X11_reasonOfLay_a94 S x1 y0 y1) := by
  unfold b_X11_reasonOfLay_a94
  (repeat' (with_reducible refine ite_n ?_ ?_)) <;> first | with_reducible exact nb_X11_reasonOfLay_100 _ _ | (with_reducible refine nn ?_ _; decide)
theorem nb_X11_reasonOfLay_a70 (S : HS) (x1 y0 : Int32) : NN (b_X11_reasonOfLay_a70 S x1 y0) := by
  unfold b_X11_reasonOfLay_a70
  (repeat' (with_reducible refine ite_n ?_ ?_)) <;> first | with_reducible exact nb_X11_reasonOfLay_a94 _ _ _ _ | (with_reducible refine nn ?_ _; decide)
theorem nb_X11_reasonOfLay_a38 (S : HS) (x1 y0 : Int32) : NN (b_X11_reasonOfLay_a38 S x1 y0) := by
  unfold b_X11_reasonOfLay_a38
  (repeat' (with_reducible refine ite_n ?_ ?_)) <;> first | with_reducible exact nb_X11_reasonOfLay_100 _ _ | with_reducible exact nb_X11_reasonOfLay_a70 _ _ _ | (with_reducible refine nn ?_ _; decide)
theorem nf_X11_reasonOfLay (S : HS) (x1 : Int32) : NN (f_X11_reasonOfLay S x1) := by
  unfold f_X11_reasonOfLay
  (repeat' (with_reducible refine ite_n ?_ ?_)) <;> first | with_reducible exact nb_X11_reasonOfLay_29 _ _ | with_reducible exact nb_X11_reasonOfLay_a38 _ _ _ | (with_reducible refine nn ?_ _; decide)
theorem nb_X11_reasonOfMove_143 (S : HS) (x1 x2 x3 : Int32) : NN (b_X11_reasonOfMove_143 S x1 x2 x3) := by
  unfold b_X11_reasonOfMove_143
  (repeat' (with_reducible refine ite_n ?_ ?_)) <;> first | (with_reducible refine nn ?_ _; decide)
theorem nb_X11_reasonOfMove_424 (S : HS) (x1 x2 x3 x4 : Int32) : NN (b_X11_reasonOfMove_424 S x1 x2 x3 x4) := by
  unfold b_X11_reasonOfMove_424 b_X11_reasonOfMove_425
  (repeat' (with_reducible refine ite_n ?_ ?_)) <;> first | (with_reducible refine nn ?_ _; decide)
theorem nb_X11_reasonOfMove_a415 (S : HS) (x1 x2 x3 x4 y0 : Int32) : NN (b_X11_reasonOfMove_a415 S x1 x2 x3 x4 y0) := by
  unfold b_X11_reasonOfMove_a415 b_X11_reasonOfMove_425
  (repeat' (with_reducible refine ite_n ?_ ?_)) <;> first | with_reducible exact nb_X11_reasonOfMove_424 _ _ _ _ _ | (with_reducible refine nn ?_ _; decide)
theorem nb_X11_reasonOfMove_411 (S : HS) (x1 x2 x3 x4 : Int32) : NN (b_X11_reasonOfMove_411 S x1 x2 x3 x4) := by
  unfold b_X11_reasonOfMove_411
  (repeat' (with_reducible refine ite_n ?_ ?_)) <;> first | with_reducible exact nb_X11_reasonOfMove_a415 _ _ _ _ _ _ | (with_reducible refine nn ?_ _; decide)
theorem nb_X11_reasonOfMove_395 (S : HS) (x1 x2 x3 x4 : Int32) : NN (b_X11_reasonOfMove_395 S x1 x2 x3 x4) := by
  unfold b_X11_reasonOfMove_395
  (repeat' (with_reducible refine ite_n ?_ ?_)) <;> first | with_reducible exact nb_X11_reasonOfMove_411 _ _ _ _ _ | with_reducible exact nb_X11_reasonOfMove_424 _ _ _ _ _ | (with_reducible refine nn ?_ _; decide)
theorem nb_X11_reasonOfMove_a383 (S : HS) (x1 x2 x3 x4 x5 x6 y0 y1 y2 : Int32) : NN (b_X11_reasonOfMove_a383 S x1 x2 x3 x4 x5 x6 y0 y1 y2) := by
  unfold b_X11_reasonOfMove_a383
  (repeat' (with_reducible refine ite_n ?_ ?_)) <;> first | with_reducible exact nb_X11_reasonOfMove_395 _ _ _ _ _ | (with_reducible refine nn ?_ _; decide)
theorem nb_X11_reasonOfMove_a374 (S : HS) (x1 x2 x3 x4 x5 x6 y0 y1 : Int32) : NN (b_X11_reasonOfMove_a374 S x1 x2 x3 x4 x5 x6 y0 y1) := by
  unfold b_X11_reasonOfMove_a374
  (repeat' (with_reducible refine ite_n ?_ ?_)) <;> first | with_reducible exact nb_X11_reasonOfMove_a383 _ _ _ _ _ _ _ _ _ _ | (with_reducible refine nn ?_ _; decide)
theorem nb_X11_reasonOfMove_348 (S : HS) (x1 x2 x3 x4 x5 y0 : Int32) : NN (b_X11_reasonOfMove_348 S x1 x2 x3 x4 x5 y0) := by
  unfold b_X11_reasonOfMove_348
  (repeat' (with_reducible refine ite_n ?_ ?_)) <;> first | with_reducible exact nb_X11_reasonOfMove_395 _ _ _ _ _ | with_reducible exact nb_X11_reasonOfMove_a374 _ _ _ _ _ _ _ _ _ | (with_reducible refine nn ?_ _; decide)
theorem nb_X11_reasonOfMove_a293 (S : HS) (x1 x2 x3 x4 y0 : Int32) : NN (b_X11_reasonOfMove_a293 S x1 x2 x3 x4 y0) := by
  unfold b_X11_reasonOfMove_a293
  (repeat' (with_reducible refine ite_n ?_ ?_)) <;> first | with_reducible exact nb_X11_reasonOfMove_348 _ _ _ _ _ _ _ | (with_reducible refine nn ?_ _; decide)
theorem nb_X11_reasonOfMove_259 (S : HS) (x1 x2 x3 x4 : Int32) : NN (b_X11_reasonOfMove_259 S x1 x2 x3 x4) := by
  unfold b_X11_reasonOfMove_259
  (repeat' (with_reducible refine ite_n ?_ ?_)) <;> first | with_reducible exact nb_X11_reasonOfMove_395 _ _ _ _ _ | with_reducible exact nb_X11_reasonOfMove_a293 _ _ _ _ _ _ | (with_reducible refine nn ?_ _; decide)
theorem nb_X11_reasonOfMove_257 (S : HS) (x1 x2 x3 x4 : Int32) : NN (b_X11_reasonOfMove_257 S x1 x2 x3 x4) := by
  unfold b_X11_reasonOfMove_257
  (repeat' (with_reducible refine ite_n ?_ ?_)) <;> first | (with_reducible refine nn ?_ _; decide)
theorem nb_X11_reasonOfMove_a253 (S : HS) (x1 x2 x3 x4 y0 y1 : Int32) : NN (b_X11_reasonOfMove_a253 S x1 x2 x3 x4 y0 y1) := by
  unfold b_X11_reasonOfMove_a253
  (repeat' (with_reducible refine ite_n ?_ ?_)) <;> first | with_reducible exact nb_X11_reasonOfMove_259 _ _ _ _ _ | with_reducible exact nb_X11_reasonOfMove_257 _ _ _ _ _ | (with_reducible refine nn ?_ _; decide)
theorem nb_X11_reasonOfMove_239 (S : HS) (x1 x2 x3 x4 : Int32) : NN (b_X11_reasonOfMove_239 S x1 x2 x3 x4) := by
  unfold b_X11_reasonOfMove_239
  (repeat' (with_reducible refine ite_n ?_ ?_)) <;> first | with_reducible exact nb_X11_reasonOfMove_a253 _ _ _ _ _ _ _ | (with_reducible refine nn ?_ _; decide)
theorem nb_X11_reasonOfMove_a235 (S : HS) (x1 x2 x3 x4 y0 y1 : Int32) : NN (b_X11_reasonOfMove_a235 S x1 x2 x3 x4 y0 y1) := by
  unfold b_X11_reasonOfMove_a235
  (repeat' (with_reducible refine ite_n ?_ ?_)) <;> first | with_reducible exact nb_X11_reasonOfMove_239 _ _ _ _ _ | with_reducible exact nb_X11_reasonOfMove_257 _ _ _ _ _ | (with_reducible refine nn ?_ _; decide)
theorem nb_X11_reasonOfMove_196 (S : HS) (x1 x2 x3 y0 : Int32) : NN (b_X11_reasonOfMove_196 S x1 x2 x3 y0) := by
  unfold b_X11_reasonOfMove_196
  (repeat' (with_reducible refine ite_n ?_ ?_)) <;> first | with_reducible exact nb_X11_reasonOfMove_259 _ _ _ _ _ | with_reducible exact nb_X11_reasonOfMove_239 _ _ _ _ _ | with_reducible exact nb_X11_reasonOfMove_a235 _ _ _ _ _ _ _ | with_reducible exact nb_X11_reasonOfMove_257 _ _ _ _ _ | (with_reducible refine nn ?_ _; decide)
theorem nb_X11_reasonOfMove_191 (S : HS) (x1 x2 x3 : Int32) : NN (b_X11_reasonOfMove_191 S x1 x2 x3) := by
  unfold b_X11_reasonOfMove_191
  (repeat' (with_reducible refine ite_n ?_ ?_)) <;> first | with_reducible exact nb_X11_reasonOfMove_196 _ _ _ _ _ | (with_reducible refine nn ?_ _; decide)
theorem nb_X11_reasonOfMove_195 (S : HS) (x1 x2 x3 : Int32) : NN (b_X11_reasonOfMove_195 S x1 x2 x3) := by
  unfold b_X11_reasonOfMove_195
  (repeat' (with_reducible refine ite_n ?_ ?_)) <;> first | with_reducible exact nb_X11_reasonOfMove_196 _ _ _ _ _ | (with_reducible refine nn ?_ _; decide)
theorem nb_X11_reasonOfMove_161 (S : HS) (x1 x2 x3 : Int32) : NN (b_X11_reasonOfMove_161 S x1 x2 x3) := by
  unfold b_X11_reasonOfMove_161
  (repeat' (with_reducible refine ite_n ?_ ?_)) <;> first | with_reducible exact nb_X11_reasonOfMove_191 _ _ _ _ | with_reducible exact nb_X11_reasonOfMove_195 _ _ _ _ | (with_reducible refine nn ?_ _; decide)
theorem nb_X11_reasonOfMove_a156 (S : HS) (x1 x2 x3 y0 : Int32) : NN (b_X11_reasonOfMove_a156 S x1 x2 x3 y0) := by
  unfold b_X11_reasonOfMove_a156
  (repeat' (with_reducible refine ite_n ?_ ?_)) <;> first | with_reducible exact nb_X11_reasonOfMove_161 _ _ _ _ | (with_reducible refine nn ?_ _; decide)
theorem nb_X11_reasonOfMove_127 (S : HS) (x1 x2 x3 : Int32) : NN (b_X11_reasonOfMove_127 S x1 x2 x3) := by
  unfold b_X11_reasonOfMove_127
  (repeat' (with_reducible refine ite_n ?_ ?_)) <;> first | with_reducible exact nb_X11_reasonOfMove_143 _ _ _ _ | with_reducible exact nb_X11_reasonOfMove_161 _ _ _ _ | with_reducible exact nb_X11_reasonOfMove_a156 _ _ _ _ _ | (with_reducible refine nn ?_ _; decide)
theorem move_n (S : HS) (x1 x2 x3 : Int32) : ∀ (n : Nat) (x4 x : Int32), NN (lp_X11_reasonOfMove_70 n S x1 x2 x3 x4 x) := by
  intro n
  induction n with
  | zero => intro x4 x; exact nn (by decide) S
  | succ n ih =>
    intro x4 x
    rw [lp_X11_reasonOfMove_70]
    unfold st_X11_reasonOfMove_70
    by_cases c : S.1 6 ≤ x
    · rw [if_pos c]
      dsimp only
      split
      · exact nn (by decide) S
      split
      · exact nb_X11_reasonOfMove_127 S x1 x2 x3
      · exact nn (by decide) S
    rw [if_neg c]
    by_cases z : x4 = 0
    · rw [if_pos z]
      by_cases y : S.2 14 (S.2 31 x.toNatClampNeg).toNatClampNeg < x3
      · rw [if_pos y]
        exact ih _ _
      · rw [if_neg y]
        exact ih _ _
    · rw [if_neg z]
      exact ih _ _
theorem nb_X11_reasonOfMove_a59 (S : HS) (x1 x2 x3 y0 : Int32) : NN (b_X11_reasonOfMove_a59 S x1 x2 x3 y0) := by
  unfold b_X11_reasonOfMove_a59
  (repeat' (with_reducible refine ite_n ?_ ?_)) <;> first | with_reducible exact nb_X11_reasonOfMove_127 _ _ _ _ | (with_reducible refine nn ?_ _; decide)
theorem nb_X11_reasonOfMove_34 (S : HS) (x1 x2 y0 : Int32) : NN (b_X11_reasonOfMove_34 S x1 x2 y0) := by
  unfold b_X11_reasonOfMove_34
  (repeat' (with_reducible refine ite_n ?_ ?_)) <;> first | with_reducible exact nb_X11_reasonOfMove_127 _ _ _ _ | with_reducible exact move_n _ _ _ _ _ _ _ | with_reducible exact nb_X11_reasonOfMove_a59 _ _ _ _ _ | (with_reducible refine nn ?_ _; decide)
theorem nf_X11_reasonOfMove (S : HS) (x1 : Int32) : NN (f_X11_reasonOfMove S x1) := by
  unfold f_X11_reasonOfMove
  (repeat' (with_reducible refine ite_n ?_ ?_)) <;> first | with_reducible exact nb_X11_reasonOfMove_34 _ _ _ _ | (with_reducible refine nn ?_ _; decide)
theorem nb_X11_reason_a105 (S : HS) (x1 x2 x3 x4 x5 y0 : Int32) : NN (b_X11_reason_a105 S x1 x2 x3 x4 x5 y0) := by
  unfold b_X11_reason_a105 b_X11_reason_128
  (repeat' (with_reducible refine ite_n ?_ ?_)) <;> first | (with_reducible refine nn ?_ _; decide)
theorem nb_X11_reason_a134 (S : HS) (x1 x2 x3 x4 x5 y0 : Int32) : NN (b_X11_reason_a134 S x1 x2 x3 x4 x5 y0) := by
  unfold b_X11_reason_a134 b_X11_reason_157
  (repeat' (with_reducible refine ite_n ?_ ?_)) <;> first | (with_reducible refine nn ?_ _; decide)
theorem nb_X11_reason_129 (S : HS) (x1 x2 x3 x4 x5 : Int32) : NN (b_X11_reason_129 S x1 x2 x3 x4 x5) := by
  unfold b_X11_reason_129
  (repeat' (with_reducible refine ite_n ?_ ?_)) <;> first | with_reducible exact nb_X11_reason_a134 _ _ _ _ _ _ _ | (with_reducible refine nn ?_ _; decide)
theorem nb_X11_reason_207 (S : HS) (x1 x2 x3 x4 x5 : Int32) : NN (b_X11_reason_207 S x1 x2 x3 x4 x5) := by
  unfold b_X11_reason_207 b_X11_reason_225
  (repeat' (with_reducible refine ite_n ?_ ?_)) <;> first | (with_reducible refine nn ?_ _; decide)
theorem nb_X11_reason_294 (S : HS) (x1 x2 x3 x4 x5 : Int32) : NN (b_X11_reason_294 S x1 x2 x3 x4 x5) := by
  unfold b_X11_reason_294
  (repeat' (with_reducible refine ite_n ?_ ?_)) <;> first | (with_reducible refine nn ?_ _; decide)
theorem nb_X11_reason_354 (S : HS) (x1 x2 x3 x4 x5 : Int32) : NN (b_X11_reason_354 S x1 x2 x3 x4 x5) := by
  unfold b_X11_reason_354 b_X11_reason_360
  (repeat' (with_reducible refine ite_n ?_ ?_)) <;> first | (with_reducible refine nn ?_ _; decide)
theorem nb_X11_reason_359 (S : HS) (x1 x2 x3 x4 x5 : Int32) : NN (b_X11_reason_359 S x1 x2 x3 x4 x5) := by
  unfold b_X11_reason_359 b_X11_reason_360
  (repeat' (with_reducible refine ite_n ?_ ?_)) <;> first | (with_reducible refine nn ?_ _; decide)
theorem nb_X11_reason_a346 (S : HS) (x1 x2 x3 x4 x5 y0 : Int32) : NN (b_X11_reason_a346 S x1 x2 x3 x4 x5 y0) := by
  unfold b_X11_reason_a346
  (repeat' (with_reducible refine ite_n ?_ ?_)) <;> first | with_reducible exact nb_X11_reason_359 _ _ _ _ _ _ | with_reducible exact nb_X11_reason_354 _ _ _ _ _ _ | (with_reducible refine nn ?_ _; decide)
theorem nb_X11_reason_a327 (S : HS) (x1 x2 x3 x4 x5 y0 : Int32) : NN (b_X11_reason_a327 S x1 x2 x3 x4 x5 y0) := by
  unfold b_X11_reason_a327
  (repeat' (with_reducible refine ite_n ?_ ?_)) <;> first | with_reducible exact nb_X11_reason_359 _ _ _ _ _ _ | with_reducible exact nb_X11_reason_a346 _ _ _ _ _ _ _ | with_reducible exact nb_X11_reason_354 _ _ _ _ _ _ | (with_reducible refine nn ?_ _; decide)
theorem nb_X11_reason_a313 (S : HS) (x1 x2 x3 x4 x5 y0 : Int32) : NN (b_X11_reason_a313 S x1 x2 x3 x4 x5 y0) := by
  unfold b_X11_reason_a313
  (repeat' (with_reducible refine ite_n ?_ ?_)) <;> first | with_reducible exact nb_X11_reason_354 _ _ _ _ _ _ | with_reducible exact nb_X11_reason_a327 _ _ _ _ _ _ _ | (with_reducible refine nn ?_ _; decide)
theorem nb_X11_reason_a260 (S : HS) (x1 x2 x3 x4 x5 y0 : Int32) : NN (b_X11_reason_a260 S x1 x2 x3 x4 x5 y0) := by
  unfold b_X11_reason_a260
  (repeat' (with_reducible refine ite_n ?_ ?_)) <;> first | with_reducible exact nb_X11_reason_294 _ _ _ _ _ _ | with_reducible exact nb_X11_reason_a313 _ _ _ _ _ _ _ | (with_reducible refine nn ?_ _; decide)
theorem nb_X11_reason_401 (S : HS) (x1 x2 x3 x4 x5 : Int32) : NN (b_X11_reason_401 S x1 x2 x3 x4 x5) := by
  unfold b_X11_reason_401
  (repeat' (with_reducible refine ite_n ?_ ?_)) <;> first | (with_reducible refine nn ?_ _; decide)
theorem nb_X11_reason_a420 (S : HS) (x1 x2 x3 x4 x5 y0 : Int32) : NN (b_X11_reason_a420 S x1 x2 x3 x4 x5 y0) := by
  unfold b_X11_reason_a420 b_X11_reason_437
  (repeat' (with_reducible refine ite_n ?_ ?_)) <;> first | (with_reducible refine nn ?_ _; decide)
theorem nb_X11_reason_a407 (S : HS) (x1 x2 x3 x4 x5 y0 : Int32) : NN (b_X11_reason_a407 S x1 x2 x3 x4 x5 y0) := by
  unfold b_X11_reason_a407
  (repeat' (with_reducible refine ite_n ?_ ?_)) <;> first | with_reducible exact nb_X11_reason_a420 _ _ _ _ _ _ _ | (with_reducible refine nn ?_ _; decide)
theorem nb_X11_reason_478 (S : HS) (x1 x2 x3 x4 x5 : Int32) : NN (b_X11_reason_478 S x1 x2 x3 x4 x5) := by
  unfold b_X11_reason_478 b_X11_reason_516
  (repeat' (with_reducible refine ite_n ?_ ?_)) <;> first | (with_reducible refine nn ?_ _; decide)
theorem nb_X11_reason_510 (S : HS) (x1 x2 x3 x4 x5 : Int32) : NN (b_X11_reason_510 S x1 x2 x3 x4 x5) := by
  unfold b_X11_reason_510 b_X11_reason_516
  (repeat' (with_reducible refine ite_n ?_ ?_)) <;> first | (with_reducible refine nn ?_ _; decide)
theorem nb_X11_reason_a461 (S : HS) (x1 x2 x3 x4 x5 y0 : Int32) : NN (b_X11_reason_a461 S x1 x2 x3 x4 x5 y0) := by
  unfold b_X11_reason_a461 b_X11_reason_516
  (repeat' (with_reducible refine ite_n ?_ ?_)) <;> first | with_reducible exact nb_X11_reason_478 _ _ _ _ _ _ | with_reducible exact nb_X11_reason_510 _ _ _ _ _ _ | (with_reducible refine nn ?_ _; decide)
theorem nb_X11_reason_565 (S : HS) (x1 x2 x3 x4 x5 : Int32) : NN (b_X11_reason_565 S x1 x2 x3 x4 x5) := by
  unfold b_X11_reason_565 b_X11_reason_571
  (repeat' (with_reducible refine ite_n ?_ ?_)) <;> first | (with_reducible refine nn ?_ _; decide)
theorem nb_X11_reason_632 (S : HS) (x1 x2 x3 x4 x5 : Int32) : NN (b_X11_reason_632 S x1 x2 x3 x4 x5) := by
  unfold b_X11_reason_632
  (repeat' (with_reducible refine ite_n ?_ ?_)) <;> first | (with_reducible refine nn ?_ _; decide)
theorem nb_X11_reason_655 (S : HS) (x1 x2 x3 x4 x5 : Int32) : NN (b_X11_reason_655 S x1 x2 x3 x4 x5) := by
  unfold b_X11_reason_655 b_X11_reason_660
  (repeat' (with_reducible refine ite_n ?_ ?_)) <;> first | (with_reducible refine nn ?_ _; decide)
theorem nb_X11_reason_a643 (S : HS) (x1 x2 x3 x4 x5 y0 y1 : Int32) : NN (b_X11_reason_a643 S x1 x2 x3 x4 x5 y0 y1) := by
  unfold b_X11_reason_a643 b_X11_reason_660
  (repeat' (with_reducible refine ite_n ?_ ?_)) <;> first | with_reducible exact nb_X11_reason_655 _ _ _ _ _ _ | (with_reducible refine nn ?_ _; decide)
theorem nb_X11_reason_a626 (S : HS) (x1 x2 x3 x4 x5 y0 : Int32) : NN (b_X11_reason_a626 S x1 x2 x3 x4 x5 y0) := by
  unfold b_X11_reason_a626
  (repeat' (with_reducible refine ite_n ?_ ?_)) <;> first | with_reducible exact nb_X11_reason_632 _ _ _ _ _ _ | with_reducible exact nb_X11_reason_a643 _ _ _ _ _ _ _ _ | (with_reducible refine nn ?_ _; decide)
theorem nb_X11_reason_a615 (S : HS) (x1 x2 x3 x4 x5 y0 : Int32) : NN (b_X11_reason_a615 S x1 x2 x3 x4 x5 y0) := by
  unfold b_X11_reason_a615
  (repeat' (with_reducible refine ite_n ?_ ?_)) <;> first | with_reducible exact nb_X11_reason_a626 _ _ _ _ _ _ _ | with_reducible exact nb_X11_reason_632 _ _ _ _ _ _ | (with_reducible refine nn ?_ _; decide)
theorem nb_X11_reason_a593 (S : HS) (x1 x2 x3 x4 x5 y0 : Int32) : NN (b_X11_reason_a593 S x1 x2 x3 x4 x5 y0) := by
  unfold b_X11_reason_a593
  (repeat' (with_reducible refine ite_n ?_ ?_)) <;> first | with_reducible exact nb_X11_reason_a615 _ _ _ _ _ _ _ | (with_reducible refine nn ?_ _; decide)
theorem nb_X11_reason_688 (S : HS) (x1 x2 x3 x4 x5 : Int32) : NN (b_X11_reason_688 S x1 x2 x3 x4 x5) := by
  unfold b_X11_reason_688
  (repeat' (with_reducible refine ite_n ?_ ?_)) <;> first | (with_reducible refine nn ?_ _; decide)
theorem nb_X11_reason_a707 (S : HS) (x1 x2 x3 x4 x5 y0 : Int32) : NN (b_X11_reason_a707 S x1 x2 x3 x4 x5 y0) := by
  unfold b_X11_reason_a707 b_X11_reason_715
  (repeat' (with_reducible refine ite_n ?_ ?_)) <;> first | (with_reducible refine nn ?_ _; decide)
theorem nb_X11_reason_a676 (S : HS) (x1 x2 x3 x4 x5 y0 : Int32) : NN (b_X11_reason_a676 S x1 x2 x3 x4 x5 y0) := by
  unfold b_X11_reason_a676
  (repeat' (with_reducible refine ite_n ?_ ?_)) <;> first | with_reducible exact nb_X11_reason_688 _ _ _ _ _ _ | with_reducible exact nb_X11_reason_a707 _ _ _ _ _ _ _ | (with_reducible refine nn ?_ _; decide)
theorem nb_X11_reason_753 (S : HS) (x1 x2 x3 x4 x5 : Int32) : NN (b_X11_reason_753 S x1 x2 x3 x4 x5) := by
  unfold b_X11_reason_753
  (repeat' (with_reducible refine ite_n ?_ ?_)) <;> first | (with_reducible refine nn ?_ _; decide)
theorem nb_X11_reason_a760 (S : HS) (x1 x2 x3 x4 x5 y0 : Int32) : NN (b_X11_reason_a760 S x1 x2 x3 x4 x5 y0) := by
  unfold b_X11_reason_a760 b_X11_reason_769
  (repeat' (with_reducible refine ite_n ?_ ?_)) <;> first | (with_reducible refine nn ?_ _; decide)
theorem nb_X11_reason_a749 (S : HS) (x1 x2 x3 x4 x5 y0 y1 : Int32) : NN (b_X11_reason_a749 S x1 x2 x3 x4 x5 y0 y1) := by
  unfold b_X11_reason_a749
  (repeat' (with_reducible refine ite_n ?_ ?_)) <;> first | with_reducible exact nb_X11_reason_a760 _ _ _ _ _ _ _ | with_reducible exact nb_X11_reason_753 _ _ _ _ _ _ | (with_reducible refine nn ?_ _; decide)
theorem nb_X11_reason_a734 (S : HS) (x1 x2 x3 x4 x5 y0 : Int32) : NN (b_X11_reason_a734 S x1 x2 x3 x4 x5 y0) := by
  unfold b_X11_reason_a734
  (repeat' (with_reducible refine ite_n ?_ ?_)) <;> first | with_reducible exact nb_X11_reason_753 _ _ _ _ _ _ | with_reducible exact nb_X11_reason_a749 _ _ _ _ _ _ _ _ | (with_reducible refine nn ?_ _; decide)
theorem nb_X11_reason_a802 (S : HS) (x1 x2 x3 x4 x5 y0 : Int32) : NN (b_X11_reason_a802 S x1 x2 x3 x4 x5 y0) := by
  unfold b_X11_reason_a802 b_X11_reason_826
  (repeat' (with_reducible refine ite_n ?_ ?_)) <;> first | (with_reducible refine nn ?_ _; decide)
theorem nb_X11_reason_a778 (S : HS) (x1 x2 x3 x4 x5 y0 : Int32) : NN (b_X11_reason_a778 S x1 x2 x3 x4 x5 y0) := by
  unfold b_X11_reason_a778
  (repeat' (with_reducible refine ite_n ?_ ?_)) <;> first | with_reducible exact nb_X11_reason_a802 _ _ _ _ _ _ _ | (with_reducible refine nn ?_ _; decide)
theorem nb_X11_reason_a866 (S : HS) (x1 x2 x3 x4 x5 y0 : Int32) : NN (b_X11_reason_a866 S x1 x2 x3 x4 x5 y0) := by
  unfold b_X11_reason_a866 b_X11_reason_897
  (repeat' (with_reducible refine ite_n ?_ ?_)) <;> first | (with_reducible refine nn ?_ _; decide)
theorem nb_X11_reason_858 (S : HS) (x1 x2 x3 x4 x5 : Int32) : NN (b_X11_reason_858 S x1 x2 x3 x4 x5) := by
  unfold b_X11_reason_858
  (repeat' (with_reducible refine ite_n ?_ ?_)) <;> first | (with_reducible refine nn ?_ _; decide)
theorem nb_X11_reason_a855 (S : HS) (x1 x2 x3 x4 x5 y0 : Int32) : NN (b_X11_reason_a855 S x1 x2 x3 x4 x5 y0) := by
  unfold b_X11_reason_a855
  (repeat' (with_reducible refine ite_n ?_ ?_)) <;> first | with_reducible exact nb_X11_reason_a866 _ _ _ _ _ _ _ | with_reducible exact nb_X11_reason_858 _ _ _ _ _ _ | (with_reducible refine nn ?_ _; decide)
theorem nb_X11_reason_a845 (S : HS) (x1 x2 x3 x4 x5 y0 : Int32) : NN (b_X11_reason_a845 S x1 x2 x3 x4 x5 y0) := by
  unfold b_X11_reason_a845
  (repeat' (with_reducible refine ite_n ?_ ?_)) <;> first | with_reducible exact nb_X11_reason_a855 _ _ _ _ _ _ _ | with_reducible exact nb_X11_reason_858 _ _ _ _ _ _ | (with_reducible refine nn ?_ _; decide)
theorem nb_X11_reason_a906 (S : HS) (x1 x2 x3 x4 x5 y0 : Int32) : NN (b_X11_reason_a906 S x1 x2 x3 x4 x5 y0) := by
  unfold b_X11_reason_a906 b_X11_reason_927
  (repeat' (with_reducible refine ite_n ?_ ?_)) <;> first | (with_reducible refine nn ?_ _; decide)
theorem nb_X11_reason_a936 (S : HS) (x1 x2 x3 x4 x5 y0 : Int32) : NN (b_X11_reason_a936 S x1 x2 x3 x4 x5 y0) := by
  unfold b_X11_reason_a936 b_X11_reason_945
  (repeat' (with_reducible refine ite_n ?_ ?_)) <;> first | (with_reducible refine nn ?_ _; decide)
theorem nf_X11_reason (S : HS) (x1 x2 x3 x4 x5 : Int32) : NN (f_X11_reason S x1 x2 x3 x4 x5) := by
  unfold f_X11_reason b_X11_reason_187 b_X11_reason_225 b_X11_reason_254 b_X11_reason_374 b_X11_reason_454 b_X11_reason_a527 b_X11_reason_a533 b_X11_reason_571 b_X11_reason_a577
  (repeat' (with_reducible refine ite_n ?_ ?_)) <;> first | with_reducible exact nb_X11_reason_a105 _ _ _ _ _ _ _ | with_reducible exact nb_X11_reason_129 _ _ _ _ _ _ | with_reducible exact nb_X11_reason_207 _ _ _ _ _ _ | with_reducible exact nb_X11_reason_a260 _ _ _ _ _ _ _ | with_reducible exact nb_X11_reason_401 _ _ _ _ _ _ | with_reducible exact nb_X11_reason_a407 _ _ _ _ _ _ _ | with_reducible exact nb_X11_reason_a461 _ _ _ _ _ _ _ | with_reducible exact nb_X11_reason_565 _ _ _ _ _ _ | with_reducible exact nb_X11_reason_a593 _ _ _ _ _ _ _ | with_reducible exact nb_X11_reason_a676 _ _ _ _ _ _ _ | with_reducible exact nb_X11_reason_a734 _ _ _ _ _ _ _ | with_reducible exact nb_X11_reason_a778 _ _ _ _ _ _ _ | with_reducible exact nb_X11_reason_a845 _ _ _ _ _ _ _ | with_reducible exact nb_X11_reason_a906 _ _ _ _ _ _ _ | with_reducible exact nb_X11_reason_a936 _ _ _ _ _ _ _ | with_reducible exact nf_X11_reasonOfWord _ _ _ _ _ | with_reducible exact nf_X11_reasonOfLay _ _ | with_reducible exact nf_X11_reasonOfMove _ _ | (with_reducible refine nn ?_ _; decide)
end
section
/-! ===== act: from does ===== -/
theorem numbers_p (x : Int32) : p_X12_numbers x := by
  unfold p_X12_numbers
  repeat' split
  all_goals first | exact True.intro | skip
  refine ⟨in_p _ _ _, ?_⟩
  split <;> exact True.intro
theorem ent_in {e : Int32} (h : 0 ≤ e.toInt ∧ e.toInt < 600) {k : Int32} (hk : 0 ≤ k.toInt ∧ k.toInt ≤ 5) : vp_in (6 * e) 3600 ∧ vp_in (6 * e + k) 3600 := by
  have e6 : (6 : Int32).toInt = 6 := by decide
  have m := iMul (x := 6) (y := e) (n := 6 * e.toInt) (by rw [e6]) (by omega) (by omega)
  have a := iAdd (x := 6 * e) (y := k) (by rw [m]; omega) (by rw [m]; omega)
  rw [m] at a
  exact ⟨vIn (by omega) (by omega), vIn (by omega) (by omega)⟩
theorem act_101 (S : HS) (x1 x2 x3 x4 x5 x6 x7 x9 y0 : Int32) {e : Int32} (h : 0 ≤ e.toInt ∧ e.toInt < 600) : q_X11_act_101 S x1 x2 x3 x4 x5 x6 x7 (6 * e) x9 y0 (6 * e + 1) := by
  have k1 := (ent_in h (k := 1) (by decide)).2
  have k2 := (ent_in h (k := 2) (by decide)).2
  have k3 := (ent_in h (k := 3) (by decide)).2
  have k4 := (ent_in h (k := 4) (by decide)).2
  have k5 := (ent_in h (k := 5) (by decide)).2
  have a : ∀ S y, q_X11_act_163 S x1 x2 x3 x4 x5 x6 x7 (6 * e) x9 y (6 * e + 4) := fun S y => ⟨k4, k5, True.intro⟩
  have b : ∀ S y, q_X11_act_142 S x1 x2 x3 x4 x5 x6 x7 (6 * e) x9 y (6 * e + 3) := fun S y => by
    refine ⟨k3, ?_⟩
    split <;> exact a _ _
  have c : ∀ S y, q_X11_act_121 S x1 x2 x3 x4 x5 x6 x7 (6 * e) x9 y (6 * e + 2) := fun S y => by
    refine ⟨k2, ?_⟩
    split <;> exact b _ _
  refine ⟨k1, ?_⟩
  split <;> exact c _ _
theorem act_32 {S : HS} (x1 x2 x3 x4 x5 x6 : Int32) (hp : x6 ≤ 0 → (p_X11_does (sI S 10 x6) x1 x2 x3 x4 x5 ∧ 0 ≤ ((f_X11_does (sI S 10 x6) x1 x2 x3 x4 x5).2.1 7).toInt ∧ ((f_X11_does (sI S 10 x6) x1 x2 x3 x4 x5).2.1 7).toInt < 600)) : q_X11_act_32 S x1 x2 x3 x4 x5 x6 := by
  unfold q_X11_act_32
  split
  · rename_i z
    have d := hp z
    refine ⟨d.1, numbers_p _, (ent_in d.2 (k := 0) (by decide)).1, ?_⟩
    split <;> exact act_101 _ _ _ _ _ _ _ _ _ _ d.2
  · exact True.intro
/-- act returns, where its reason is read in a good state and what it does returns and leaves the count of entries below 600 -/
theorem act_p {S : HS} (h : RA S) (k : RK S) (x1 x2 x3 x4 x5 : Int32)
    (hp : (f_X11_reason S x1 x2 x3 x4 x5).1 = 0 → S.1 7 ≠ 600 → (p_X11_does (sI S 10 0) x1 x2 x3 x4 x5 ∧ 0 ≤ ((f_X11_does (sI S 10 0) x1 x2 x3 x4 x5).2.1 7).toInt ∧ ((f_X11_does (sI S 10 0) x1 x2 x3 x4 x5).2.1 7).toInt < 600)) : p_X11_act S x1 x2 x3 x4 x5 := by
  refine ⟨reasons_p h k _ _ _ _ _, ?_⟩
  rw [sf_X11_reason]
  have n := nf_X11_reason S x1 x2 x3 x4 x5
  unfold NN at n
  unfold q_X11_act_a11
  split
  · rename_i z
    split
    · exact act_32 _ _ _ _ _ _ (fun q => absurd q (by decide))
    · rename_i y
      rw [z]
      exact act_32 _ _ _ _ _ _ (fun _ => hp z y)
  · rename_i z
    refine act_32 _ _ _ _ _ _ (fun q => absurd (iEq.mpr ?_) z)
    have a := iLe.mp n
    have b := iLe.mp q
    omega
end
section
/-! ===== what acts do, piece by piece: every index lies in its row ===== -/
theorem i200 : (200 : Int32).toInt = 200 := by decide
/-- a slot's ballot of a seat -/
theorem bal_in {x y : Int32} (hx : 0 ≤ x.toInt ∧ x.toInt < 90) (hy : 0 ≤ y.toInt ∧ y.toInt < 200) : vp_in (200 * x + y) 18000 := by
  have m := iMul (x := 200) (y := x) (n := 200 * x.toInt) (by rw [i200]) (by omega) (by omega)
  have a := iAdd (x := 200 * x) (y := y) (by rw [m]; omega) (by rw [m]; omega)
  rw [m] at a
  exact vIn (by omega) (by omega)
theorem anew_q {x1 : Int32} (hx : 0 ≤ x1.toInt ∧ x1.toInt < 90) : ∀ (n : Nat) (S : HS) (x : Int32), 0 ≤ x.toInt → x.toInt ≤ 200 → 200 - x.toInt < n → lq_X11_anew_43 n S x1 x := by
  intro n
  induction n with
  | zero => intro S x h1 h2 h3; omega
  | succ n ih =>
    intro S x h1 h2 h3
    rw [lq_X11_anew_43]
    unfold ps_X11_anew_43 st_X11_anew_43
    by_cases c : 200 ≤ x
    · rw [if_pos c, if_pos c]
      exact ⟨True.intro, True.intro⟩
    · rw [if_neg c, if_neg c]
      have c := mt iLe.mpr c
      rw [i200] at c
      have e := iAdd (x := x) (y := 1) (by rw [i1]; omega) (by rw [i1]; omega)
      rw [i1] at e
      exact ⟨⟨bal_in hx ⟨h1, by omega⟩, True.intro⟩, ih _ (x + 1) (by omega) (by omega) (by omega)⟩
theorem anew_p (S : HS) {x1 : Int32} (hx : 0 ≤ x1.toInt ∧ x1.toInt < 90) : p_X11_anew S x1 :=
  ⟨vIn hx.1 hx.2, vIn hx.1 hx.2, vIn hx.1 hx.2, vIn hx.1 hx.2, anew_q hx 100000 _ 0 (by rw [i0]; omega) (by rw [i0]; omega) (by rw [i0]; omega)⟩
theorem voters_q {S : HS} (h : RA S) {x1 : Int32} (hx : 0 ≤ x1.toInt ∧ x1.toInt < 90) : ∀ (n : Nat) (x2 x : Int32), 0 ≤ x.toInt → x.toInt ≤ (S.1 0).toInt → (S.1 0).toInt - x.toInt < n → lq_X11_voters_4 n S x1 x2 x := by
  intro n
  induction n with
  | zero => intro x2 x h1 h2 h3; omega
  | succ n ih =>
    intro x2 x h1 h2 h3
    rw [lq_X11_voters_4]
    unfold ps_X11_voters_4 st_X11_voters_4
    have hs := h.1
    by_cases c : S.1 0 ≤ x
    · rw [if_pos c, if_pos c]
      exact ⟨True.intro, True.intro⟩
    · rw [if_neg c, if_neg c]
      have c := mt iLe.mpr c
      have e := iAdd (x := x) (y := 1) (by rw [i1]; omega) (by rw [i1]; omega)
      rw [i1] at e
      refine ⟨⟨bal_in hx ⟨h1, by omega⟩, ?_⟩, ?_⟩
      · split <;> exact True.intro
      · by_cases z : 2 ≤ (S.2 29 ((200 * x1) + x).toNatClampNeg)
        · rw [if_pos z]
          exact ih _ (x + 1) (by omega) (by omega) (by omega)
        · rw [if_neg z]
          exact ih _ (x + 1) (by omega) (by omega) (by omega)
theorem voters_p {S : HS} (h : RA S) {x1 : Int32} (hx : 0 ≤ x1.toInt ∧ x1.toInt < 90) : p_X11_voters S x1 :=
  voters_q h hx 100000 0 0 (by rw [i0]; omega) (by rw [i0]; have := h.1; omega) (by rw [i0]; have := h.1; omega)
theorem carries_p (S : HS) (x1 x2 x3 : Int32) : p_X11_carries S x1 x2 x3 := by
  unfold p_X11_carries
  repeat' split
  all_goals exact ⟨rfl, True.intro⟩
theorem goes_p {S : HS} (h : RA S) (hp : 1 ≤ (S.1 6).toInt) : p_X11_goes S := by
  have t := top_in h hp
  exact ⟨top_p h hp, vIn t.1 t.2, True.intro⟩
/-- dropping the draft reads the drafted slots alone -/
theorem dropDraft_q : ∀ (n : Nat) (S : HS) (x : Int32), RA S → 0 ≤ x.toInt → x.toInt ≤ (S.1 35).toInt → (S.1 35).toInt - x.toInt < n → lq_X11_dropDraft_2 n S x := by
  intro n
  induction n with
  | zero => intro S x h h1 h2 h3; omega
  | succ n ih =>
    intro S x h h1 h2 h3
    rw [lq_X11_dropDraft_2]
    unfold ps_X11_dropDraft_2 st_X11_dropDraft_2
    have hd := h.2.2.1
    by_cases c : S.1 35 ≤ x
    · rw [if_pos c, if_pos c]
      exact ⟨True.intro, True.intro⟩
    · rw [if_neg c, if_neg c]
      have c := mt iLe.mpr c
      have e := iAdd (x := x) (y := 1) (by rw [i1]; omega) (by rw [i1]; omega)
      rw [i1] at e
      have r := h.2.2.2.2 x.toNatClampNeg (by rw [iNat h1]; omega)
      exact ⟨⟨vIn h1 (by omega), vIn r.1 r.2, True.intro⟩, ih (sA S 13 _ _) (x + 1) h (by omega) (by show _ ≤ (S.1 35).toInt; omega) (by show (S.1 35).toInt - _ < _; omega)⟩
theorem dropDraft_p {S : HS} (h : RA S) : p_X11_dropDraft S :=
  dropDraft_q 100000 S 0 h (by rw [i0]; omega) (by rw [i0]; have := h.2.2.1; omega) (by rw [i0]; have := h.2.2.1; omega)
end
section
/-! ===== a new slot, a word added, laying, moving ===== -/
theorem newSlot_q (S : HS) (x1 : Int32) {y : Nat} (hy : y < 90) (hf : S.2 13 y = 0) : ∀ (n : Nat) (x : Int32), 0 ≤ x.toInt → x.toInt ≤ y → 90 - x.toInt < n → lq_X11_newSlot_2 n S x1 x := by
  intro n
  induction n with
  | zero => intro x h1 h2 h3; omega
  | succ n ih =>
    intro x h1 h2 h3
    rw [lq_X11_newSlot_2]
    unfold ps_X11_newSlot_2 st_X11_newSlot_2
    have v : vp_in x 90 := vIn h1 (by omega)
    by_cases z : S.2 13 x.toNatClampNeg = 0
    · rw [if_pos z, if_pos z]
      exact ⟨⟨v, v, v, v, v, v, v, v, v, v, v, anew_p _ ⟨h1, by omega⟩, v, True.intro⟩, True.intro⟩
    · rw [if_neg z, if_neg z]
      have e := iAdd (x := x) (y := 1) (by rw [i1]; omega) (by rw [i1]; omega)
      rw [i1] at e
      have d : x.toNatClampNeg ≠ y := fun q => z (by rw [q]; exact hf)
      have k := iNat h1
      exact ⟨⟨v, True.intro⟩, ih (x + 1) (by omega) (by omega) (by omega)⟩
/-- a new slot is found where one is free -/
theorem newSlot_p {S : HS} (x1 : Int32) (h : ∃ y : Nat, y < 90 ∧ S.2 13 y = 0) : p_X11_newSlot S x1 := by
  obtain ⟨y, hy, hf⟩ := h
  exact newSlot_q S x1 hy hf 100000 0 (by rw [i0]; omega) (by rw [i0]; omega) (by rw [i0]; omega)
theorem addWord_p {S : HS} (h : RA S) (hd : 1 ≤ (S.1 35).toInt) (x1 : Int32) (q : 0 ≤ (S.2 19 (S.2 32 (0 : Int32).toNatClampNeg).toNatClampNeg).toInt ∧ (S.2 19 (S.2 32 (0 : Int32).toNatClampNeg).toNatClampNeg).toInt < 400) : p_X11_addWord S x1 := by
  have d := draft0_in h hd
  have d0 : vp_in 0 9 := vIn (by rw [i0]; omega) (by rw [i0]; omega)
  have v := vIn (n := 90) d.1 d.2
  have e4 : (400 : Int32).toInt = 400 := by decide
  have m := iMul (x := 400) (y := S.2 32 (0 : Int32).toNatClampNeg) (n := 400 * (S.2 32 (0 : Int32).toNatClampNeg).toInt) (by rw [e4]) (by omega) (by omega)
  have a := iAdd (x := 400 * S.2 32 (0 : Int32).toNatClampNeg) (y := S.2 19 (S.2 32 (0 : Int32).toNatClampNeg).toNatClampNeg) (by rw [m]; omega) (by rw [m]; omega)
  rw [m] at a
  unfold p_X11_addWord
  split
  · exact True.intro
  · exact ⟨d0, v, vIn (by omega) (by omega), v, v, True.intro⟩
theorem lay_q {x1 : Int32} (hx : 0 ≤ x1.toInt ∧ x1.toInt ≤ 7) : ∀ (n : Nat) (S : HS) (x2 x : Int32), (S.1 35).toInt ≤ 9 → 0 ≤ x.toInt → x.toInt ≤ (S.1 35).toInt → (S.1 35).toInt - x.toInt < n → lq_X11_lay_67 n S x1 x2 x := by
  intro n
  induction n with
  | zero => intro S x2 x h9 h1 h2 h3; omega
  | succ n ih =>
    intro S x2 x h9 h1 h2 h3
    rw [lq_X11_lay_67]
    unfold ps_X11_lay_67 st_X11_lay_67
    have v : vp_in x1 8 := vIn hx.1 (by omega)
    by_cases c : S.1 35 ≤ x
    · rw [if_pos c, if_pos c]
      exact ⟨⟨v, v, True.intro⟩, True.intro⟩
    · rw [if_neg c, if_neg c]
      have c := mt iLe.mpr c
      have e := iAdd (x := x) (y := 1) (by rw [i1]; omega) (by rw [i1]; omega)
      rw [i1] at e
      have e9 : (9 : Int32).toInt = 9 := by decide
      have m := iMul (x := 9) (y := x1) (n := 9 * x1.toInt) (by rw [e9]) (by omega) (by omega)
      have a := iAdd (x := 9 * x1) (y := x) (by rw [m]; omega) (by rw [m]; omega)
      rw [m] at a
      exact ⟨⟨vIn h1 (by omega), vIn (by omega) (by omega), True.intro⟩, ih (sA S 33 _ _) x2 (x + 1) h9 (by omega) (by show _ ≤ (S.1 35).toInt; omega) (by show (S.1 35).toInt - _ < _; omega)⟩
theorem lay_d {S : HS} (h : RA S) (hd : 1 ≤ (S.1 35).toInt) {x1 : Int32} (hx : 0 ≤ x1.toInt ∧ x1.toInt ≤ 7)
    (ht : S.1 36 = 0 → S.2 25 (S.2 32 (0 : Int32).toNatClampNeg).toNatClampNeg = 0 → (S.2 14 (S.2 32 (0 : Int32).toNatClampNeg).toNatClampNeg = 2 ∨ S.2 14 (S.2 32 (0 : Int32).toNatClampNeg).toNatClampNeg = 3) → 1 ≤ (S.1 6).toInt) : p_X11_lay S x1 := by
  have d := draft0_in h hd
  have d0 : vp_in 0 9 := vIn (by rw [i0]; omega) (by rw [i0]; omega)
  have v := vIn (n := 90) d.1 d.2
  have u := h.2.2.1
  have l65 : ∀ T : HS, (T.1 35) = S.1 35 → q_X11_lay_65 T x1 (S.2 32 (0 : Int32).toNatClampNeg) := fun T e => lay_q hx 100000 T _ 0 (by rw [e]; omega) (by rw [i0]; omega) (by rw [i0, e]; omega) (by rw [i0, e]; omega)
  have l58 : ∀ T : HS, (T.1 35) = S.1 35 → q_X11_lay_58 T x1 (S.2 32 (0 : Int32).toNatClampNeg) := fun T e => ⟨v, l65 _ e⟩
  have l43 : 1 ≤ (S.1 6).toInt → q_X11_lay_43 S x1 (S.2 32 (0 : Int32).toNatClampNeg) := fun hp => by
    have t := top_in h hp
    refine ⟨top_p h hp, ?_⟩
    rw [top_s]
    exact ⟨vIn t.1 t.2, v, l58 _ rfl⟩
  refine ⟨d0, ?_⟩
  split
  · rename_i z
    refine ⟨v, ?_⟩
    split
    · rename_i y
      refine ⟨v, ?_⟩
      split
      · rename_i w
        exact l43 (ht z y (Or.inl w))
      · refine ⟨v, ?_⟩
        split
        · rename_i w
          exact l43 (ht z y (Or.inr w))
        · exact l58 S rfl
    · exact l58 S rfl
  · exact l65 S rfl
theorem move_q : ∀ (n : Nat) (S : HS) (x1 x : Int32), 0 ≤ (S.1 6).toInt → (S.1 6).toInt + (S.1 35).toInt ≤ 9 → 0 ≤ x.toInt → x.toInt ≤ (S.1 35).toInt → (S.1 35).toInt - x.toInt < n → lq_X11_move_77 n S x1 x := by
  intro n
  induction n with
  | zero => intro S x1 x g h9 h1 h2 h3; omega
  | succ n ih =>
    intro S x1 x g h9 h1 h2 h3
    rw [lq_X11_move_77]
    unfold ps_X11_move_77 st_X11_move_77
    by_cases c : S.1 35 ≤ x
    · rw [if_pos c, if_pos c]
      exact ⟨True.intro, True.intro⟩
    · rw [if_neg c, if_neg c]
      have c := mt iLe.mpr c
      have e := iAdd (x := x) (y := 1) (by rw [i1]; omega) (by rw [i1]; omega)
      rw [i1] at e
      have a := iAdd (x := S.1 6) (y := x) (by omega) (by omega)
      exact ⟨⟨vIn h1 (by omega), vIn (by omega) (by omega), True.intro⟩, ih (sA S 31 _ _) x1 (x + 1) g h9 (by omega) (by show _ ≤ (S.1 35).toInt; omega) (by show (S.1 35).toInt - _ < _; omega)⟩
theorem move_d {S : HS} (h : RA S) (hd : 1 ≤ (S.1 35).toInt) (hs : (S.1 6).toInt + (S.1 35).toInt ≤ 9) (x1 : Int32)
    (ht : S.1 36 = 0 → (S.2 14 (S.2 32 (0 : Int32).toNatClampNeg).toNatClampNeg = 2 ∨ S.2 14 (S.2 32 (0 : Int32).toNatClampNeg).toNatClampNeg = 3) → 1 ≤ (S.1 6).toInt) : p_X11_move S x1 := by
  have d := draft0_in h hd
  have d0 : vp_in 0 9 := vIn (by rw [i0]; omega) (by rw [i0]; omega)
  have v := vIn (n := 90) d.1 d.2
  have u := h.2.2.1
  have w := h.2.1
  have m75 : ∀ T : HS, T.1 35 = S.1 35 → T.1 6 = S.1 6 → q_X11_move_75 T x1 := fun T e f => move_q 100000 T x1 0 (by rw [f]; omega) (by rw [e, f]; omega) (by rw [i0]; omega) (by rw [i0, e]; omega) (by rw [i0, e]; omega)
  have m68 : ∀ T : HS, ∀ y, T.1 35 = S.1 35 → T.1 6 = S.1 6 → q_X11_move_68 T x1 (S.2 32 (0 : Int32).toNatClampNeg) y := fun T y e f => ⟨v, m75 _ e f⟩
  have m39 : ∀ y : Int32, (y = 0 ∨ 1 ≤ (S.1 6).toInt) → q_X11_move_39 S x1 (S.2 32 (0 : Int32).toNatClampNeg) y := fun y q => by
    unfold q_X11_move_39
    split
    · exact m68 S _ rfl rfl
    · rename_i z
      have hp := q.resolve_left z
      have t := top_in h hp
      refine ⟨v, ?_⟩
      split
      · refine ⟨top_p h hp, ?_⟩
        rw [top_s]
        exact ⟨vIn t.1 t.2, v, m68 _ _ rfl rfl⟩
      · exact m68 S _ rfl rfl
  unfold p_X11_move
  split
  · rename_i z
    refine ⟨d0, v, ?_⟩
    split
    · rename_i y
      exact m39 1 (Or.inr (ht z (Or.inl y)))
    · refine ⟨v, ?_⟩
      split
      · rename_i y
        exact m39 1 (Or.inr (ht z (Or.inr y)))
      · exact m39 0 (Or.inl rfl)
  · exact m75 S rfl rfl
end
section
/-! ===== taking from the desk ===== -/
theorem take_q {x1 : Int32} (hx : 0 ≤ x1.toInt ∧ x1.toInt ≤ 7) : ∀ (n : Nat) (T : HS) (x : Int32), (1 ≤ (T.2 34 x1.toNatClampNeg).toInt ∧ (T.2 34 x1.toNatClampNeg).toInt ≤ 9) → (T.2 37 x1.toNatClampNeg = 0 ∨ T.2 37 x1.toNatClampNeg = 1) →
    (∀ i : Int32, 0 ≤ i.toInt → i.toInt < (T.2 34 x1.toNatClampNeg).toInt → 0 ≤ (T.2 33 (9 * x1 + i).toNatClampNeg).toInt ∧ (T.2 33 (9 * x1 + i).toNatClampNeg).toInt < 90) →
    (∀ i : Nat, (i : Int) < x.toInt → 0 ≤ (T.2 32 i).toInt ∧ (T.2 32 i).toInt < 90) → 0 ≤ x.toInt → x.toInt ≤ (T.2 34 x1.toNatClampNeg).toInt → (T.2 34 x1.toNatClampNeg).toInt - x.toInt < n → lq_X11_take_2 n T x1 x := by
  intro n
  induction n with
  | zero => intro T x hc hb h33 h32 h1 h2 h3; omega
  | succ n ih =>
    intro T x hc hb h33 h32 h1 h2 h3
    rw [lq_X11_take_2]
    unfold ps_X11_take_2 st_X11_take_2
    have v : vp_in x1 8 := vIn hx.1 (by omega)
    have d0 : vp_in 0 9 := vIn (by rw [i0]; omega) (by rw [i0]; omega)
    by_cases c : T.2 34 x1.toNatClampNeg ≤ x
    · rw [if_pos c, if_pos c]
      have c := iLe.mp c
      have r := h32 (0 : Int32).toNatClampNeg (by rw [iNat (by rw [i0]; omega), i0]; omega)
      have s : vp_in (T.2 32 (0 : Int32).toNatClampNeg) 90 := vIn r.1 r.2
      have b : narrow .boolean (.int (T.2 37 x1.toNatClampNeg)) = .int (T.2 37 x1.toNatClampNeg) ∧ fits .boolean (.int (T.2 37 x1.toNatClampNeg)) = true := by
        rcases hb with q | q <;> rw [q] <;> exact ⟨rfl, rfl⟩
      refine ⟨⟨v, v, v, b, v, d0, s, ?_⟩, True.intro⟩
      split
      · exact ⟨d0, s, True.intro⟩
      · exact True.intro
    · rw [if_neg c, if_neg c]
      have c := mt iLe.mpr c
      have e := iAdd (x := x) (y := 1) (by rw [i1]; omega) (by rw [i1]; omega)
      rw [i1] at e
      have e9 : (9 : Int32).toInt = 9 := by decide
      have m := iMul (x := 9) (y := x1) (n := 9 * x1.toInt) (by rw [e9]) (by omega) (by omega)
      have a := iAdd (x := 9 * x1) (y := x) (by rw [m]; omega) (by rw [m]; omega)
      rw [m] at a
      have r := h33 x h1 (by omega)
      have k := iNat h1
      refine ⟨⟨v, vIn (by omega) (by omega), vIn h1 (by omega), True.intro⟩, ih (sA T 32 _ _) (x + 1) hc hb h33 (fun i hi => ?_) (by omega) (by show _ ≤ (T.2 34 x1.toNatClampNeg).toInt; omega) (by show (T.2 34 x1.toNatClampNeg).toInt - _ < _; omega)⟩
      show 0 ≤ (upd (T.2 32) x.toNatClampNeg (T.2 33 (9 * x1 + x).toNatClampNeg) i).toInt ∧ (upd (T.2 32) x.toNatClampNeg (T.2 33 (9 * x1 + x).toNatClampNeg) i).toInt < 90
      unfold upd
      split
      · exact r
      · exact h32 i (by omega)
theorem take_p {S : HS} {x1 : Int32} (hx : 0 ≤ x1.toInt ∧ x1.toInt ≤ 7) (hc : 1 ≤ (S.2 34 x1.toNatClampNeg).toInt ∧ (S.2 34 x1.toNatClampNeg).toInt ≤ 9) (hb : S.2 37 x1.toNatClampNeg = 0 ∨ S.2 37 x1.toNatClampNeg = 1)
    (h33 : ∀ i : Int32, 0 ≤ i.toInt → i.toInt < (S.2 34 x1.toNatClampNeg).toInt → 0 ≤ (S.2 33 (9 * x1 + i).toNatClampNeg).toInt ∧ (S.2 33 (9 * x1 + i).toNatClampNeg).toInt < 90) : p_X11_take S x1 :=
  take_q hx 100000 S 0 hc hb h33 (fun i hi => by rw [i0] at hi; omega) (by rw [i0]; omega) (by rw [i0]; omega) (by rw [i0]; omega)
end
section
/-! ===== is it pending; loops of what is carried ===== -/
theorem isPending_q {S : HS} (h : RA S) (x1 : Int32) : ∀ (n : Nat) (x : Int32), 0 ≤ x.toInt → x.toInt ≤ (S.1 6).toInt → (S.1 6).toInt - x.toInt < n → lq_X11_isPending_2 n S x1 x := by
  intro n
  induction n with
  | zero => intro x h1 h2 h3; omega
  | succ n ih =>
    intro x h1 h2 h3
    rw [lq_X11_isPending_2]
    unfold ps_X11_isPending_2 st_X11_isPending_2
    have hp := h.2.1
    by_cases c : S.1 6 ≤ x
    · rw [if_pos c, if_pos c]
      exact ⟨True.intro, True.intro⟩
    · rw [if_neg c, if_neg c]
      have c := mt iLe.mpr c
      have e := iAdd (x := x) (y := 1) (by rw [i1]; omega) (by rw [i1]; omega)
      rw [i1] at e
      refine ⟨⟨vIn h1 (by omega), by split <;> exact True.intro⟩, ?_⟩
      by_cases z : S.2 31 x.toNatClampNeg = x1
      · rw [if_pos z]
        exact True.intro
      · rw [if_neg z]
        exact ih (x + 1) (by omega) (by omega) (by omega)
theorem isPending_p {S : HS} (h : RA S) (x1 : Int32) : p_X11_isPending S x1 :=
  isPending_q h x1 100000 0 (by rw [i0]; omega) (by rw [i0]; have := h.2.1; omega) (by rw [i0]; have := h.2.1; omega)
/-- adjourned: every seat is cleared -/
theorem adj_q (x1 x2 : Int32) : ∀ (n : Nat) (S : HS) (x : Int32), (S.1 0).toInt ≤ 200 → 0 ≤ x.toInt → x.toInt ≤ (S.1 0).toInt → (S.1 0).toInt - x.toInt < n → lq_X11_carried_157 n S x1 x2 x := by
  intro n
  induction n with
  | zero => intro S x h h1 h2 h3; omega
  | succ n ih =>
    intro S x h h1 h2 h3
    rw [lq_X11_carried_157]
    unfold ps_X11_carried_157 st_X11_carried_157
    by_cases c : S.1 0 ≤ x
    · rw [if_pos c, if_pos c]
      exact ⟨True.intro, True.intro⟩
    · rw [if_neg c, if_neg c]
      have c := mt iLe.mpr c
      have e := iAdd (x := x) (y := 1) (by rw [i1]; omega) (by rw [i1]; omega)
      rw [i1] at e
      exact ⟨⟨vIn h1 (by omega), True.intro⟩, ih (sA S 11 _ _) (x + 1) h (by omega) (by show _ ≤ (S.1 0).toInt; omega) (by show (S.1 0).toInt - _ < _; omega)⟩
end
section
/-! ===== carried: a MAIN's words are written down; the row is tabled ===== -/
theorem main_q {x1 : Int32} (hx : 0 ≤ x1.toInt ∧ x1.toInt < 90) (x2 : Int32) : ∀ (n : Nat) (S : HS) (x : Int32), RA S → 1 ≤ (S.1 6).toInt → (S.2 19 x1.toNatClampNeg).toInt ≤ 400 → 0 ≤ x.toInt → x.toInt ≤ 400 → (400 - x.toInt < n) → lq_X11_carried_70 n S x1 x2 x := by
  intro n
  induction n with
  | zero => intro S x h hp hw h1 h2 h3; omega
  | succ n ih =>
    intro S x h hp h4 h1 h2 h3
    rw [lq_X11_carried_70]
    unfold ps_X11_carried_70 st_X11_carried_70
    have v : vp_in x1 90 := vIn hx.1 hx.2
    by_cases c : S.2 19 x1.toNatClampNeg ≤ x
    · rw [if_pos c, if_pos c]
      exact ⟨⟨v, goes_p h hp, True.intro⟩, True.intro⟩
    · rw [if_neg c, if_neg c]
      have c := mt iLe.mpr c
      have e := iAdd (x := x) (y := 1) (by rw [i1]; omega) (by rw [i1]; omega)
      rw [i1] at e
      have e4 : (400 : Int32).toInt = 400 := by decide
      have m := iMul (x := 400) (y := x1) (n := 400 * x1.toInt) (by rw [e4]) (by omega) (by omega)
      have a := iAdd (x := 400 * x1) (y := x) (by rw [m]; omega) (by rw [m]; omega)
      rw [m] at a
      exact ⟨⟨v, vIn (by omega) (by omega), vIn h1 (by omega), True.intro⟩, ih (sA S 38 _ _) (x + 1) h hp h4 (by omega) (by omega) (by omega)⟩
theorem table_q {x3 : Int32} (hx : 0 ≤ x3.toInt ∧ x3.toInt ≤ 7) (x1 x2 : Int32) : ∀ (n : Nat) (S : HS) (x : Int32), (S.1 6).toInt ≤ 9 → 0 ≤ x.toInt → x.toInt ≤ (S.1 6).toInt → (S.1 6).toInt - x.toInt < n → lq_X11_carried_198 n S x1 x2 x3 x := by
  intro n
  induction n with
  | zero => intro S x h h1 h2 h3; omega
  | succ n ih =>
    intro S x h h1 h2 h3
    rw [lq_X11_carried_198]
    unfold ps_X11_carried_198 st_X11_carried_198
    have v : vp_in x3 8 := vIn hx.1 (by omega)
    by_cases c : S.1 6 ≤ x
    · rw [if_pos c, if_pos c]
      exact ⟨⟨v, v, True.intro⟩, True.intro⟩
    · rw [if_neg c, if_neg c]
      have c := mt iLe.mpr c
      have e := iAdd (x := x) (y := 1) (by rw [i1]; omega) (by rw [i1]; omega)
      rw [i1] at e
      have e9 : (9 : Int32).toInt = 9 := by decide
      have m := iMul (x := 9) (y := x3) (n := 9 * x3.toInt) (by rw [e9]) (by omega) (by omega)
      have a := iAdd (x := 9 * x3) (y := x) (by rw [m]; omega) (by rw [m]; omega)
      rw [m] at a
      exact ⟨⟨vIn h1 (by omega), vIn (by omega) (by omega), True.intro⟩, ih (sA S 33 _ _) (x + 1) h (by omega) (by show _ ≤ (S.1 6).toInt; omega) (by show (S.1 6).toInt - _ < _; omega)⟩
end
