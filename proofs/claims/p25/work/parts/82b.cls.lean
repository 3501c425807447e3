theorem gdX0_copy_0 : ckS (List.drop 0 cX0_copy.data.toList) 0 [(0, .iconst 0, 1), (1, .istore_n 3, 1), (2, .iload_n 3, 1), (3, .aload_n 1, 1), (4, .getfield 96, 3), (7, .if_icmp .ge 45, 3), (10, .aload_n 1, 1), (11, .iload_n 3, 1), (12, .invokevirtual 97, 3), (15, .astore 4, 2), (17, .aload 4, 2), (19, .ifnull 27, 3), (22, .aload_n 0, 1), (23, .aload 4, 2), (25, .getfield 101, 3), (28, .invokevirtual 106, 3), (31, .astore 5, 2), (33, .aload 5, 2), (35, .aload 4, 2), (37, .invokevirtual 109, 3), (40, .aload_n 2, 1), (41, .aload 5, 2), (43, .invokevirtual 112, 3), (46, .iinc 3 1, 3), (49, .goto (-47), 3), (52, .return_, 1)] = true := by decide +kernel
theorem dX0_copy_0 : decode cX0_copy 0 = .ok (.iconst 0, 1) := ckS_g gdX0_copy_0 0 rfl
theorem dX0_copy_1 : decode cX0_copy 1 = .ok (.istore_n 3, 1) := ckS_g gdX0_copy_0 1 rfl
theorem dX0_copy_2 : decode cX0_copy 2 = .ok (.iload_n 3, 1) := ckS_g gdX0_copy_0 2 rfl
theorem dX0_copy_3 : decode cX0_copy 3 = .ok (.aload_n 1, 1) := ckS_g gdX0_copy_0 3 rfl
theorem dX0_copy_4 : decode cX0_copy 4 = .ok (.getfield 96, 3) := ckS_g gdX0_copy_0 4 rfl
theorem dX0_copy_7 : decode cX0_copy 7 = .ok (.if_icmp .ge 45, 3) := ckS_g gdX0_copy_0 5 rfl
theorem dX0_copy_10 : decode cX0_copy 10 = .ok (.aload_n 1, 1) := ckS_g gdX0_copy_0 6 rfl
theorem dX0_copy_11 : decode cX0_copy 11 = .ok (.iload_n 3, 1) := ckS_g gdX0_copy_0 7 rfl
theorem dX0_copy_12 : decode cX0_copy 12 = .ok (.invokevirtual 97, 3) := ckS_g gdX0_copy_0 8 rfl
theorem dX0_copy_15 : decode cX0_copy 15 = .ok (.astore 4, 2) := ckS_g gdX0_copy_0 9 rfl
theorem dX0_copy_17 : decode cX0_copy 17 = .ok (.aload 4, 2) := ckS_g gdX0_copy_0 10 rfl
theorem dX0_copy_19 : decode cX0_copy 19 = .ok (.ifnull 27, 3) := ckS_g gdX0_copy_0 11 rfl
theorem dX0_copy_22 : decode cX0_copy 22 = .ok (.aload_n 0, 1) := ckS_g gdX0_copy_0 12 rfl
theorem dX0_copy_23 : decode cX0_copy 23 = .ok (.aload 4, 2) := ckS_g gdX0_copy_0 13 rfl
theorem dX0_copy_25 : decode cX0_copy 25 = .ok (.getfield 101, 3) := ckS_g gdX0_copy_0 14 rfl
theorem dX0_copy_28 : decode cX0_copy 28 = .ok (.invokevirtual 106, 3) := ckS_g gdX0_copy_0 15 rfl
theorem dX0_copy_31 : decode cX0_copy 31 = .ok (.astore 5, 2) := ckS_g gdX0_copy_0 16 rfl
theorem dX0_copy_33 : decode cX0_copy 33 = .ok (.aload 5, 2) := ckS_g gdX0_copy_0 17 rfl
theorem dX0_copy_35 : decode cX0_copy 35 = .ok (.aload 4, 2) := ckS_g gdX0_copy_0 18 rfl
theorem dX0_copy_37 : decode cX0_copy 37 = .ok (.invokevirtual 109, 3) := ckS_g gdX0_copy_0 19 rfl
theorem dX0_copy_40 : decode cX0_copy 40 = .ok (.aload_n 2, 1) := ckS_g gdX0_copy_0 20 rfl
theorem dX0_copy_41 : decode cX0_copy 41 = .ok (.aload 5, 2) := ckS_g gdX0_copy_0 21 rfl
theorem dX0_copy_43 : decode cX0_copy 43 = .ok (.invokevirtual 112, 3) := ckS_g gdX0_copy_0 22 rfl
theorem dX0_copy_46 : decode cX0_copy 46 = .ok (.iinc 3 1, 3) := ckS_g gdX0_copy_0 23 rfl
theorem dX0_copy_49 : decode cX0_copy 49 = .ok (.goto (-47), 3) := ckS_g gdX0_copy_0 24 rfl
theorem dX0_copy_52 : decode cX0_copy 52 = .ok (.return_, 1) := ckS_g gdX0_copy_0 25 rfl
set_option maxRecDepth 100000 in
theorem zc599 : wZ (.methodLink RX0 112 yX5_put) := ⟨wT5 (List.mem_of_getElem? (i := 10) (by decide +kernel)), Or.inl rfl⟩
set_option maxRecDepth 100000 in
theorem zc600 : wZ (.selects RX4 yX4_become yX4_become) := ⟨wT5 (List.mem_of_getElem? (i := 6) (by decide +kernel)), Or.inl rfl⟩
set_option maxRecDepth 100000 in
theorem zc601 : wZ (.instanceMethod yX4_become) := ⟨wT5 (List.mem_of_getElem? (i := 5) (by decide +kernel)), Or.inl rfl⟩
set_option maxRecDepth 100000 in
theorem zc602 : wZ (.methodLink RX0 109 yX4_become) := ⟨wT5 (List.mem_of_getElem? (i := 4) (by decide +kernel)), Or.inl rfl⟩
set_option maxRecDepth 100000 in
theorem zc603 : wZ (.methodLink RX0 106 yX0_newMotion) := ⟨wT5 (List.mem_of_getElem? (i := 3) (by decide +kernel)), Or.inl rfl⟩
set_option maxRecDepth 100000 in
theorem zc604 : wZ (.fieldLink RX0 101 "MotionFloor$Motion" "kind" "I") := ⟨wT3 (List.mem_of_getElem? (i := 16) (by decide +kernel)), Or.inl rfl⟩
set_option maxRecDepth 100000 in
theorem zc605 : wZ (.code yX0_copy cX0_copy 6 none) := ⟨wT5 (List.mem_of_getElem? (i := 2) rfl), Or.inl rfl⟩
def b_Y0_copy_46 (S : Cst) (x0 : Nat) (x1 : Nat) (x2 : Nat) (x3 : Int32) (x4 : Option Nat) : (Int32 × Cst) ⊕ (Cst × Int32) := Sum.inr (S, (x3 + 1))
def q_Y0_copy_46 (S : Cst) (x0 : Nat) (x1 : Nat) (x2 : Nat) (lc : Nat) (ls : Nat) (x3 : Int32) (x4 : Option Nat) : Prop := True
def b_Y0_copy_40a (S : Cst) (x0 : Nat) (x1 : Nat) (x2 : Nat) (x3 : Int32) (x4 : Option Nat) (x5 : Option Nat) : (Int32 × Cst) ⊕ (Cst × Int32) := (b_Y0_copy_46 ((f_Y5_put S x2 x5).2) x0 x1 x2 x3 x4)
def q_Y0_copy_40a (S : Cst) (x0 : Nat) (x1 : Nat) (x2 : Nat) (lc : Nat) (ls : Nat) (x3 : Int32) (x4 : Option Nat) (x5 : Option Nat) : Prop := (p_Y5_put S x2 x5) ∧ (q_Y0_copy_46 ((f_Y5_put S x2 x5).2) x0 x1 x2 lc ls x3 x4)
def b_Y0_copy_31a (S : Cst) (x0 : Nat) (x1 : Nat) (x2 : Nat) (x3 : Int32) (x4 : Option Nat) (o0 : Option Nat) : (Int32 × Cst) ⊕ (Cst × Int32) := (b_Y0_copy_40a ((f_Y4_become S (o0.getD 0) x4).2) x0 x1 x2 x3 x4 o0)
def q_Y0_copy_31a (S : Cst) (x0 : Nat) (x1 : Nat) (x2 : Nat) (lc : Nat) (ls : Nat) (x3 : Int32) (x4 : Option Nat) (o0 : Option Nat) : Prop := (iR S o0 3) ∧ (p_Y4_become S (o0.getD 0) x4) ∧ (q_Y0_copy_40a ((f_Y4_become S (o0.getD 0) x4).2) x0 x1 x2 lc ls x3 x4 o0)
def st_Y0_copy_2 (S : Cst) (x0 : Nat) (x1 : Nat) (x2 : Nat) (x3 : Int32) : (Int32 × Cst) ⊕ (Cst × Int32) := if (giC S x1 1) ≤ x3 then Sum.inl ((0, S)) else if (f_Y5_at S x1 x3) = none then (b_Y0_copy_46 S x0 x1 x2 x3 (f_Y5_at S x1 x3)) else (b_Y0_copy_31a ((f_Y0_newMotion S x0 (giC S ((f_Y5_at S x1 x3).getD 0) 2)).2) x0 x1 x2 x3 (f_Y5_at S x1 x3) ((f_Y0_newMotion S x0 (giC S ((f_Y5_at S x1 x3).getD 0) 2)).1))
def ps_Y0_copy_2 (S : Cst) (x0 : Nat) (x1 : Nat) (x2 : Nat) (lc : Nat) (ls : Nat) (x3 : Int32) : Prop := (if (giC S x1 1) ≤ x3 then True else (p_Y5_at S x1 x3) ∧ (if (f_Y5_at S x1 x3) = none then (q_Y0_copy_46 S x0 x1 x2 lc ls x3 (f_Y5_at S x1 x3)) else (iR S (f_Y5_at S x1 x3) 3) ∧ ((S.1 ≤ (f_Y0_newMotion S x0 (giC S ((f_Y5_at S x1 x3).getD 0) 2)).2.1 ∧ (f_Y0_newMotion S x0 (giC S ((f_Y5_at S x1 x3).getD 0) 2)).2.1 ≤ lc) ∧ (S.2.1 ≤ (f_Y0_newMotion S x0 (giC S ((f_Y5_at S x1 x3).getD 0) 2)).2.2.1 ∧ (f_Y0_newMotion S x0 (giC S ((f_Y5_at S x1 x3).getD 0) 2)).2.2.1 ≤ ls)) ∧ (p_Y0_newMotion S x0 (f_Y0_newMotion S x0 (giC S ((f_Y5_at S x1 x3).getD 0) 2)).2.1 (f_Y0_newMotion S x0 (giC S ((f_Y5_at S x1 x3).getD 0) 2)).2.2.1 (giC S ((f_Y5_at S x1 x3).getD 0) 2)) ∧ (vR S (f_Y5_at S x1 x3)) ∧ (q_Y0_copy_31a ((f_Y0_newMotion S x0 (giC S ((f_Y5_at S x1 x3).getD 0) 2)).2) x0 x1 x2 lc ls x3 (f_Y5_at S x1 x3) ((f_Y0_newMotion S x0 (giC S ((f_Y5_at S x1 x3).getD 0) 2)).1))))
def lp_Y0_copy_2 (x0 : Nat) (x1 : Nat) (x2 : Nat) : Nat → Cst → Int32 → Int32 × Cst
  | 0, S, _ => (0, S)
  | n + 1, S, x3 => match st_Y0_copy_2 S x0 x1 x2 x3 with
    | Sum.inl r => r
    | Sum.inr q => lp_Y0_copy_2 x0 x1 x2 n q.1 q.2
def lq_Y0_copy_2 (x0 : Nat) (x1 : Nat) (x2 : Nat) (lc : Nat) (ls : Nat) : Nat → Cst → Int32 → Prop
  | 0, _, _ => False
  | n + 1, S, x3 => ps_Y0_copy_2 S x0 x1 x2 lc ls x3 ∧ (match st_Y0_copy_2 S x0 x1 x2 x3 with
    | Sum.inl _ => True
    | Sum.inr q => lq_Y0_copy_2 x0 x1 x2 lc ls n q.1 q.2)
def f_Y0_copy (S : Cst) (x0 : Nat) (x1 : Nat) (x2 : Nat) : Int32 × Cst := (lp_Y0_copy_2 x0 x1 x2 100000 S 0)
def p_Y0_copy (S : Cst) (x0 : Nat) (x1 : Nat) (x2 : Nat) (lc : Nat) (ls : Nat) : Prop := (lq_Y0_copy_2 x0 x1 x2 lc ls 100000 S 0)
def e_Y0_copy : List Cond := [.fieldLink RX0 96 "MotionFloor$Pile" "size" "I", .methodLink RX0 97 yX5_at, .instanceMethod yX5_at, .selects RX5 yX5_at yX5_at, .initialized RX5, .fieldLink RX0 101 "MotionFloor$Motion" "kind" "I", .methodLink RX0 106 yX0_newMotion, .instanceMethod yX0_newMotion, .selects RX0 yX0_newMotion yX0_newMotion, .initialized RX0, .methodLink RX0 109 yX4_become, .instanceMethod yX4_become, .selects RX4 yX4_become yX4_become, .initialized RX4, .methodLink RX0 112 yX5_put, .instanceMethod yX5_put, .selects RX5 yX5_put yX5_put]
def v_Y0_copy : List Cond := .code yX0_copy cX0_copy 6 none :: (e_Y0_copy ++ (wsX50 ++ (wsX40 ++ (v_Y5_at ++ (v_Y0_newMotion ++ (v_Y4_become ++ (v_Y5_put ++ [])))))))
theorem te_Y0_copy : GoodIn lw_tbl e_Y0_copy := wGc zc43 (wGc zc135 (wGc zc123 (wGc zc122 (wGc zc34 (wGc zc604 (wGc zc603 (wGc zc596 (wGc zc595 (wGc zc39 (wGc zc602 (wGc zc601 (wGc zc600 (wGc zc170 (wGc zc599 (wGc zc159 (wGc zc158 (wG0)))))))))))))))))
theorem t_Y0_copy : GoodIn lw_tbl v_Y0_copy := wGc zc605 (wGa te_Y0_copy (wGa zcX5 (wGa zcX4 (wGa t_Y5_at (wGa t_Y0_newMotion (wGa t_Y4_become (wGa t_Y5_put (wG0))))))))
set_option maxHeartbeats 4000000 in
set_option maxRecDepth 100000 in
theorem c_Y0_copy (l : Launch) (G : va_G) (K : Nat → ClassId) (ad0 : Nat → Nat) (S0 : Cst) (x0 : Nat) (x1 : Nat) (x2 : Nat) (lc : Nat) (ls : Nat)  (sz : Nat) : Met l yX0_copy v_Y0_copy ({ frames := 4, cells := lc - S0.1, slots := ls - S0.2.1, locals := 102 }) (va_Pc [.ref (ad0 x0), .ref (ad0 x1), .ref (ad0 x2)] (cSt G K ad0 sz S0 ((S0.1 ≤ lc ∧ S0.2.1 ≤ ls) ∧ iK S0 x0 0 ∧ iK S0 x1 4 ∧ iK S0 x2 4 ∧ p_Y0_copy S0 x0 x1 x2 lc ls))) (va_Qv (fun (u : Cst × (Nat → Nat)) => (0, u.1) = f_Y0_copy S0 x0 x1 x2 ∧ eN S0 u.1 ∧ (∀ q, q < S0.1 → u.2 q = ad0 q)) (fun u t => cBt G K u.2 (va_A (wsC K ad0 S0) sz) u.1 t) (va_A (wsC K ad0 S0) sz)) (lc - S0.1) (ls - S0.2.1) (va_A (wsC K ad0 S0) sz) := by
  refine Met.ofW (cc := cX0_copy) (maxL := 6) (ret := none) (by decide) rfl ?_
  intro p e s m args below meth c s₁ B hml hv
  obtain ⟨rfl, ⟨hsz, hP, hK, hD0, hTE⟩, hp⟩ := hv
  obtain ⟨k_l, hp⟩ := hp
  obtain ⟨k_x0, hp⟩ := hp
  obtain ⟨k_x1, hp⟩ := hp
  obtain ⟨k_x2, hp⟩ := hp
  have hx := B.exec
  have hb := B.bytes
  have hr := B.returns
  have hts := atoms_spec (ws := v_Y0_copy) B.pre
  have t_ := t_Y0_copy
  have mw : ∀ w ∈ e_Y0_copy, w ∈ v_Y0_copy := fun w h => List.mem_cons_of_mem _ (List.mem_append_left _ h)
  have hw := fun w (h : w ∈ e_Y0_copy) => hts w (mw w h)
  have iX5 : ∀ w ∈ wsX50, w ∈ v_Y0_copy := fun w h => List.mem_cons_of_mem _ (List.mem_append_right _ (List.mem_append_left _ h))
  have iX4 : ∀ w ∈ wsX40, w ∈ v_Y0_copy := fun w h => List.mem_cons_of_mem _ (List.mem_append_right _ (List.mem_append_right _ (List.mem_append_left _ h)))
  have j_Y5_at : ∀ w ∈ v_Y5_at, w ∈ v_Y0_copy := fun w h => List.mem_cons_of_mem _ (List.mem_append_right _ (List.mem_append_right _ (List.mem_append_right _ (List.mem_append_left _ h))))
  have j_Y0_newMotion : ∀ w ∈ v_Y0_newMotion, w ∈ v_Y0_copy := fun w h => List.mem_cons_of_mem _ (List.mem_append_right _ (List.mem_append_right _ (List.mem_append_right _ (List.mem_append_right _ (List.mem_append_left _ h)))))
  have j_Y4_become : ∀ w ∈ v_Y4_become, w ∈ v_Y0_copy := fun w h => List.mem_cons_of_mem _ (List.mem_append_right _ (List.mem_append_right _ (List.mem_append_right _ (List.mem_append_right _ (List.mem_append_right _ (List.mem_append_left _ h))))))
  have j_Y5_put : ∀ w ∈ v_Y5_put, w ∈ v_Y0_copy := fun w h => List.mem_cons_of_mem _ (List.mem_append_right _ (List.mem_append_right _ (List.mem_append_right _ (List.mem_append_right _ (List.mem_append_right _ (List.mem_append_right _ (List.mem_append_left _ h)))))))
  have hown : s.vm.findClass RX0 = some m.cls := findClass_of_methodNamed B.named
  have hlocks := B.notSynchronized
  subst hsz
  have hD := hD0.self (sz := s.heap.size)
  generalize hAe : va_A (wsC K ad0 S0) s.heap.size = A at hD ⊢
  have hA : ∀ q : Nat, s.heap.size ≤ q → A q := fun q h => by rw [← hAe]; exact Or.inr h
  have hS : va_S A s.heap s.heap [] := va_S.rf
  have hl : lv_has (lg_sl ([.ref (ad0 x0), .ref (ad0 x1), .ref (ad0 x2)]) ++ List.replicate (6 - (lg_sl ([.ref (ad0 x0), .ref (ad0 x1), .ref (ad0 x2)])).length) Slot.unset).toArray 6 [(0, .ref (ad0 x0)), (1, .ref (ad0 x1)), (2, .ref (ad0 x2))] := by
    exact lv_entry ([.ref (ad0 x0), .ref (ad0 x1), .ref (ad0 x2)]) (n := 6) (Nat.le_of_ble_eq_true rfl)
  rw [lg_entry_eq]
  generalize (lg_sl ([.ref (ad0 x0), .ref (ad0 x1), .ref (ad0 x2)]) ++ List.replicate (6 - (lg_sl ([.ref (ad0 x0), .ref (ad0 x1), .ref (ad0 x2)])).length) Slot.unset).toArray = ls_ at hl ⊢
  refine wGen (fun Q hQ => ?_)
  obtain ⟨X, hX⟩ : ∃ X, f_Y0_copy S0 x0 x1 x2 = X := ⟨_, rfl⟩
  have L_2 : ∀ (n : Nat) (S : Cst) (ad : Nat → Nat) (x3 : Int32) (H : Heap) (locs : List Loc) (ls_ : Array Slot), lp_Y0_copy_2 x0 x1 x2 n S x3 = X → lq_Y0_copy_2 x0 x1 x2 lc ls n S x3 → nH S0 ad0 lc ls S ad → va_P G vwCl (wsC K ad S) H → va_D A (wsC K ad S) → va_S A s.heap H locs → lv_has ls_ 6 [(0, .ref (ad x0)), (1, .ref (ad x1)), (2, .ref (ad x2)), (3, .int x3)] → W p l e ({ frames := 4, cells := lc - S0.1, slots := ls - S0.2.1, locals := 102 } : Room) s m #[Value.ref (ad0 x0), Value.ref (ad0 x1), Value.ref (ad0 x2)] below meth c H locs (S.1 - S0.1) (S.2.1 - S0.2.1) Q (F0 m 2 ls_ []) := by
    intro n1
    induction n1 with
    | zero => intro S ad x3 H locs ls_ hE hp; exact False.elim hp
    | succ n1 ih1 =>
      intro S ad x3 H locs ls_ hO1 hp hZ hP hD hS hl
      rw [lp_Y0_copy_2] at hO1
      rw [lq_Y0_copy_2] at hp
      obtain ⟨hp, hq1⟩ := hp
      generalize hE : st_Y0_copy_2 S x0 x1 x2 x3 = Y1 at hO1 hq1
      unfold st_Y0_copy_2 at hE
      unfold ps_Y0_copy_2 at hp
      have B_Y0_copy_46 : ∀ (S : Cst) (ad : Nat → Nat) (x3 : Int32) (x4 : Option Nat) (H : Heap) (locs : List Loc) (ls_ : Array Slot), b_Y0_copy_46 S x0 x1 x2 x3 x4 = Y1 → q_Y0_copy_46 S x0 x1 x2 lc ls x3 x4 → nH S0 ad0 lc ls S ad → va_P G vwCl (wsC K ad S) H → va_D A (wsC K ad S) → va_S A s.heap H locs → lv_has ls_ 6 [(0, .ref (ad x0)), (1, .ref (ad x1)), (2, .ref (ad x2)), (3, .int x3), (4, va_re ad x4)] → W p l e ({ frames := 4, cells := lc - S0.1, slots := ls - S0.2.1, locals := 102 } : Room) s m #[Value.ref (ad0 x0), Value.ref (ad0 x1), Value.ref (ad0 x2)] below meth c H locs (S.1 - S0.1) (S.2.1 - S0.2.1) Q (F0 m 46 ls_ []) := by
        intro S ad x3 x4 H locs ls_ hE hp hZ hP hD hS hl
        unfold b_Y0_copy_46 at hE
        unfold q_Y0_copy_46 at hp
        refine lv_iinc (i := 3) (v := (x3 + 1)) (lv' := [(3, .int (x3 + 1)), (0, .ref (ad x0)), (1, .ref (ad x1)), (2, .ref (ad x2)), (4, va_re ad x4)]) hx hb dX0_copy_46 hl (k := 3) rfl rfl (by decide) rfl (fun ls_ hl => ?_)
        refine lv_goto (tgt := 2) hx hb dX0_copy_49 (by decide) ?_
        subst hE
        dsimp only at hO1 hq1
        exact ih1 S ad (x3 + 1) _ _ _ hO1 hq1 hZ hP hD hS (lv_sub hl [1, 2, 3, 0] rfl)
      have B_Y0_copy_40a : ∀ (S : Cst) (ad : Nat → Nat) (x3 : Int32) (x4 : Option Nat) (x5 : Option Nat) (H : Heap) (locs : List Loc) (ls_ : Array Slot), b_Y0_copy_40a S x0 x1 x2 x3 x4 x5 = Y1 → q_Y0_copy_40a S x0 x1 x2 lc ls x3 x4 x5 → nH S0 ad0 lc ls S ad → va_P G vwCl (wsC K ad S) H → va_D A (wsC K ad S) → va_S A s.heap H locs → lv_has ls_ 6 [(0, .ref (ad x0)), (1, .ref (ad x1)), (2, .ref (ad x2)), (3, .int x3), (4, va_re ad x4), (5, va_re ad x5)] → W p l e ({ frames := 4, cells := lc - S0.1, slots := ls - S0.2.1, locals := 102 } : Room) s m #[Value.ref (ad0 x0), Value.ref (ad0 x1), Value.ref (ad0 x2)] below meth c H locs (S.1 - S0.1) (S.2.1 - S0.2.1) Q (F0 m 40 ls_ []) := by
        intro S ad x3 x4 x5 H locs ls_ hE hp hZ hP hD hS hl
        unfold b_Y0_copy_40a at hE
        unfold q_Y0_copy_40a at hp
        refine lv_aload_n hx hb dX0_copy_40 rfl (lv_at hl 2 rfl) ?_
        refine cAload (ad := ad) (r := x5) hx hb dX0_copy_41 (lv_at hl 5 rfl) ?_
        obtain ⟨hy16, hp⟩ := hp
        refine cGov (va_runV (As := [va_re ad x5]) (rest := []) ⟨hx, hb, hml, hown, hts⟩ (c_Y5_put l G K ad S x2 x5 _) (cwV 1 hts (wGV t_ (mw (.methodLink RX0 112 yX5_put) (List.mem_of_getElem? (i := 14) rfl)) (mw (.instanceMethod yX5_put) (List.mem_of_getElem? (i := 15) rfl)) (mw (.selects RX5 yX5_put yX5_put) (List.mem_of_getElem? (i := 16) rfl)) (mw (.initialized RX5) (List.mem_of_getElem? (i := 4) rfl)) j_Y5_put) rfl rfl rfl (by decide +kernel) ⟨Nat.le_of_ble_eq_true rfl, Nat.le_of_ble_eq_true rfl⟩) (cPV hK hTE hP hD 4 rfl (at_4 (k_x2.n hZ.1)) ⟨(k_x2.n hZ.1), hy16⟩) rfl rfl hl.1 rfl (lv_room (Nat.le_of_ble_eq_true rfl)) dX0_copy_43 ⟨(show S.1 - S0.1 ≤ lc - S0.1 from Nat.sub_le_sub_right hZ.2.2.1 _), (show S.2.1 - S0.2.1 ≤ ls - S0.2.1 from Nat.sub_le_sub_right hZ.2.2.2 _)⟩) hP hD hS hA (fun u17 H locs hv hP hD hS => ?_)
        obtain ⟨hv, hz⟩ := hv
        have hZ := hZ.k hz
        refine cCells (cells' := u17.1 - S0.1) (slots' := u17.2.1 - S0.2.1) (by have e : S.1 = u17.1 := hz.1.1; show S.1 - S0.1 + 0 = _; omega) (by have e : S.2.1 = u17.2.1 := hz.1.2; show S.2.1 - S0.2.1 + 0 = _; omega) ?_
        rw [← hv] at hE hp
        dsimp only at hE hp
        exact B_Y0_copy_46 u17 ad x3 x4 _ _ _ hE hp hZ hP hD hS (lv_sub hl [0, 1, 2, 3, 4] rfl)
      have B_Y0_copy_31a : ∀ (S : Cst) (ad : Nat → Nat) (x3 : Int32) (x4 : Option Nat) (o0 : Option Nat) (H : Heap) (locs : List Loc) (ls_ : Array Slot), b_Y0_copy_31a S x0 x1 x2 x3 x4 o0 = Y1 → q_Y0_copy_31a S x0 x1 x2 lc ls x3 x4 o0 → nH S0 ad0 lc ls S ad → va_P G vwCl (wsC K ad S) H → va_D A (wsC K ad S) → va_S A s.heap H locs → lv_has ls_ 6 [(0, .ref (ad x0)), (1, .ref (ad x1)), (2, .ref (ad x2)), (3, .int x3), (4, va_re ad x4)] → W p l e ({ frames := 4, cells := lc - S0.1, slots := ls - S0.2.1, locals := 102 } : Room) s m #[Value.ref (ad0 x0), Value.ref (ad0 x1), Value.ref (ad0 x2)] below meth c H locs (S.1 - S0.1) (S.2.1 - S0.2.1) Q (F0 m 31 ls_ [va_re ad o0]) := by
        intro S ad x3 x4 o0 H locs ls_ hE hp hZ hP hD hS hl
        unfold b_Y0_copy_31a at hE
        unfold q_Y0_copy_31a at hp
        refine cAstore (ad := ad) (r := o0) (i := 5) (lv' := [(5, va_re ad o0), (0, .ref (ad x0)), (1, .ref (ad x1)), (2, .ref (ad x2)), (3, .int x3), (4, va_re ad x4)]) hx hb dX0_copy_31 hl (by decide) (by simp [List.filter, re_cat]) (fun ls_ hl => ?_)
        refine cAload (ad := ad) (r := o0) hx hb dX0_copy_33 (lv_at hl 0 rfl) ?_
        refine cAload (ad := ad) (r := x4) hx hb dX0_copy_35 (lv_at hl 5 rfl) ?_
        obtain ⟨hy12, hp⟩ := hp
        refine cTop2 (r := o0) hy12.1 ?_
        obtain ⟨hy13, hp⟩ := hp
        refine cGov (va_runV (As := [va_re ad x4]) (rest := []) ⟨hx, hb, hml, hown, hts⟩ (c_Y4_become l G K ad S (o0.getD 0) x4 _) (cwV 1 hts (wGV t_ (mw (.methodLink RX0 109 yX4_become) (List.mem_of_getElem? (i := 10) rfl)) (mw (.instanceMethod yX4_become) (List.mem_of_getElem? (i := 11) rfl)) (mw (.selects RX4 yX4_become yX4_become) (List.mem_of_getElem? (i := 12) rfl)) (mw (.initialized RX4) (List.mem_of_getElem? (i := 13) rfl)) j_Y4_become) rfl rfl rfl (by decide +kernel) ⟨Nat.le_of_ble_eq_true rfl, Nat.le_of_ble_eq_true rfl⟩) (cPV hK hTE hP hD 3 rfl (at_3 hy12.2) ⟨hy12.2, hy13⟩) rfl rfl hl.1 rfl (lv_room (Nat.le_of_ble_eq_true rfl)) dX0_copy_37 ⟨(show S.1 - S0.1 ≤ lc - S0.1 from Nat.sub_le_sub_right hZ.2.2.1 _), (show S.2.1 - S0.2.1 ≤ ls - S0.2.1 from Nat.sub_le_sub_right hZ.2.2.2 _)⟩) hP hD hS hA (fun u14 H locs hv hP hD hS => ?_)
        obtain ⟨hv, hz⟩ := hv
        have hZ := hZ.k hz
        refine cCells (cells' := u14.1 - S0.1) (slots' := u14.2.1 - S0.2.1) (by have e : S.1 = u14.1 := hz.1.1; show S.1 - S0.1 + 0 = _; omega) (by have e : S.2.1 = u14.2.1 := hz.1.2; show S.2.1 - S0.2.1 + 0 = _; omega) ?_
        rw [← hv] at hE hp
        dsimp only at hE hp
        exact B_Y0_copy_40a u14 ad x3 x4 o0 _ _ _ hE hp hZ hP hD hS (lv_sub hl [1, 2, 3, 4, 5, 0] rfl)
      refine lv_iload_n hx hb dX0_copy_2 rfl (lv_at hl 3 rfl) ?_
      refine lv_aload_n hx hb dX0_copy_3 rfl (lv_at hl 1 rfl) ?_
      refine va_get (D := G) (ci := 4) (v := .int (giC S x1 1)) (C := RX5) (T := TX5) (N := 2) hx hb hts iX5 hown hK hP x1 (at_4 (k_x1.n hZ.1)) rfl 1 (by decide) (hw (.fieldLink RX0 96 "MotionFloor$Pile" "size" "I") (List.mem_of_getElem? (i := 0) rfl)) (fun _ h9 => h9) rfl dX0_copy_4 ?_
      refine lv_icmp_ge (tgt := 52) hx hb dX0_copy_7 (by decide) (fun c1 => ?_) (fun c1 => ?_)
      · rw [if_pos c1] at hE hp
        subst hE
        have hE := hO1
        dsimp only at hE
        refine W.widen (k := lc - S0.1) (n := ls - S0.2.1) (show S.1 - S0.1 ≤ lc - S0.1 from Nat.sub_le_sub_right hZ.2.2.1 _) (show S.2.1 - S0.2.1 ≤ ls - S0.2.1 from Nat.sub_le_sub_right hZ.2.2.2 _) ?_
        subst hQ
        exact W.vret hx hb hr (fun t ht hW => ⟨⟨(S, ad), rfl, ⟨hE.trans hX.symm, hZ.1, hZ.2.1⟩, by rw [ht]; exact hP, hD⟩, hS.F ht⟩) hS.2.2 dX0_copy_52
      · rw [if_neg c1] at hE hp
        refine lv_aload_n hx hb dX0_copy_10 rfl (lv_at hl 1 rfl) ?_
        refine lv_iload_n hx hb dX0_copy_11 rfl (lv_at hl 3 rfl) ?_
        obtain ⟨hy2, hp⟩ := hp
        refine cGoq (va_runV (As := [.int x3]) (rest := []) ⟨hx, hb, hml, hown, hts⟩ (c_Y5_at l G K ad S x1 x3 _) (cwV 1 hts (wGV t_ (mw (.methodLink RX0 97 yX5_at) (List.mem_of_getElem? (i := 1) rfl)) (mw (.instanceMethod yX5_at) (List.mem_of_getElem? (i := 2) rfl)) (mw (.selects RX5 yX5_at yX5_at) (List.mem_of_getElem? (i := 3) rfl)) (mw (.initialized RX5) (List.mem_of_getElem? (i := 4) rfl)) j_Y5_at) rfl rfl rfl (by decide +kernel) ⟨Nat.le_of_ble_eq_true rfl, Nat.le_of_ble_eq_true rfl⟩) (cPV hK hTE hP hD 4 rfl (at_4 (k_x1.n hZ.1)) ⟨(k_x1.n hZ.1), hy2⟩) rfl rfl hl.1 rfl (lv_room (Nat.le_of_ble_eq_true rfl)) dX0_copy_12 ⟨(show S.1 - S0.1 ≤ lc - S0.1 from Nat.sub_le_sub_right hZ.2.2.1 _), (show S.2.1 - S0.2.1 ≤ ls - S0.2.1 from Nat.sub_le_sub_right hZ.2.2.2 _)⟩) hP hD hS hA (fun r4 u3 H locs hv hP hD hS => ?_)
        have h1 := congrArg Prod.fst hv
        have h2 := (congrArg Prod.snd hv).symm
        dsimp only at h1 h2
        subst h1
        subst h2
        refine cAstore (ad := ad) (r := (f_Y5_at S x1 x3)) (i := 4) (lv' := [(4, va_re ad (f_Y5_at S x1 x3)), (0, .ref (ad x0)), (1, .ref (ad x1)), (2, .ref (ad x2)), (3, .int x3)]) hx hb dX0_copy_15 hl (by decide) rfl (fun ls_ hl => ?_)
        refine cAload (ad := ad) (r := (f_Y5_at S x1 x3)) hx hb dX0_copy_17 (lv_at hl 0 rfl) ?_
        refine cIfnull (ad := ad) (r := (f_Y5_at S x1 x3)) (tgt := 46) hx hb dX0_copy_19 (by decide) (fun c5 => ?_) (fun c5 => ?_)
        · rw [if_pos c5] at hE hp
          exact B_Y0_copy_46 S ad x3 (f_Y5_at S x1 x3) _ _ _ hE hp hZ hP hD hS (lv_sub hl [1, 2, 3, 4, 0] rfl)
        · rw [if_neg c5] at hE hp
          refine lv_aload_n hx hb dX0_copy_22 rfl (lv_at hl 1 rfl) ?_
          refine cAload (ad := ad) (r := (f_Y5_at S x1 x3)) hx hb dX0_copy_23 (lv_at hl 0 rfl) ?_
          obtain ⟨hy6, hp⟩ := hp
          refine cTop (r := (f_Y5_at S x1 x3)) hy6.1 ?_
          refine va_get (D := G) (ci := 3) (v := .int (giC S ((f_Y5_at S x1 x3).getD 0) 2)) (C := RX4) (T := TX4) (N := 16) hx hb hts iX4 hown hK hP ((f_Y5_at S x1 x3).getD 0) (at_3 hy6.2) rfl 2 (by decide) (hw (.fieldLink RX0 101 "MotionFloor$Motion" "kind" "I") (List.mem_of_getElem? (i := 5) rfl)) (fun _ h9 => h9) rfl dX0_copy_25 ?_
          obtain ⟨hy7, hp⟩ := hp
          obtain ⟨hy8, hp⟩ := hp
          refine cNoq (va_runV (As := [.int (giC S ((f_Y5_at S x1 x3).getD 0) 2)]) (rest := []) ⟨hx, hb, hml, hown, hts⟩ (c_Y0_newMotion l G K ad S x0 (f_Y0_newMotion S x0 (giC S ((f_Y5_at S x1 x3).getD 0) 2)).2.1 (f_Y0_newMotion S x0 (giC S ((f_Y5_at S x1 x3).getD 0) 2)).2.2.1 (giC S ((f_Y5_at S x1 x3).getD 0) 2) _) (cwV 1 hts (wGV t_ (mw (.methodLink RX0 106 yX0_newMotion) (List.mem_of_getElem? (i := 6) rfl)) (mw (.instanceMethod yX0_newMotion) (List.mem_of_getElem? (i := 7) rfl)) (mw (.selects RX0 yX0_newMotion yX0_newMotion) (List.mem_of_getElem? (i := 8) rfl)) (mw (.initialized RX0) (List.mem_of_getElem? (i := 9) rfl)) j_Y0_newMotion) rfl rfl rfl (by decide +kernel) ⟨Nat.le_of_ble_eq_true rfl, Nat.le_of_ble_eq_true rfl⟩) (cPV hK hTE hP hD 0 rfl (at_0 (k_x0.n hZ.1)) ⟨⟨hy7.1.1, hy7.2.1⟩, (k_x0.n hZ.1), hy8⟩) rfl rfl hl.1 rfl (lv_room (Nat.le_of_ble_eq_true rfl)) dX0_copy_28 ⟨by show _ ≤ lc - S0.1; have := hZ.1.1.1; have := hy7.1; omega, by show _ ≤ ls - S0.2.1; have := hZ.1.1.2; have := hy7.2; omega⟩) hP hD hS hA (fun r10 u9 H locs hv hP hD hS => ?_)
          obtain ⟨hv, hz, ha⟩ := hv
          obtain ⟨hy11, hp⟩ := hp
          have e1 : (f_Y0_newMotion S x0 (giC S ((f_Y5_at S x1 x3).getD 0) 2)).2.1 = u9.1.1 := by rw [← hv]
          have e2 : (f_Y0_newMotion S x0 (giC S ((f_Y5_at S x1 x3).getD 0) 2)).2.2.1 = u9.1.2.1 := by rw [← hv]
          refine cCells (cells' := u9.1.1 - S0.1) (slots' := u9.1.2.1 - S0.2.1) (by have := hZ.1.1.1; have := hy7.1; omega) (by have := hZ.1.1.2; have := hy7.2; omega) ?_
          rw [← re_ad (r := (f_Y5_at S x1 x3)) ha hy11] at hl
          rw [← ha x0 (k_x0.n hZ.1).1] at hl
          rw [← ha x1 (k_x1.n hZ.1).1] at hl
          rw [← ha x2 (k_x2.n hZ.1).1] at hl
          have hZ := hZ.n hz ha (by rw [← e1]; exact hy7.1.2) (by rw [← e2]; exact hy7.2.2)
          rw [← hv] at hE hp
          dsimp only at hE hp
          exact B_Y0_copy_31a u9.1 u9.2 x3 (f_Y5_at S x1 x3) r10 _ _ _ hE hp hZ hP hD hS (lv_sub hl [1, 2, 3, 4, 0] rfl)
  have B_M : ∀ (S : Cst) (ad : Nat → Nat) (H : Heap) (locs : List Loc) (ls_ : Array Slot), f_Y0_copy S x0 x1 x2 = X → p_Y0_copy S x0 x1 x2 lc ls → nH S0 ad0 lc ls S ad → va_P G vwCl (wsC K ad S) H → va_D A (wsC K ad S) → va_S A s.heap H locs → lv_has ls_ 6 [(0, .ref (ad x0)), (1, .ref (ad x1)), (2, .ref (ad x2))] → W p l e ({ frames := 4, cells := lc - S0.1, slots := ls - S0.2.1, locals := 102 } : Room) s m #[Value.ref (ad0 x0), Value.ref (ad0 x1), Value.ref (ad0 x2)] below meth c H locs (S.1 - S0.1) (S.2.1 - S0.2.1) Q (F0 m 0 ls_ []) := by
    intro S ad H locs ls_ hE hp hZ hP hD hS hl
    unfold f_Y0_copy at hE
    unfold p_Y0_copy at hp
    refine lv_iconst (v := 0) hx hb dX0_copy_0 (by decide) ?_
    refine lv_istore_n (i := 3) (lv' := [(3, .int 0), (0, .ref (ad x0)), (1, .ref (ad x1)), (2, .ref (ad x2))]) hx hb dX0_copy_1 rfl hl (by decide) rfl (fun ls_ hl => ?_)
    exact L_2 100000 S ad 0 _ _ _ hE hp hZ hP hD hS (lv_sub hl [1, 2, 3, 0] rfl)
  exact cCells (Nat.sub_self _).symm (Nat.sub_self _).symm (B_M S0 ad0 _ _ _ hX hp (nH.rf S0 ad0 k_l) hP hD hS hl)
