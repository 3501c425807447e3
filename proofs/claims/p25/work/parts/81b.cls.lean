theorem gdX0_pullLowest_0 : ckS (List.drop 0 cX0_pullLowest.data.toList) 0 [(0, .aload_n 0, 1), (1, .getfield 21, 3), (4, .getfield 96, 3), (7, .istore_n 1, 1), (8, .iload_n 1, 1), (9, .iconst 1, 1), (10, .if_icmp .le 17, 3), (13, .aload_n 0, 1), (14, .aload_n 0, 1), (15, .getfield 21, 3), (18, .invokevirtual 123, 3), (21, .iinc 1 (-1), 3), (24, .goto (-16), 3), (27, .aload_n 0, 1), (28, .getfield 21, 3), (31, .invokevirtual 126, 3), (34, .areturn, 1)] = true := by decide +kernel
theorem dX0_pullLowest_0 : decode cX0_pullLowest 0 = .ok (.aload_n 0, 1) := ckS_g gdX0_pullLowest_0 0 rfl
theorem dX0_pullLowest_1 : decode cX0_pullLowest 1 = .ok (.getfield 21, 3) := ckS_g gdX0_pullLowest_0 1 rfl
theorem dX0_pullLowest_4 : decode cX0_pullLowest 4 = .ok (.getfield 96, 3) := ckS_g gdX0_pullLowest_0 2 rfl
theorem dX0_pullLowest_7 : decode cX0_pullLowest 7 = .ok (.istore_n 1, 1) := ckS_g gdX0_pullLowest_0 3 rfl
theorem dX0_pullLowest_8 : decode cX0_pullLowest 8 = .ok (.iload_n 1, 1) := ckS_g gdX0_pullLowest_0 4 rfl
theorem dX0_pullLowest_9 : decode cX0_pullLowest 9 = .ok (.iconst 1, 1) := ckS_g gdX0_pullLowest_0 5 rfl
theorem dX0_pullLowest_10 : decode cX0_pullLowest 10 = .ok (.if_icmp .le 17, 3) := ckS_g gdX0_pullLowest_0 6 rfl
theorem dX0_pullLowest_13 : decode cX0_pullLowest 13 = .ok (.aload_n 0, 1) := ckS_g gdX0_pullLowest_0 7 rfl
theorem dX0_pullLowest_14 : decode cX0_pullLowest 14 = .ok (.aload_n 0, 1) := ckS_g gdX0_pullLowest_0 8 rfl
theorem dX0_pullLowest_15 : decode cX0_pullLowest 15 = .ok (.getfield 21, 3) := ckS_g gdX0_pullLowest_0 9 rfl
theorem dX0_pullLowest_18 : decode cX0_pullLowest 18 = .ok (.invokevirtual 123, 3) := ckS_g gdX0_pullLowest_0 10 rfl
theorem dX0_pullLowest_21 : decode cX0_pullLowest 21 = .ok (.iinc 1 (-1), 3) := ckS_g gdX0_pullLowest_0 11 rfl
theorem dX0_pullLowest_24 : decode cX0_pullLowest 24 = .ok (.goto (-16), 3) := ckS_g gdX0_pullLowest_0 12 rfl
theorem dX0_pullLowest_27 : decode cX0_pullLowest 27 = .ok (.aload_n 0, 1) := ckS_g gdX0_pullLowest_0 13 rfl
theorem dX0_pullLowest_28 : decode cX0_pullLowest 28 = .ok (.getfield 21, 3) := ckS_g gdX0_pullLowest_0 14 rfl
theorem dX0_pullLowest_31 : decode cX0_pullLowest 31 = .ok (.invokevirtual 126, 3) := ckS_g gdX0_pullLowest_0 15 rfl
theorem dX0_pullLowest_34 : decode cX0_pullLowest 34 = .ok (.areturn, 1) := ckS_g gdX0_pullLowest_0 16 rfl
set_option maxRecDepth 100000 in
theorem zc108 : wZ (.code yX0_pullLowest cX0_pullLowest 2 (some (.object "MotionFloor$Motion"))) := ⟨wT3 (List.mem_of_getElem? (i := 225) rfl), Or.inl rfl⟩
def b_Y0_pullLowest_34a (S : Cst) (x0 : Nat) (x1 : Int32) (o0 : Option Nat) : (Option Nat) × Cst := (o0, S)
def q_Y0_pullLowest_34a (S : Cst) (x0 : Nat) (x1 : Int32) (o0 : Option Nat) : Prop := True
def b_Y0_pullLowest_21a (S : Cst) (x0 : Nat) (x1 : Int32) : ((Option Nat) × Cst) ⊕ (Cst × Int32) := Sum.inr (S, (x1 + (-1)))
def q_Y0_pullLowest_21a (S : Cst) (x0 : Nat) (x1 : Int32) : Prop := True
def st_Y0_pullLowest_8 (S : Cst) (x0 : Nat) (x1 : Int32) : ((Option Nat) × Cst) ⊕ (Cst × Int32) := if x1 ≤ 1 then Sum.inl ((b_Y0_pullLowest_34a ((f_Y5_pull S ((grC S x0 1).getD 0)).2) x0 x1 ((f_Y5_pull S ((grC S x0 1).getD 0)).1))) else (b_Y0_pullLowest_21a ((f_Y0_dropTop S x0 ((grC S x0 1).getD 0)).2) x0 x1)
def ps_Y0_pullLowest_8 (S : Cst) (x0 : Nat) (x1 : Int32) : Prop := (if x1 ≤ 1 then (iR S (grC S x0 1) 4) ∧ (p_Y5_pull S ((grC S x0 1).getD 0)) ∧ (q_Y0_pullLowest_34a ((f_Y5_pull S ((grC S x0 1).getD 0)).2) x0 x1 ((f_Y5_pull S ((grC S x0 1).getD 0)).1)) else (iR S (grC S x0 1) 4) ∧ (p_Y0_dropTop S x0 ((grC S x0 1).getD 0)) ∧ (q_Y0_pullLowest_21a ((f_Y0_dropTop S x0 ((grC S x0 1).getD 0)).2) x0 x1))
def lp_Y0_pullLowest_8 (x0 : Nat) : Nat → Cst → Int32 → (Option Nat) × Cst
  | 0, S, _ => (none, S)
  | n + 1, S, x1 => match st_Y0_pullLowest_8 S x0 x1 with
    | Sum.inl r => r
    | Sum.inr q => lp_Y0_pullLowest_8 x0 n q.1 q.2
def lq_Y0_pullLowest_8 (x0 : Nat) : Nat → Cst → Int32 → Prop
  | 0, _, _ => False
  | n + 1, S, x1 => ps_Y0_pullLowest_8 S x0 x1 ∧ (match st_Y0_pullLowest_8 S x0 x1 with
    | Sum.inl _ => True
    | Sum.inr q => lq_Y0_pullLowest_8 x0 n q.1 q.2)
def f_Y0_pullLowest (S : Cst) (x0 : Nat) : (Option Nat) × Cst := (lp_Y0_pullLowest_8 x0 100000 S (giC S ((grC S x0 1).getD 0) 1))
def p_Y0_pullLowest (S : Cst) (x0 : Nat) : Prop := (iR S (grC S x0 1) 4) ∧ (lq_Y0_pullLowest_8 x0 100000 S (giC S ((grC S x0 1).getD 0) 1))
def e_Y0_pullLowest : List Cond := [.fieldLink RX0 21 "MotionFloor$Assembly" "pending" "LMotionFloor$Pile;", .fieldLink RX0 96 "MotionFloor$Pile" "size" "I", .methodLink RX0 126 yX5_pull, .instanceMethod yX5_pull, .selects RX5 yX5_pull yX5_pull, .initialized RX5, .methodLink RX0 123 yX0_dropTop, .instanceMethod yX0_dropTop, .selects RX0 yX0_dropTop yX0_dropTop, .initialized RX0]
def v_Y0_pullLowest : List Cond := .code yX0_pullLowest cX0_pullLowest 2 (some (.object "MotionFloor$Motion")) :: (e_Y0_pullLowest ++ (wsX00 ++ (wsX50 ++ (v_Y5_pull ++ (v_Y0_dropTop ++ [])))))
theorem te_Y0_pullLowest : GoodIn lw_tbl e_Y0_pullLowest := wGc zc58 (wGc zc43 (wGc zc37 (wGc zc36 (wGc zc35 (wGc zc34 (wGc zc42 (wGc zc41 (wGc zc40 (wGc zc39 (wG0))))))))))
theorem t_Y0_pullLowest : GoodIn lw_tbl v_Y0_pullLowest := wGc zc108 (wGa te_Y0_pullLowest (wGa zcX0 (wGa zcX5 (wGa t_Y5_pull (wGa t_Y0_dropTop (wG0))))))
set_option maxHeartbeats 4000000 in
set_option maxRecDepth 100000 in
theorem c_Y0_pullLowest (l : Launch) (G : va_G) (K : Nat → ClassId) (ad : Nat → Nat) (S0 : Cst) (x0 : Nat)  (sz : Nat) : Met l yX0_pullLowest v_Y0_pullLowest ({ frames := 2, cells := 0, slots := 0, locals := 43 }) (va_Pc [.ref (ad x0)] (cSt G K ad sz S0 (iK S0 x0 0 ∧ p_Y0_pullLowest S0 x0))) (va_Qq (fun (r : Option Nat) (u : Cst) => ∃ r', r = r'.map ad ∧ ((r', u) = f_Y0_pullLowest S0 x0 ∧ eK S0 u)) (cBt G K ad (va_A (wsC K ad S0) sz)) (va_A (wsC K ad S0) sz)) 0 0 (va_A (wsC K ad S0) sz) := by
  refine Met.ofW (cc := cX0_pullLowest) (maxL := 2) (ret := (some (.object "MotionFloor$Motion"))) (by decide) rfl ?_
  intro p e s m args below meth c s₁ B hml hv
  obtain ⟨rfl, ⟨hsz, hP, hK, hD0, hTE⟩, hp⟩ := hv
  obtain ⟨k_x0, hp⟩ := hp
  have hx := B.exec
  have hb := B.bytes
  have hr := B.returns
  have hts := atoms_spec (ws := v_Y0_pullLowest) B.pre
  have t_ := t_Y0_pullLowest
  have mw : ∀ w ∈ e_Y0_pullLowest, w ∈ v_Y0_pullLowest := fun w h => List.mem_cons_of_mem _ (List.mem_append_left _ h)
  have hw := fun w (h : w ∈ e_Y0_pullLowest) => hts w (mw w h)
  have iX0 : ∀ w ∈ wsX00, w ∈ v_Y0_pullLowest := fun w h => List.mem_cons_of_mem _ (List.mem_append_right _ (List.mem_append_left _ h))
  have iX5 : ∀ w ∈ wsX50, w ∈ v_Y0_pullLowest := fun w h => List.mem_cons_of_mem _ (List.mem_append_right _ (List.mem_append_right _ (List.mem_append_left _ h)))
  have j_Y5_pull : ∀ w ∈ v_Y5_pull, w ∈ v_Y0_pullLowest := fun w h => List.mem_cons_of_mem _ (List.mem_append_right _ (List.mem_append_right _ (List.mem_append_right _ (List.mem_append_left _ h))))
  have j_Y0_dropTop : ∀ w ∈ v_Y0_dropTop, w ∈ v_Y0_pullLowest := fun w h => List.mem_cons_of_mem _ (List.mem_append_right _ (List.mem_append_right _ (List.mem_append_right _ (List.mem_append_right _ (List.mem_append_left _ h)))))
  have hown : s.vm.findClass RX0 = some m.cls := findClass_of_methodNamed B.named
  have hlocks := B.notSynchronized
  subst hsz
  have hD := hD0.self (sz := s.heap.size)
  generalize hAe : va_A (wsC K ad S0) s.heap.size = A at hD ⊢
  have hA : ∀ q : Nat, s.heap.size ≤ q → A q := fun q h => by rw [← hAe]; exact Or.inr h
  have hS : va_S A s.heap s.heap [] := va_S.rf
  have hl : lv_has (lg_sl ([.ref (ad x0)]) ++ List.replicate (2 - (lg_sl ([.ref (ad x0)])).length) Slot.unset).toArray 2 [(0, .ref (ad x0))] := by
    exact lv_entry ([.ref (ad x0)]) (n := 2) (Nat.le_of_ble_eq_true rfl)
  rw [lg_entry_eq]
  generalize (lg_sl ([.ref (ad x0)]) ++ List.replicate (2 - (lg_sl ([.ref (ad x0)])).length) Slot.unset).toArray = ls_ at hl ⊢
  refine wGen (fun Q hQ => ?_)
  obtain ⟨X, hX⟩ : ∃ X, f_Y0_pullLowest S0 x0 = X := ⟨_, rfl⟩
  have B_Y0_pullLowest_34a : ∀ (S : Cst) (x1 : Int32) (o0 : Option Nat) (H : Heap) (locs : List Loc) (ls_ : Array Slot), b_Y0_pullLowest_34a S x0 x1 o0 = X → q_Y0_pullLowest_34a S x0 x1 o0 → eK S0 S → va_P G vwCl (wsC K ad S) H → va_D A (wsC K ad S) → va_S A s.heap H locs → lv_has ls_ 2 [(0, .ref (ad x0)), (1, .int x1)] → W p l e ({ frames := 2, cells := 0, slots := 0, locals := 43 } : Room) s m #[Value.ref (ad x0)] below meth c H locs 0 0 Q (F0 m 34 ls_ [va_re ad o0]) := by
    intro S x1 o0 H locs ls_ hE hp hZ hP hD hS hl
    unfold b_Y0_pullLowest_34a at hE
    unfold q_Y0_pullLowest_34a at hp
    subst hQ
    exact W.aret (v := va_re ad o0) hx hb hr (Or.inl ⟨_, rfl⟩) (va_re_or ad _) (fun t ht hW => ⟨⟨o0.map ad, S, rfl, ⟨o0, rfl, ⟨hE.trans hX.symm, hZ⟩⟩, by rw [ht]; exact hP, hD⟩, hS.F ht⟩) hS.2.2 dX0_pullLowest_34
  have L_8 : ∀ (n : Nat) (S : Cst) (x1 : Int32) (H : Heap) (locs : List Loc) (ls_ : Array Slot), lp_Y0_pullLowest_8 x0 n S x1 = X → lq_Y0_pullLowest_8 x0 n S x1 → eK S0 S → va_P G vwCl (wsC K ad S) H → va_D A (wsC K ad S) → va_S A s.heap H locs → lv_has ls_ 2 [(0, .ref (ad x0)), (1, .int x1)] → W p l e ({ frames := 2, cells := 0, slots := 0, locals := 43 } : Room) s m #[Value.ref (ad x0)] below meth c H locs 0 0 Q (F0 m 8 ls_ []) := by
    intro n1
    induction n1 with
    | zero => intro S x1 H locs ls_ hE hp; exact False.elim hp
    | succ n1 ih1 =>
      intro S x1 H locs ls_ hO1 hp hZ hP hD hS hl
      rw [lp_Y0_pullLowest_8] at hO1
      rw [lq_Y0_pullLowest_8] at hp
      obtain ⟨hp, hq1⟩ := hp
      generalize hE : st_Y0_pullLowest_8 S x0 x1 = Y1 at hO1 hq1
      unfold st_Y0_pullLowest_8 at hE
      unfold ps_Y0_pullLowest_8 at hp
      have B_Y0_pullLowest_21a : ∀ (S : Cst) (x1 : Int32) (H : Heap) (locs : List Loc) (ls_ : Array Slot), b_Y0_pullLowest_21a S x0 x1 = Y1 → q_Y0_pullLowest_21a S x0 x1 → eK S0 S → va_P G vwCl (wsC K ad S) H → va_D A (wsC K ad S) → va_S A s.heap H locs → lv_has ls_ 2 [(0, .ref (ad x0)), (1, .int x1)] → W p l e ({ frames := 2, cells := 0, slots := 0, locals := 43 } : Room) s m #[Value.ref (ad x0)] below meth c H locs 0 0 Q (F0 m 21 ls_ []) := by
        intro S x1 H locs ls_ hE hp hZ hP hD hS hl
        unfold b_Y0_pullLowest_21a at hE
        unfold q_Y0_pullLowest_21a at hp
        refine lv_iinc (i := 1) (v := (x1 + (-1))) (lv' := [(1, .int (x1 + (-1))), (0, .ref (ad x0))]) hx hb dX0_pullLowest_21 hl (k := 1) rfl rfl (by decide) rfl (fun ls_ hl => ?_)
        refine lv_goto (tgt := 8) hx hb dX0_pullLowest_24 (by decide) ?_
        subst hE
        dsimp only at hO1 hq1
        exact ih1 S (x1 + (-1)) _ _ _ hO1 hq1 hZ hP hD hS (lv_sub hl [1, 0] rfl)
      refine lv_iload_n hx hb dX0_pullLowest_8 rfl (lv_at hl 1 rfl) ?_
      refine lv_iconst (v := 1) hx hb dX0_pullLowest_9 (by decide) ?_
      refine lv_icmp_le (tgt := 27) hx hb dX0_pullLowest_10 (by decide) (fun c2 => ?_) (fun c2 => ?_)
      · rw [if_pos c2] at hE hp
        subst hE
        have hE := hO1
        dsimp only at hE
        refine lv_aload_n hx hb dX0_pullLowest_27 rfl (lv_at hl 0 rfl) ?_
        refine va_get (D := G) (ci := 0) (v := va_re ad (grC S x0 1)) (C := RX0) (T := TX0) (N := 11) hx hb hts iX0 hown hK hP x0 (at_0 (k_x0.e hZ)) rfl 1 (by decide) (hw (.fieldLink RX0 21 "MotionFloor$Assembly" "pending" "LMotionFloor$Pile;") (List.mem_of_getElem? (i := 0) rfl)) (fun _ h9 => h9) rfl dX0_pullLowest_28 ?_
        obtain ⟨hy3, hp⟩ := hp
        refine cTop (r := (grC S x0 1)) hy3.1 ?_
        obtain ⟨hy4, hp⟩ := hp
        refine cGoq (va_runV (As := []) (rest := []) ⟨hx, hb, hml, hown, hts⟩ (c_Y5_pull l G K ad S ((grC S x0 1).getD 0) _) (cwV 0 hts (wGV t_ (mw (.methodLink RX0 126 yX5_pull) (List.mem_of_getElem? (i := 2) rfl)) (mw (.instanceMethod yX5_pull) (List.mem_of_getElem? (i := 3) rfl)) (mw (.selects RX5 yX5_pull yX5_pull) (List.mem_of_getElem? (i := 4) rfl)) (mw (.initialized RX5) (List.mem_of_getElem? (i := 5) rfl)) j_Y5_pull) rfl rfl rfl (by decide +kernel) ⟨Nat.le_of_ble_eq_true rfl, Nat.le_of_ble_eq_true rfl⟩) (cPV hK hTE hP hD 4 rfl (at_4 hy3.2) ⟨hy3.2, hy4⟩) rfl rfl hl.1 rfl (lv_room (Nat.le_of_ble_eq_true rfl)) dX0_pullLowest_31 ⟨Nat.le_of_ble_eq_true rfl, Nat.le_of_ble_eq_true rfl⟩) hP hD hS hA (fun r6 u5 H locs hv hP hD hS => ?_)
        obtain ⟨hv, hz⟩ := hv
        have hZ := hZ.tr hz
        rw [← hv] at hE hp
        dsimp only at hE hp
        exact B_Y0_pullLowest_34a u5 x1 r6 _ _ _ hE hp hZ hP hD hS (lv_sub hl [0, 1] rfl)
      · rw [if_neg c2] at hE hp
        refine lv_aload_n hx hb dX0_pullLowest_13 rfl (lv_at hl 0 rfl) ?_
        refine lv_aload_n hx hb dX0_pullLowest_14 rfl (lv_at hl 0 rfl) ?_
        refine va_get (D := G) (ci := 0) (v := va_re ad (grC S x0 1)) (C := RX0) (T := TX0) (N := 11) hx hb hts iX0 hown hK hP x0 (at_0 (k_x0.e hZ)) rfl 1 (by decide) (hw (.fieldLink RX0 21 "MotionFloor$Assembly" "pending" "LMotionFloor$Pile;") (List.mem_of_getElem? (i := 0) rfl)) (fun _ h9 => h9) rfl dX0_pullLowest_15 ?_
        obtain ⟨hy7, hp⟩ := hp
        refine cTop (r := (grC S x0 1)) hy7.1 ?_
        obtain ⟨hy8, hp⟩ := hp
        refine cGov (va_runV (As := [.ref (ad ((grC S x0 1).getD 0))]) (rest := []) ⟨hx, hb, hml, hown, hts⟩ (c_Y0_dropTop l G K ad S x0 ((grC S x0 1).getD 0) _) (cwV 1 hts (wGV t_ (mw (.methodLink RX0 123 yX0_dropTop) (List.mem_of_getElem? (i := 6) rfl)) (mw (.instanceMethod yX0_dropTop) (List.mem_of_getElem? (i := 7) rfl)) (mw (.selects RX0 yX0_dropTop yX0_dropTop) (List.mem_of_getElem? (i := 8) rfl)) (mw (.initialized RX0) (List.mem_of_getElem? (i := 9) rfl)) j_Y0_dropTop) rfl rfl rfl (by decide +kernel) ⟨Nat.le_of_ble_eq_true rfl, Nat.le_of_ble_eq_true rfl⟩) (cPV hK hTE hP hD 0 rfl (at_0 (k_x0.e hZ)) ⟨(k_x0.e hZ), hy7.2, hy8⟩) rfl rfl hl.1 rfl (lv_room (Nat.le_of_ble_eq_true rfl)) dX0_pullLowest_18 ⟨Nat.le_of_ble_eq_true rfl, Nat.le_of_ble_eq_true rfl⟩) hP hD hS hA (fun u9 H locs hv hP hD hS => ?_)
        obtain ⟨hv, hz⟩ := hv
        have hZ := hZ.tr hz
        rw [← hv] at hE hp
        dsimp only at hE hp
        exact B_Y0_pullLowest_21a u9 x1 _ _ _ hE hp hZ hP hD hS (lv_sub hl [0, 1] rfl)
  have B_M : ∀ (S : Cst) (H : Heap) (locs : List Loc) (ls_ : Array Slot), f_Y0_pullLowest S x0 = X → p_Y0_pullLowest S x0 → eK S0 S → va_P G vwCl (wsC K ad S) H → va_D A (wsC K ad S) → va_S A s.heap H locs → lv_has ls_ 2 [(0, .ref (ad x0))] → W p l e ({ frames := 2, cells := 0, slots := 0, locals := 43 } : Room) s m #[Value.ref (ad x0)] below meth c H locs 0 0 Q (F0 m 0 ls_ []) := by
    intro S H locs ls_ hE hp hZ hP hD hS hl
    unfold f_Y0_pullLowest at hE
    unfold p_Y0_pullLowest at hp
    refine lv_aload_n hx hb dX0_pullLowest_0 rfl (lv_at hl 0 rfl) ?_
    refine va_get (D := G) (ci := 0) (v := va_re ad (grC S x0 1)) (C := RX0) (T := TX0) (N := 11) hx hb hts iX0 hown hK hP x0 (at_0 (k_x0.e hZ)) rfl 1 (by decide) (hw (.fieldLink RX0 21 "MotionFloor$Assembly" "pending" "LMotionFloor$Pile;") (List.mem_of_getElem? (i := 0) rfl)) (fun _ h9 => h9) rfl dX0_pullLowest_1 ?_
    obtain ⟨hy1, hp⟩ := hp
    refine cTop (r := (grC S x0 1)) hy1.1 ?_
    refine va_get (D := G) (ci := 4) (v := .int (giC S ((grC S x0 1).getD 0) 1)) (C := RX5) (T := TX5) (N := 2) hx hb hts iX5 hown hK hP ((grC S x0 1).getD 0) (at_4 hy1.2) rfl 1 (by decide) (hw (.fieldLink RX0 96 "MotionFloor$Pile" "size" "I") (List.mem_of_getElem? (i := 1) rfl)) (fun _ h9 => h9) rfl dX0_pullLowest_4 ?_
    refine lv_istore_n (i := 1) (lv' := [(1, .int (giC S ((grC S x0 1).getD 0) 1)), (0, .ref (ad x0))]) hx hb dX0_pullLowest_7 rfl hl (by decide) rfl (fun ls_ hl => ?_)
    exact L_8 100000 S (giC S ((grC S x0 1).getD 0) 1) _ _ _ hE hp hZ hP hD hS (lv_sub hl [1, 0] rfl)
  exact B_M S0 _ _ _ hX hp (eK.rf S0) hP hD hS hl
theorem gdX0_placeAt_0 : ckS (List.drop 0 cX0_placeAt.data.toList) 0 [(0, .iload_n 1, 1), (1, .ifCond .lt 9, 3), (4, .iload_n 1, 1), (5, .bipush 8, 2), (7, .if_icmp .lt 7, 3), (10, .aconst_null, 1), (11, .goto 9, 3), (14, .aload_n 0, 1), (15, .getfield 32, 3), (18, .iload_n 1, 1), (19, .aaload, 1), (20, .areturn, 1)] = true := by decide +kernel
theorem dX0_placeAt_0 : decode cX0_placeAt 0 = .ok (.iload_n 1, 1) := ckS_g gdX0_placeAt_0 0 rfl
theorem dX0_placeAt_1 : decode cX0_placeAt 1 = .ok (.ifCond .lt 9, 3) := ckS_g gdX0_placeAt_0 1 rfl
theorem dX0_placeAt_4 : decode cX0_placeAt 4 = .ok (.iload_n 1, 1) := ckS_g gdX0_placeAt_0 2 rfl
theorem dX0_placeAt_5 : decode cX0_placeAt 5 = .ok (.bipush 8, 2) := ckS_g gdX0_placeAt_0 3 rfl
theorem dX0_placeAt_7 : decode cX0_placeAt 7 = .ok (.if_icmp .lt 7, 3) := ckS_g gdX0_placeAt_0 4 rfl
theorem dX0_placeAt_10 : decode cX0_placeAt 10 = .ok (.aconst_null, 1) := ckS_g gdX0_placeAt_0 5 rfl
theorem dX0_placeAt_11 : decode cX0_placeAt 11 = .ok (.goto 9, 3) := ckS_g gdX0_placeAt_0 6 rfl
theorem dX0_placeAt_14 : decode cX0_placeAt 14 = .ok (.aload_n 0, 1) := ckS_g gdX0_placeAt_0 7 rfl
theorem dX0_placeAt_15 : decode cX0_placeAt 15 = .ok (.getfield 32, 3) := ckS_g gdX0_placeAt_0 8 rfl
theorem dX0_placeAt_18 : decode cX0_placeAt 18 = .ok (.iload_n 1, 1) := ckS_g gdX0_placeAt_0 9 rfl
theorem dX0_placeAt_19 : decode cX0_placeAt 19 = .ok (.aaload, 1) := ckS_g gdX0_placeAt_0 10 rfl
theorem dX0_placeAt_20 : decode cX0_placeAt 20 = .ok (.areturn, 1) := ckS_g gdX0_placeAt_0 11 rfl
set_option maxRecDepth 100000 in
theorem zc109 : wZ (.code yX0_placeAt cX0_placeAt 2 (some (.object "MotionFloor$Place"))) := ⟨wT2 (List.mem_of_getElem? (i := 117) rfl), Or.inl rfl⟩
def b_Y0_placeAt_20 (S : Cst) (x0 : Nat) (x1 : Int32) (o0 : Option Nat) : Option Nat := o0
def q_Y0_placeAt_20 (S : Cst) (x0 : Nat) (x1 : Int32) (o0 : Option Nat) : Prop := True
def b_Y0_placeAt_10 (S : Cst) (x0 : Nat) (x1 : Int32) : Option Nat := (b_Y0_placeAt_20 S x0 x1 none)
def q_Y0_placeAt_10 (S : Cst) (x0 : Nat) (x1 : Int32) : Prop := (q_Y0_placeAt_20 S x0 x1 none)
def f_Y0_placeAt (S : Cst) (x0 : Nat) (x1 : Int32) : Option Nat := if x1 < 0 then (b_Y0_placeAt_10 S x0 x1) else if x1 < 8 then (b_Y0_placeAt_20 S x0 x1 (grC S ((grC S x0 3).getD 0) x1.toNatClampNeg)) else (b_Y0_placeAt_10 S x0 x1)
def p_Y0_placeAt (S : Cst) (x0 : Nat) (x1 : Int32) : Prop := (if x1 < 0 then (q_Y0_placeAt_10 S x0 x1) else (if x1 < 8 then (iR S (grC S x0 3) 24) ∧ (vp_in x1 (lnC S ((grC S x0 3).getD 0))) ∧ (q_Y0_placeAt_20 S x0 x1 (grC S ((grC S x0 3).getD 0) x1.toNatClampNeg)) else (q_Y0_placeAt_10 S x0 x1)))
def e_Y0_placeAt : List Cond := [.fieldLink RX0 32 "MotionFloor$Assembly" "desk" "[LMotionFloor$Place;"]
def v_Y0_placeAt : List Cond := .code yX0_placeAt cX0_placeAt 2 (some (.object "MotionFloor$Place")) :: (e_Y0_placeAt ++ (wsX00 ++ []))
theorem te_Y0_placeAt : GoodIn lw_tbl e_Y0_placeAt := wGc zc53 (wG0)
theorem t_Y0_placeAt : GoodIn lw_tbl v_Y0_placeAt := wGc zc109 (wGa te_Y0_placeAt (wGa zcX0 (wG0)))
set_option maxHeartbeats 4000000 in
set_option maxRecDepth 100000 in
theorem c_Y0_placeAt (l : Launch) (G : va_G) (K : Nat → ClassId) (ad : Nat → Nat) (S : Cst) (x0 : Nat) (a1 : Int32) (sz : Nat) : Met l yX0_placeAt v_Y0_placeAt ({ frames := 0, cells := 0, slots := 0, locals := 0 }) (va_Pc [.ref (ad x0), .int a1] (cSt G K ad sz S (iK S x0 0 ∧ p_Y0_placeAt S x0 a1))) (va_Qq (fun (r : Option Nat) (u : Cst) => ∃ r', r = r'.map ad ∧ ((r', u) = (f_Y0_placeAt S x0 a1, S))) (cBt G K ad (va_A (wsC K ad S) sz)) (va_A (wsC K ad S) sz)) 0 0 (va_A (wsC K ad S) sz) := by
  refine Met.ofW (cc := cX0_placeAt) (maxL := 2) (ret := (some (.object "MotionFloor$Place"))) (by decide) rfl ?_
  intro p e s m args below meth c s₁ B hml hv
  obtain ⟨rfl, ⟨hsz, hP, hK, hD0, hTE⟩, hp⟩ := hv
  obtain ⟨k_x0, hp⟩ := hp
  have hx := B.exec
  have hb := B.bytes
  have hr := B.returns
  have hts := atoms_spec (ws := v_Y0_placeAt) B.pre
  have t_ := t_Y0_placeAt
  have mw : ∀ w ∈ e_Y0_placeAt, w ∈ v_Y0_placeAt := fun w h => List.mem_cons_of_mem _ (List.mem_append_left _ h)
  have hw := fun w (h : w ∈ e_Y0_placeAt) => hts w (mw w h)
  have iX0 : ∀ w ∈ wsX00, w ∈ v_Y0_placeAt := fun w h => List.mem_cons_of_mem _ (List.mem_append_right _ (List.mem_append_left _ h))
  have hown : s.vm.findClass RX0 = some m.cls := findClass_of_methodNamed B.named
  have hlocks := B.notSynchronized
  subst hsz
  have hD := hD0.self (sz := s.heap.size)
  generalize hAe : va_A (wsC K ad S) s.heap.size = A at hD ⊢
  have hA : ∀ q : Nat, s.heap.size ≤ q → A q := fun q h => by rw [← hAe]; exact Or.inr h
  have hS : va_S A s.heap s.heap [] := va_S.rf
  have hl : lv_has (lg_sl ([.ref (ad x0), .int a1]) ++ List.replicate (2 - (lg_sl ([.ref (ad x0), .int a1])).length) Slot.unset).toArray 2 [(0, .ref (ad x0)), (1, .int a1)] := by
    exact lv_entry ([.ref (ad x0), .int a1]) (n := 2) (Nat.le_of_ble_eq_true rfl)
  rw [lg_entry_eq]
  generalize (lg_sl ([.ref (ad x0), .int a1]) ++ List.replicate (2 - (lg_sl ([.ref (ad x0), .int a1])).length) Slot.unset).toArray = ls_ at hl ⊢
  refine wGen (fun Q hQ => ?_)
  obtain ⟨X, hX⟩ : ∃ X, f_Y0_placeAt S x0 a1 = X := ⟨_, rfl⟩
  have B_Y0_placeAt_20 : ∀ (x1 : Int32) (o0 : Option Nat) (H : Heap) (locs : List Loc) (ls_ : Array Slot), b_Y0_placeAt_20 S x0 x1 o0 = X → q_Y0_placeAt_20 S x0 x1 o0 → va_P G vwCl (wsC K ad S) H → va_D A (wsC K ad S) → va_S A s.heap H locs → lv_has ls_ 2 [(0, .ref (ad x0)), (1, .int x1)] → W p l e ({ frames := 0, cells := 0, slots := 0, locals := 0 } : Room) s m #[Value.ref (ad x0), Value.int a1] below meth c H locs 0 0 Q (F0 m 20 ls_ [va_re ad o0]) := by
    intro x1 o0 H locs ls_ hE hp hP hD hS hl
    unfold b_Y0_placeAt_20 at hE
    unfold q_Y0_placeAt_20 at hp
    subst hQ
    exact W.aret (v := va_re ad o0) hx hb hr (Or.inl ⟨_, rfl⟩) (va_re_or ad _) (fun t ht hW => ⟨⟨o0.map ad, S, rfl, ⟨o0, rfl, (pair_i (hE.trans hX.symm))⟩, by rw [ht]; exact hP, hD⟩, hS.F ht⟩) hS.2.2 dX0_placeAt_20
  have B_Y0_placeAt_10 : ∀ (x1 : Int32) (H : Heap) (locs : List Loc) (ls_ : Array Slot), b_Y0_placeAt_10 S x0 x1 = X → q_Y0_placeAt_10 S x0 x1 → va_P G vwCl (wsC K ad S) H → va_D A (wsC K ad S) → va_S A s.heap H locs → lv_has ls_ 2 [(0, .ref (ad x0)), (1, .int x1)] → W p l e ({ frames := 0, cells := 0, slots := 0, locals := 0 } : Room) s m #[Value.ref (ad x0), Value.int a1] below meth c H locs 0 0 Q (F0 m 10 ls_ []) := by
    intro x1 H locs ls_ hE hp hP hD hS hl
    unfold b_Y0_placeAt_10 at hE
    unfold q_Y0_placeAt_10 at hp
    refine lv_null hx hb dX0_placeAt_10 ?_
    rw [← re_none (ad := ad) (r := none) rfl]
    refine lv_goto (tgt := 20) hx hb dX0_placeAt_11 (by decide) ?_
    exact B_Y0_placeAt_20 x1 none _ _ _ hE hp hP hD hS (lv_sub hl [0, 1] rfl)
  have B_M : ∀ (x1 : Int32) (H : Heap) (locs : List Loc) (ls_ : Array Slot), f_Y0_placeAt S x0 x1 = X → p_Y0_placeAt S x0 x1 → va_P G vwCl (wsC K ad S) H → va_D A (wsC K ad S) → va_S A s.heap H locs → lv_has ls_ 2 [(0, .ref (ad x0)), (1, .int x1)] → W p l e ({ frames := 0, cells := 0, slots := 0, locals := 0 } : Room) s m #[Value.ref (ad x0), Value.int a1] below meth c H locs 0 0 Q (F0 m 0 ls_ []) := by
    intro x1 H locs ls_ hE hp hP hD hS hl
    unfold f_Y0_placeAt at hE
    unfold p_Y0_placeAt at hp
    refine lv_iload_n hx hb dX0_placeAt_0 rfl (lv_at hl 1 rfl) ?_
    refine lv_if_lt (tgt := 10) hx hb dX0_placeAt_1 (by decide) (fun c1 => ?_) (fun c1 => ?_)
    · rw [if_pos c1] at hE hp
      exact B_Y0_placeAt_10 x1 _ _ _ hE hp hP hD hS (lv_sub hl [0, 1] rfl)
    · rw [if_neg c1] at hE hp
      refine lv_iload_n hx hb dX0_placeAt_4 rfl (lv_at hl 1 rfl) ?_
      refine lv_bipush (v := 8) hx hb dX0_placeAt_5 (by decide) ?_
      refine lv_icmp_lt (tgt := 14) hx hb dX0_placeAt_7 (by decide) (fun c2 => ?_) (fun c2 => ?_)
      · rw [if_pos c2] at hE hp
        refine lv_aload_n hx hb dX0_placeAt_14 rfl (lv_at hl 0 rfl) ?_
        refine va_get (D := G) (ci := 0) (v := va_re ad (grC S x0 3)) (C := RX0) (T := TX0) (N := 11) hx hb hts iX0 hown hK hP x0 (at_0 k_x0) rfl 3 (by decide) (hw (.fieldLink RX0 32 "MotionFloor$Assembly" "desk" "[LMotionFloor$Place;") (List.mem_of_getElem? (i := 0) rfl)) (fun _ h9 => h9) rfl dX0_placeAt_15 ?_
        refine lv_iload_n hx hb dX0_placeAt_18 rfl (lv_at hl 1 rfl) ?_
        obtain ⟨hy3, hp⟩ := hp
        refine cTop2 (r := (grC S x0 3)) hy3.1 ?_
        obtain ⟨hy4, hp⟩ := hp
        refine cAald hx hb hK hP ((grC S x0 3).getD 0) 4 (at_24 hy3.2) rfl hy4 dX0_placeAt_19 ?_
        exact B_Y0_placeAt_20 x1 (grC S ((grC S x0 3).getD 0) x1.toNatClampNeg) _ _ _ hE hp hP hD hS (lv_sub hl [0, 1] rfl)
      · rw [if_neg c2] at hE hp
        exact B_Y0_placeAt_10 x1 _ _ _ hE hp hP hD hS (lv_sub hl [0, 1] rfl)
  exact B_M a1 _ _ _ hX hp hP hD hS hl
theorem gdX0_freePlaces_0 : ckS (List.drop 0 cX0_freePlaces.data.toList) 0 [(0, .iconst 0, 1), (1, .istore_n 1, 1), (2, .iconst 0, 1), (3, .istore_n 2, 1), (4, .iload_n 2, 1), (5, .bipush 8, 2), (7, .if_icmp .ge 24, 3), (10, .aload_n 0, 1), (11, .getfield 32, 3), (14, .iload_n 2, 1), (15, .aaload, 1), (16, .invokevirtual 141, 3), (31, .iload_n 1, 1), (32, .ireturn, 1)] = true := by decide +kernel
theorem dX0_freePlaces_0 : decode cX0_freePlaces 0 = .ok (.iconst 0, 1) := ckS_g gdX0_freePlaces_0 0 rfl
theorem dX0_freePlaces_1 : decode cX0_freePlaces 1 = .ok (.istore_n 1, 1) := ckS_g gdX0_freePlaces_0 1 rfl
theorem dX0_freePlaces_2 : decode cX0_freePlaces 2 = .ok (.iconst 0, 1) := ckS_g gdX0_freePlaces_0 2 rfl
theorem dX0_freePlaces_3 : decode cX0_freePlaces 3 = .ok (.istore_n 2, 1) := ckS_g gdX0_freePlaces_0 3 rfl
theorem dX0_freePlaces_4 : decode cX0_freePlaces 4 = .ok (.iload_n 2, 1) := ckS_g gdX0_freePlaces_0 4 rfl
theorem dX0_freePlaces_5 : decode cX0_freePlaces 5 = .ok (.bipush 8, 2) := ckS_g gdX0_freePlaces_0 5 rfl
theorem dX0_freePlaces_7 : decode cX0_freePlaces 7 = .ok (.if_icmp .ge 24, 3) := ckS_g gdX0_freePlaces_0 6 rfl
theorem dX0_freePlaces_10 : decode cX0_freePlaces 10 = .ok (.aload_n 0, 1) := ckS_g gdX0_freePlaces_0 7 rfl
theorem dX0_freePlaces_11 : decode cX0_freePlaces 11 = .ok (.getfield 32, 3) := ckS_g gdX0_freePlaces_0 8 rfl
theorem dX0_freePlaces_14 : decode cX0_freePlaces 14 = .ok (.iload_n 2, 1) := ckS_g gdX0_freePlaces_0 9 rfl
theorem dX0_freePlaces_15 : decode cX0_freePlaces 15 = .ok (.aaload, 1) := ckS_g gdX0_freePlaces_0 10 rfl
theorem dX0_freePlaces_16 : decode cX0_freePlaces 16 = .ok (.invokevirtual 141, 3) := ckS_g gdX0_freePlaces_0 11 rfl
theorem dX0_freePlaces_31 : decode cX0_freePlaces 31 = .ok (.iload_n 1, 1) := ckS_g gdX0_freePlaces_0 12 rfl
theorem dX0_freePlaces_32 : decode cX0_freePlaces 32 = .ok (.ireturn, 1) := ckS_g gdX0_freePlaces_0 13 rfl
theorem gdX6_isEmpty_0 : ckS (List.drop 0 cX6_isEmpty.data.toList) 0 [(0, .aload_n 0, 1), (1, .getfield 9, 3), (4, .ifCond .ne 7, 3), (7, .iconst 1, 1), (8, .goto 4, 3), (11, .iconst 0, 1), (12, .ireturn, 1)] = true := by decide +kernel
theorem dX6_isEmpty_0 : decode cX6_isEmpty 0 = .ok (.aload_n 0, 1) := ckS_g gdX6_isEmpty_0 0 rfl
theorem dX6_isEmpty_1 : decode cX6_isEmpty 1 = .ok (.getfield 9, 3) := ckS_g gdX6_isEmpty_0 1 rfl
theorem dX6_isEmpty_4 : decode cX6_isEmpty 4 = .ok (.ifCond .ne 7, 3) := ckS_g gdX6_isEmpty_0 2 rfl
theorem dX6_isEmpty_7 : decode cX6_isEmpty 7 = .ok (.iconst 1, 1) := ckS_g gdX6_isEmpty_0 3 rfl
theorem dX6_isEmpty_8 : decode cX6_isEmpty 8 = .ok (.goto 4, 3) := ckS_g gdX6_isEmpty_0 4 rfl
theorem dX6_isEmpty_11 : decode cX6_isEmpty 11 = .ok (.iconst 0, 1) := ckS_g gdX6_isEmpty_0 5 rfl
theorem dX6_isEmpty_12 : decode cX6_isEmpty 12 = .ok (.ireturn, 1) := ckS_g gdX6_isEmpty_0 6 rfl
set_option maxRecDepth 100000 in
theorem zc110 : wZ (.fieldLink RX6 9 "MotionFloor$Place" "sort" "I") := ⟨wT1 (List.mem_of_getElem? (i := 107) (by decide +kernel)), Or.inl rfl⟩
set_option maxRecDepth 100000 in
theorem zc111 : wZ (.code yX6_isEmpty cX6_isEmpty 1 (some .boolean)) := ⟨wT2 (List.mem_of_getElem? (i := 121) rfl), Or.inl rfl⟩
def b_Y6_isEmpty_12 (S : Cst) (x0 : Nat) (y0 : Int32) : Int32 := y0
def q_Y6_isEmpty_12 (S : Cst) (x0 : Nat) (y0 : Int32) : Prop := (narrow .boolean (.int y0) = .int y0) ∧ True
def f_Y6_isEmpty (S : Cst) (x0 : Nat) : Int32 := if (giC S x0 0) = 0 then (b_Y6_isEmpty_12 S x0 1) else (b_Y6_isEmpty_12 S x0 0)
def p_Y6_isEmpty (S : Cst) (x0 : Nat) : Prop := (if (giC S x0 0) = 0 then (q_Y6_isEmpty_12 S x0 1) else (q_Y6_isEmpty_12 S x0 0))
def e_Y6_isEmpty : List Cond := [.fieldLink RX6 9 "MotionFloor$Place" "sort" "I"]
def v_Y6_isEmpty : List Cond := .code yX6_isEmpty cX6_isEmpty 1 (some .boolean) :: (e_Y6_isEmpty ++ (wsX60 ++ []))
theorem te_Y6_isEmpty : GoodIn lw_tbl e_Y6_isEmpty := wGc zc110 (wG0)
theorem t_Y6_isEmpty : GoodIn lw_tbl v_Y6_isEmpty := wGc zc111 (wGa te_Y6_isEmpty (wGa zcX6 (wG0)))
set_option maxHeartbeats 4000000 in
set_option maxRecDepth 100000 in
theorem c_Y6_isEmpty (l : Launch) (G : va_G) (K : Nat → ClassId) (ad : Nat → Nat) (S : Cst) (x0 : Nat)  (sz : Nat) : Met l yX6_isEmpty v_Y6_isEmpty ({ frames := 0, cells := 0, slots := 0, locals := 0 }) (va_Pc [.ref (ad x0)] (cSt G K ad sz S (iK S x0 5 ∧ p_Y6_isEmpty S x0))) (va_Qi (fun (r : Int32) (u : Cst) => (r, u) = (f_Y6_isEmpty S x0, S)) (cBt G K ad (va_A (wsC K ad S) sz)) (va_A (wsC K ad S) sz)) 0 0 (va_A (wsC K ad S) sz) := by
  refine Met.ofW (cc := cX6_isEmpty) (maxL := 1) (ret := (some .boolean)) (by decide) rfl ?_
  intro p e s m args below meth c s₁ B hml hv
  obtain ⟨rfl, ⟨hsz, hP, hK, hD0, hTE⟩, hp⟩ := hv
  obtain ⟨k_x0, hp⟩ := hp
  have hx := B.exec
  have hb := B.bytes
  have hr := B.returns
  have hts := atoms_spec (ws := v_Y6_isEmpty) B.pre
  have t_ := t_Y6_isEmpty
  have mw : ∀ w ∈ e_Y6_isEmpty, w ∈ v_Y6_isEmpty := fun w h => List.mem_cons_of_mem _ (List.mem_append_left _ h)
  have hw := fun w (h : w ∈ e_Y6_isEmpty) => hts w (mw w h)
  have iX6 : ∀ w ∈ wsX60, w ∈ v_Y6_isEmpty := fun w h => List.mem_cons_of_mem _ (List.mem_append_right _ (List.mem_append_left _ h))
  have hown : s.vm.findClass RX6 = some m.cls := findClass_of_methodNamed B.named
  have hlocks := B.notSynchronized
  subst hsz
  have hD := hD0.self (sz := s.heap.size)
  generalize hAe : va_A (wsC K ad S) s.heap.size = A at hD ⊢
  have hA : ∀ q : Nat, s.heap.size ≤ q → A q := fun q h => by rw [← hAe]; exact Or.inr h
  have hS : va_S A s.heap s.heap [] := va_S.rf
  have hl : lv_has (lg_sl ([.ref (ad x0)]) ++ List.replicate (1 - (lg_sl ([.ref (ad x0)])).length) Slot.unset).toArray 1 [(0, .ref (ad x0))] := by
    exact lv_entry ([.ref (ad x0)]) (n := 1) (Nat.le_of_ble_eq_true rfl)
  rw [lg_entry_eq]
  generalize (lg_sl ([.ref (ad x0)]) ++ List.replicate (1 - (lg_sl ([.ref (ad x0)])).length) Slot.unset).toArray = ls_ at hl ⊢
  refine wGen (fun Q hQ => ?_)
  obtain ⟨X, hX⟩ : ∃ X, f_Y6_isEmpty S x0 = X := ⟨_, rfl⟩
  have B_Y6_isEmpty_12 : ∀ (y0 : Int32) (H : Heap) (locs : List Loc) (ls_ : Array Slot), b_Y6_isEmpty_12 S x0 y0 = X → q_Y6_isEmpty_12 S x0 y0 → va_P G vwCl (wsC K ad S) H → va_D A (wsC K ad S) → va_S A s.heap H locs → lv_has ls_ 1 [(0, .ref (ad x0))] → W p l e ({ frames := 0, cells := 0, slots := 0, locals := 0 } : Room) s m #[Value.ref (ad x0)] below meth c H locs 0 0 Q (F0 m 12 ls_ [.int y0]) := by
    intro y0 H locs ls_ hE hp hP hD hS hl
    unfold b_Y6_isEmpty_12 at hE
    unfold q_Y6_isEmpty_12 at hp
    obtain ⟨hy2, hp⟩ := hp
    subst hQ
    exact W.zret (v := y0) (ty := .boolean) hx hb hr hy2 (fun t ht hW => ⟨⟨y0, S, rfl, (pair_i (hE.trans hX.symm)), by rw [ht]; exact hP, hD⟩, hS.F ht⟩) hS.2.2 dX6_isEmpty_12
  have B_M : ∀ (H : Heap) (locs : List Loc) (ls_ : Array Slot), f_Y6_isEmpty S x0 = X → p_Y6_isEmpty S x0 → va_P G vwCl (wsC K ad S) H → va_D A (wsC K ad S) → va_S A s.heap H locs → lv_has ls_ 1 [(0, .ref (ad x0))] → W p l e ({ frames := 0, cells := 0, slots := 0, locals := 0 } : Room) s m #[Value.ref (ad x0)] below meth c H locs 0 0 Q (F0 m 0 ls_ []) := by
    intro  H locs ls_ hE hp hP hD hS hl
    unfold f_Y6_isEmpty at hE
    unfold p_Y6_isEmpty at hp
    refine lv_aload_n hx hb dX6_isEmpty_0 rfl (lv_at hl 0 rfl) ?_
    refine va_get (D := G) (ci := 5) (v := .int (giC S x0 0)) (C := RX6) (T := TX6) (N := 2) hx hb hts iX6 hown hK hP x0 (at_5 k_x0) rfl 0 (by decide) (hw (.fieldLink RX6 9 "MotionFloor$Place" "sort" "I") (List.mem_of_getElem? (i := 0) rfl)) (fun _ h9 => h9) rfl dX6_isEmpty_1 ?_
    refine lv_if_ne (tgt := 11) hx hb dX6_isEmpty_4 (by decide) (fun c1 => ?_) (fun c1 => ?_)
    · rw [if_neg c1] at hE hp
      refine lv_iconst (v := 0) hx hb dX6_isEmpty_11 (by decide) ?_
      exact B_Y6_isEmpty_12 0 _ _ _ hE hp hP hD hS (lv_sub hl [0] rfl)
    · rw [if_pos c1] at hE hp
      refine lv_iconst (v := 1) hx hb dX6_isEmpty_7 (by decide) ?_
      refine lv_goto (tgt := 12) hx hb dX6_isEmpty_8 (by decide) ?_
      exact B_Y6_isEmpty_12 1 _ _ _ hE hp hP hD hS (lv_sub hl [0] rfl)
  exact B_M  _ _ _ hX hp hP hD hS hl
theorem gdX0_freePlaces_19 : ckS (List.drop 19 cX0_freePlaces.data.toList) 19 [(19, .ifCond .eq 6, 3), (22, .iinc 1 1, 3), (25, .iinc 2 1, 3), (28, .goto (-24), 3)] = true := by decide +kernel
theorem dX0_freePlaces_19 : decode cX0_freePlaces 19 = .ok (.ifCond .eq 6, 3) := ckS_g gdX0_freePlaces_19 0 rfl
theorem dX0_freePlaces_22 : decode cX0_freePlaces 22 = .ok (.iinc 1 1, 3) := ckS_g gdX0_freePlaces_19 1 rfl
theorem dX0_freePlaces_25 : decode cX0_freePlaces 25 = .ok (.iinc 2 1, 3) := ckS_g gdX0_freePlaces_19 2 rfl
theorem dX0_freePlaces_28 : decode cX0_freePlaces 28 = .ok (.goto (-24), 3) := ckS_g gdX0_freePlaces_19 3 rfl
set_option maxRecDepth 100000 in
theorem zc112 : wZ (.initialized RX6) := ⟨wT1 (List.mem_of_getElem? (i := 5) (by decide +kernel)), Or.inl rfl⟩
set_option maxRecDepth 100000 in
theorem zc113 : wZ (.selects RX6 yX6_isEmpty yX6_isEmpty) := ⟨wT2 (List.mem_of_getElem? (i := 120) (by decide +kernel)), Or.inl rfl⟩
set_option maxRecDepth 100000 in
theorem zc114 : wZ (.instanceMethod yX6_isEmpty) := ⟨wT2 (List.mem_of_getElem? (i := 119) (by decide +kernel)), Or.inl rfl⟩
set_option maxRecDepth 100000 in
theorem zc115 : wZ (.methodLink RX0 141 yX6_isEmpty) := ⟨wT2 (List.mem_of_getElem? (i := 130) (by decide +kernel)), Or.inl rfl⟩
set_option maxRecDepth 100000 in
theorem zc116 : wZ (.code yX0_freePlaces cX0_freePlaces 3 (some .int)) := ⟨wT2 (List.mem_of_getElem? (i := 129) rfl), Or.inl rfl⟩
def b_Y0_freePlaces_25 (S : Cst) (x0 : Nat) (x1 : Int32) (x2 : Int32) : (Int32) ⊕ (Int32 × Int32) := Sum.inr (x1, (x2 + 1))
def q_Y0_freePlaces_25 (S : Cst) (x0 : Nat) (x1 : Int32) (x2 : Int32) : Prop := True
def b_Y0_freePlaces_19a (S : Cst) (x0 : Nat) (x1 : Int32) (x2 : Int32) (y0 : Int32) : (Int32) ⊕ (Int32 × Int32) := if y0 = 0 then (b_Y0_freePlaces_25 S x0 x1 x2) else (b_Y0_freePlaces_25 S x0 (x1 + 1) x2)
def q_Y0_freePlaces_19a (S : Cst) (x0 : Nat) (x1 : Int32) (x2 : Int32) (y0 : Int32) : Prop := (if y0 = 0 then (q_Y0_freePlaces_25 S x0 x1 x2) else (q_Y0_freePlaces_25 S x0 (x1 + 1) x2))
def st_Y0_freePlaces_4 (S : Cst) (x0 : Nat) (x1 : Int32) (x2 : Int32) : (Int32) ⊕ (Int32 × Int32) := if 8 ≤ x2 then Sum.inl (x1) else (b_Y0_freePlaces_19a S x0 x1 x2 (f_Y6_isEmpty S ((grC S ((grC S x0 3).getD 0) x2.toNatClampNeg).getD 0)))
def ps_Y0_freePlaces_4 (S : Cst) (x0 : Nat) (x1 : Int32) (x2 : Int32) : Prop := (if 8 ≤ x2 then True else (iR S (grC S x0 3) 24) ∧ (vp_in x2 (lnC S ((grC S x0 3).getD 0))) ∧ (iR S (grC S ((grC S x0 3).getD 0) x2.toNatClampNeg) 5) ∧ (p_Y6_isEmpty S ((grC S ((grC S x0 3).getD 0) x2.toNatClampNeg).getD 0)) ∧ (q_Y0_freePlaces_19a S x0 x1 x2 (f_Y6_isEmpty S ((grC S ((grC S x0 3).getD 0) x2.toNatClampNeg).getD 0))))
def lp_Y0_freePlaces_4 (S : Cst) (x0 : Nat) : Nat → Int32 → Int32 → Int32
  | 0, _, _ => 0
  | n + 1, x1, x2 => match st_Y0_freePlaces_4 S x0 x1 x2 with
    | Sum.inl r => r
    | Sum.inr q => lp_Y0_freePlaces_4 S x0 n q.1 q.2
def lq_Y0_freePlaces_4 (S : Cst) (x0 : Nat) : Nat → Int32 → Int32 → Prop
  | 0, _, _ => False
  | n + 1, x1, x2 => ps_Y0_freePlaces_4 S x0 x1 x2 ∧ (match st_Y0_freePlaces_4 S x0 x1 x2 with
    | Sum.inl _ => True
    | Sum.inr q => lq_Y0_freePlaces_4 S x0 n q.1 q.2)
def f_Y0_freePlaces (S : Cst) (x0 : Nat) : Int32 := (lp_Y0_freePlaces_4 S x0 100000 0 0)
def p_Y0_freePlaces (S : Cst) (x0 : Nat) : Prop := (lq_Y0_freePlaces_4 S x0 100000 0 0)
def e_Y0_freePlaces : List Cond := [.fieldLink RX0 32 "MotionFloor$Assembly" "desk" "[LMotionFloor$Place;", .methodLink RX0 141 yX6_isEmpty, .instanceMethod yX6_isEmpty, .selects RX6 yX6_isEmpty yX6_isEmpty, .initialized RX6]
def v_Y0_freePlaces : List Cond := .code yX0_freePlaces cX0_freePlaces 3 (some .int) :: (e_Y0_freePlaces ++ (wsX00 ++ (v_Y6_isEmpty ++ [])))
theorem te_Y0_freePlaces : GoodIn lw_tbl e_Y0_freePlaces := wGc zc53 (wGc zc115 (wGc zc114 (wGc zc113 (wGc zc112 (wG0)))))
theorem t_Y0_freePlaces : GoodIn lw_tbl v_Y0_freePlaces := wGc zc116 (wGa te_Y0_freePlaces (wGa zcX0 (wGa t_Y6_isEmpty (wG0))))
set_option maxHeartbeats 4000000 in
set_option maxRecDepth 100000 in
theorem c_Y0_freePlaces (l : Launch) (G : va_G) (K : Nat → ClassId) (ad : Nat → Nat) (S : Cst) (x0 : Nat)  (sz : Nat) : Met l yX0_freePlaces v_Y0_freePlaces ({ frames := 1, cells := 0, slots := 0, locals := 20 }) (va_Pc [.ref (ad x0)] (cSt G K ad sz S (iK S x0 0 ∧ p_Y0_freePlaces S x0))) (va_Qi (fun (r : Int32) (u : Cst) => (r, u) = (f_Y0_freePlaces S x0, S)) (cBt G K ad (va_A (wsC K ad S) sz)) (va_A (wsC K ad S) sz)) 0 0 (va_A (wsC K ad S) sz) := by
  refine Met.ofW (cc := cX0_freePlaces) (maxL := 3) (ret := (some .int)) (by decide) rfl ?_
  intro p e s m args below meth c s₁ B hml hv
  obtain ⟨rfl, ⟨hsz, hP, hK, hD0, hTE⟩, hp⟩ := hv
  obtain ⟨k_x0, hp⟩ := hp
  have hx := B.exec
  have hb := B.bytes
  have hr := B.returns
  have hts := atoms_spec (ws := v_Y0_freePlaces) B.pre
  have t_ := t_Y0_freePlaces
  have mw : ∀ w ∈ e_Y0_freePlaces, w ∈ v_Y0_freePlaces := fun w h => List.mem_cons_of_mem _ (List.mem_append_left _ h)
  have hw := fun w (h : w ∈ e_Y0_freePlaces) => hts w (mw w h)
  have iX0 : ∀ w ∈ wsX00, w ∈ v_Y0_freePlaces := fun w h => List.mem_cons_of_mem _ (List.mem_append_right _ (List.mem_append_left _ h))
  have j_Y6_isEmpty : ∀ w ∈ v_Y6_isEmpty, w ∈ v_Y0_freePlaces := fun w h => List.mem_cons_of_mem _ (List.mem_append_right _ (List.mem_append_right _ (List.mem_append_left _ h)))
  have hown : s.vm.findClass RX0 = some m.cls := findClass_of_methodNamed B.named
  have hlocks := B.notSynchronized
  subst hsz
  have hD := hD0.self (sz := s.heap.size)
  generalize hAe : va_A (wsC K ad S) s.heap.size = A at hD ⊢
  have hA : ∀ q : Nat, s.heap.size ≤ q → A q := fun q h => by rw [← hAe]; exact Or.inr h
  have hS : va_S A s.heap s.heap [] := va_S.rf
  have hl : lv_has (lg_sl ([.ref (ad x0)]) ++ List.replicate (3 - (lg_sl ([.ref (ad x0)])).length) Slot.unset).toArray 3 [(0, .ref (ad x0))] := by
    exact lv_entry ([.ref (ad x0)]) (n := 3) (Nat.le_of_ble_eq_true rfl)
  rw [lg_entry_eq]
  generalize (lg_sl ([.ref (ad x0)]) ++ List.replicate (3 - (lg_sl ([.ref (ad x0)])).length) Slot.unset).toArray = ls_ at hl ⊢
  refine wGen (fun Q hQ => ?_)
  obtain ⟨X, hX⟩ : ∃ X, f_Y0_freePlaces S x0 = X := ⟨_, rfl⟩
  have L_4 : ∀ (n : Nat) (x1 : Int32) (x2 : Int32) (H : Heap) (locs : List Loc) (ls_ : Array Slot), lp_Y0_freePlaces_4 S x0 n x1 x2 = X → lq_Y0_freePlaces_4 S x0 n x1 x2 → va_P G vwCl (wsC K ad S) H → va_D A (wsC K ad S) → va_S A s.heap H locs → lv_has ls_ 3 [(0, .ref (ad x0)), (1, .int x1), (2, .int x2)] → W p l e ({ frames := 1, cells := 0, slots := 0, locals := 20 } : Room) s m #[Value.ref (ad x0)] below meth c H locs 0 0 Q (F0 m 4 ls_ []) := by
    intro n1
    induction n1 with
    | zero => intro x1 x2 H locs ls_ hE hp; exact False.elim hp
    | succ n1 ih1 =>
      intro x1 x2 H locs ls_ hO1 hp hP hD hS hl
      rw [lp_Y0_freePlaces_4] at hO1
      rw [lq_Y0_freePlaces_4] at hp
      obtain ⟨hp, hq1⟩ := hp
      generalize hE : st_Y0_freePlaces_4 S x0 x1 x2 = Y1 at hO1 hq1
      unfold st_Y0_freePlaces_4 at hE
      unfold ps_Y0_freePlaces_4 at hp
      have B_Y0_freePlaces_25 : ∀ (x1 : Int32) (x2 : Int32) (H : Heap) (locs : List Loc) (ls_ : Array Slot), b_Y0_freePlaces_25 S x0 x1 x2 = Y1 → q_Y0_freePlaces_25 S x0 x1 x2 → va_P G vwCl (wsC K ad S) H → va_D A (wsC K ad S) → va_S A s.heap H locs → lv_has ls_ 3 [(0, .ref (ad x0)), (1, .int x1), (2, .int x2)] → W p l e ({ frames := 1, cells := 0, slots := 0, locals := 20 } : Room) s m #[Value.ref (ad x0)] below meth c H locs 0 0 Q (F0 m 25 ls_ []) := by
        intro x1 x2 H locs ls_ hE hp hP hD hS hl
        unfold b_Y0_freePlaces_25 at hE
        unfold q_Y0_freePlaces_25 at hp
        refine lv_iinc (i := 2) (v := (x2 + 1)) (lv' := [(2, .int (x2 + 1)), (0, .ref (ad x0)), (1, .int x1)]) hx hb dX0_freePlaces_25 hl (k := 2) rfl rfl (by decide) rfl (fun ls_ hl => ?_)
        refine lv_goto (tgt := 4) hx hb dX0_freePlaces_28 (by decide) ?_
        subst hE
        dsimp only at hO1 hq1
        exact ih1 x1 (x2 + 1) _ _ _ hO1 hq1 hP hD hS (lv_sub hl [1, 2, 0] rfl)
      have B_Y0_freePlaces_19a : ∀ (x1 : Int32) (x2 : Int32) (y0 : Int32) (H : Heap) (locs : List Loc) (ls_ : Array Slot), b_Y0_freePlaces_19a S x0 x1 x2 y0 = Y1 → q_Y0_freePlaces_19a S x0 x1 x2 y0 → va_P G vwCl (wsC K ad S) H → va_D A (wsC K ad S) → va_S A s.heap H locs → lv_has ls_ 3 [(0, .ref (ad x0)), (1, .int x1), (2, .int x2)] → W p l e ({ frames := 1, cells := 0, slots := 0, locals := 20 } : Room) s m #[Value.ref (ad x0)] below meth c H locs 0 0 Q (F0 m 19 ls_ [.int y0]) := by
        intro x1 x2 y0 H locs ls_ hE hp hP hD hS hl
        unfold b_Y0_freePlaces_19a at hE
        unfold q_Y0_freePlaces_19a at hp
        refine lv_if_eq (tgt := 25) hx hb dX0_freePlaces_19 (by decide) (fun c8 => ?_) (fun c8 => ?_)
        · rw [if_pos c8] at hE hp
          exact B_Y0_freePlaces_25 x1 x2 _ _ _ hE hp hP hD hS (lv_sub hl [0, 1, 2] rfl)
        · rw [if_neg c8] at hE hp
          refine lv_iinc (i := 1) (v := (x1 + 1)) (lv' := [(1, .int (x1 + 1)), (0, .ref (ad x0)), (2, .int x2)]) hx hb dX0_freePlaces_22 hl (k := 1) rfl rfl (by decide) rfl (fun ls_ hl => ?_)
          exact B_Y0_freePlaces_25 (x1 + 1) x2 _ _ _ hE hp hP hD hS (lv_sub hl [1, 0, 2] rfl)
      refine lv_iload_n hx hb dX0_freePlaces_4 rfl (lv_at hl 2 rfl) ?_
      refine lv_bipush (v := 8) hx hb dX0_freePlaces_5 (by decide) ?_
      refine lv_icmp_ge (tgt := 31) hx hb dX0_freePlaces_7 (by decide) (fun c1 => ?_) (fun c1 => ?_)
      · rw [if_pos c1] at hE hp
        subst hE
        have hE := hO1
        dsimp only at hE
        refine lv_iload_n hx hb dX0_freePlaces_31 rfl (lv_at hl 1 rfl) ?_
        subst hQ
        exact W.iret (v := x1) hx hb hr (fun t ht hW => ⟨⟨x1, S, rfl, (pair_i (hE.trans hX.symm)), by rw [ht]; exact hP, hD⟩, hS.F ht⟩) hS.2.2 dX0_freePlaces_32
      · rw [if_neg c1] at hE hp
        refine lv_aload_n hx hb dX0_freePlaces_10 rfl (lv_at hl 0 rfl) ?_
        refine va_get (D := G) (ci := 0) (v := va_re ad (grC S x0 3)) (C := RX0) (T := TX0) (N := 11) hx hb hts iX0 hown hK hP x0 (at_0 k_x0) rfl 3 (by decide) (hw (.fieldLink RX0 32 "MotionFloor$Assembly" "desk" "[LMotionFloor$Place;") (List.mem_of_getElem? (i := 0) rfl)) (fun _ h9 => h9) rfl dX0_freePlaces_11 ?_
        refine lv_iload_n hx hb dX0_freePlaces_14 rfl (lv_at hl 2 rfl) ?_
        obtain ⟨hy2, hp⟩ := hp
        refine cTop2 (r := (grC S x0 3)) hy2.1 ?_
        obtain ⟨hy3, hp⟩ := hp
        refine cAald hx hb hK hP ((grC S x0 3).getD 0) 4 (at_24 hy2.2) rfl hy3 dX0_freePlaces_15 ?_
        obtain ⟨hy4, hp⟩ := hp
        refine cTop (r := (grC S ((grC S x0 3).getD 0) x2.toNatClampNeg)) hy4.1 ?_
        obtain ⟨hy5, hp⟩ := hp
        refine cGoi (va_runV (As := []) (rest := []) ⟨hx, hb, hml, hown, hts⟩ (c_Y6_isEmpty l G K ad S ((grC S ((grC S x0 3).getD 0) x2.toNatClampNeg).getD 0) _) (cwV 0 hts (wGV t_ (mw (.methodLink RX0 141 yX6_isEmpty) (List.mem_of_getElem? (i := 1) rfl)) (mw (.instanceMethod yX6_isEmpty) (List.mem_of_getElem? (i := 2) rfl)) (mw (.selects RX6 yX6_isEmpty yX6_isEmpty) (List.mem_of_getElem? (i := 3) rfl)) (mw (.initialized RX6) (List.mem_of_getElem? (i := 4) rfl)) j_Y6_isEmpty) rfl rfl rfl (by decide +kernel) ⟨Nat.le_of_ble_eq_true rfl, Nat.le_of_ble_eq_true rfl⟩) (cPV hK hTE hP hD 5 rfl (at_5 hy4.2) ⟨hy4.2, hy5⟩) rfl rfl hl.1 rfl (lv_room (Nat.le_of_ble_eq_true rfl)) dX0_freePlaces_16 ⟨Nat.le_of_ble_eq_true rfl, Nat.le_of_ble_eq_true rfl⟩) hP hD hS hA (fun r7 u6 H locs hv hP hD hS => ?_)
        have h1 := congrArg Prod.fst hv
        have h2 := (congrArg Prod.snd hv).symm
        dsimp only at h1 h2
        subst h1
        subst h2
        exact B_Y0_freePlaces_19a x1 x2 (f_Y6_isEmpty S ((grC S ((grC S x0 3).getD 0) x2.toNatClampNeg).getD 0)) _ _ _ hE hp hP hD hS (lv_sub hl [0, 1, 2] rfl)
  have B_M : ∀ (H : Heap) (locs : List Loc) (ls_ : Array Slot), f_Y0_freePlaces S x0 = X → p_Y0_freePlaces S x0 → va_P G vwCl (wsC K ad S) H → va_D A (wsC K ad S) → va_S A s.heap H locs → lv_has ls_ 3 [(0, .ref (ad x0))] → W p l e ({ frames := 1, cells := 0, slots := 0, locals := 20 } : Room) s m #[Value.ref (ad x0)] below meth c H locs 0 0 Q (F0 m 0 ls_ []) := by
    intro  H locs ls_ hE hp hP hD hS hl
    unfold f_Y0_freePlaces at hE
    unfold p_Y0_freePlaces at hp
    refine lv_iconst (v := 0) hx hb dX0_freePlaces_0 (by decide) ?_
    refine lv_istore_n (i := 1) (lv' := [(1, .int 0), (0, .ref (ad x0))]) hx hb dX0_freePlaces_1 rfl hl (by decide) rfl (fun ls_ hl => ?_)
    refine lv_iconst (v := 0) hx hb dX0_freePlaces_2 (by decide) ?_
    refine lv_istore_n (i := 2) (lv' := [(2, .int 0), (1, .int 0), (0, .ref (ad x0))]) hx hb dX0_freePlaces_3 rfl hl (by decide) rfl (fun ls_ hl => ?_)
    exact L_4 100000 0 0 _ _ _ hE hp hP hD hS (lv_sub hl [2, 1, 0] rfl)
  exact B_M  _ _ _ hX hp hP hD hS hl
theorem gdX0_firstFreePlace_0 : ckS (List.drop 0 cX0_firstFreePlace.data.toList) 0 [(0, .iconst 0, 1), (1, .istore_n 1, 1), (2, .iload_n 1, 1), (3, .bipush 8, 2), (5, .if_icmp .ge 28, 3), (8, .aload_n 0, 1), (9, .getfield 32, 3), (12, .iload_n 1, 1), (13, .aaload, 1), (14, .invokevirtual 141, 3), (17, .ifCond .eq 10, 3), (20, .aload_n 0, 1), (21, .getfield 32, 3), (24, .iload_n 1, 1), (25, .aaload, 1), (26, .areturn, 1), (27, .iinc 1 1, 3), (30, .goto (-28), 3), (33, .aconst_null, 1), (34, .areturn, 1)] = true := by decide +kernel
theorem dX0_firstFreePlace_0 : decode cX0_firstFreePlace 0 = .ok (.iconst 0, 1) := ckS_g gdX0_firstFreePlace_0 0 rfl
theorem dX0_firstFreePlace_1 : decode cX0_firstFreePlace 1 = .ok (.istore_n 1, 1) := ckS_g gdX0_firstFreePlace_0 1 rfl
theorem dX0_firstFreePlace_2 : decode cX0_firstFreePlace 2 = .ok (.iload_n 1, 1) := ckS_g gdX0_firstFreePlace_0 2 rfl
theorem dX0_firstFreePlace_3 : decode cX0_firstFreePlace 3 = .ok (.bipush 8, 2) := ckS_g gdX0_firstFreePlace_0 3 rfl
theorem dX0_firstFreePlace_5 : decode cX0_firstFreePlace 5 = .ok (.if_icmp .ge 28, 3) := ckS_g gdX0_firstFreePlace_0 4 rfl
theorem dX0_firstFreePlace_8 : decode cX0_firstFreePlace 8 = .ok (.aload_n 0, 1) := ckS_g gdX0_firstFreePlace_0 5 rfl
theorem dX0_firstFreePlace_9 : decode cX0_firstFreePlace 9 = .ok (.getfield 32, 3) := ckS_g gdX0_firstFreePlace_0 6 rfl
theorem dX0_firstFreePlace_12 : decode cX0_firstFreePlace 12 = .ok (.iload_n 1, 1) := ckS_g gdX0_firstFreePlace_0 7 rfl
theorem dX0_firstFreePlace_13 : decode cX0_firstFreePlace 13 = .ok (.aaload, 1) := ckS_g gdX0_firstFreePlace_0 8 rfl
theorem dX0_firstFreePlace_14 : decode cX0_firstFreePlace 14 = .ok (.invokevirtual 141, 3) := ckS_g gdX0_firstFreePlace_0 9 rfl
theorem dX0_firstFreePlace_17 : decode cX0_firstFreePlace 17 = .ok (.ifCond .eq 10, 3) := ckS_g gdX0_firstFreePlace_0 10 rfl
theorem dX0_firstFreePlace_20 : decode cX0_firstFreePlace 20 = .ok (.aload_n 0, 1) := ckS_g gdX0_firstFreePlace_0 11 rfl
theorem dX0_firstFreePlace_21 : decode cX0_firstFreePlace 21 = .ok (.getfield 32, 3) := ckS_g gdX0_firstFreePlace_0 12 rfl
theorem dX0_firstFreePlace_24 : decode cX0_firstFreePlace 24 = .ok (.iload_n 1, 1) := ckS_g gdX0_firstFreePlace_0 13 rfl
theorem dX0_firstFreePlace_25 : decode cX0_firstFreePlace 25 = .ok (.aaload, 1) := ckS_g gdX0_firstFreePlace_0 14 rfl
theorem dX0_firstFreePlace_26 : decode cX0_firstFreePlace 26 = .ok (.areturn, 1) := ckS_g gdX0_firstFreePlace_0 15 rfl
theorem dX0_firstFreePlace_27 : decode cX0_firstFreePlace 27 = .ok (.iinc 1 1, 3) := ckS_g gdX0_firstFreePlace_0 16 rfl
theorem dX0_firstFreePlace_30 : decode cX0_firstFreePlace 30 = .ok (.goto (-28), 3) := ckS_g gdX0_firstFreePlace_0 17 rfl
theorem dX0_firstFreePlace_33 : decode cX0_firstFreePlace 33 = .ok (.aconst_null, 1) := ckS_g gdX0_firstFreePlace_0 18 rfl
theorem dX0_firstFreePlace_34 : decode cX0_firstFreePlace 34 = .ok (.areturn, 1) := ckS_g gdX0_firstFreePlace_0 19 rfl
set_option maxRecDepth 100000 in
theorem zc117 : wZ (.code yX0_firstFreePlace cX0_firstFreePlace 2 (some (.object "MotionFloor$Place"))) := ⟨wT3 (List.mem_of_getElem? (i := 221) rfl), Or.inl rfl⟩
def b_Y0_firstFreePlace_17a (S : Cst) (x0 : Nat) (x1 : Int32) (y0 : Int32) : (Option Nat) ⊕ (Int32) := if y0 = 0 then Sum.inr ((x1 + 1)) else Sum.inl ((grC S ((grC S x0 3).getD 0) x1.toNatClampNeg))
def q_Y0_firstFreePlace_17a (S : Cst) (x0 : Nat) (x1 : Int32) (y0 : Int32) : Prop := (if y0 = 0 then True else (iR S (grC S x0 3) 24) ∧ (vp_in x1 (lnC S ((grC S x0 3).getD 0))) ∧ True)
def st_Y0_firstFreePlace_2 (S : Cst) (x0 : Nat) (x1 : Int32) : (Option Nat) ⊕ (Int32) := if 8 ≤ x1 then Sum.inl (none) else (b_Y0_firstFreePlace_17a S x0 x1 (f_Y6_isEmpty S ((grC S ((grC S x0 3).getD 0) x1.toNatClampNeg).getD 0)))
def ps_Y0_firstFreePlace_2 (S : Cst) (x0 : Nat) (x1 : Int32) : Prop := (if 8 ≤ x1 then True else (iR S (grC S x0 3) 24) ∧ (vp_in x1 (lnC S ((grC S x0 3).getD 0))) ∧ (iR S (grC S ((grC S x0 3).getD 0) x1.toNatClampNeg) 5) ∧ (p_Y6_isEmpty S ((grC S ((grC S x0 3).getD 0) x1.toNatClampNeg).getD 0)) ∧ (q_Y0_firstFreePlace_17a S x0 x1 (f_Y6_isEmpty S ((grC S ((grC S x0 3).getD 0) x1.toNatClampNeg).getD 0))))
def lp_Y0_firstFreePlace_2 (S : Cst) (x0 : Nat) : Nat → Int32 → Option Nat
  | 0, _ => none
  | n + 1, x1 => match st_Y0_firstFreePlace_2 S x0 x1 with
    | Sum.inl r => r
    | Sum.inr q => lp_Y0_firstFreePlace_2 S x0 n q
def lq_Y0_firstFreePlace_2 (S : Cst) (x0 : Nat) : Nat → Int32 → Prop
  | 0, _ => False
  | n + 1, x1 => ps_Y0_firstFreePlace_2 S x0 x1 ∧ (match st_Y0_firstFreePlace_2 S x0 x1 with
    | Sum.inl _ => True
    | Sum.inr q => lq_Y0_firstFreePlace_2 S x0 n q)
def f_Y0_firstFreePlace (S : Cst) (x0 : Nat) : Option Nat := (lp_Y0_firstFreePlace_2 S x0 100000 0)
def p_Y0_firstFreePlace (S : Cst) (x0 : Nat) : Prop := (lq_Y0_firstFreePlace_2 S x0 100000 0)
def e_Y0_firstFreePlace : List Cond := [.fieldLink RX0 32 "MotionFloor$Assembly" "desk" "[LMotionFloor$Place;", .methodLink RX0 141 yX6_isEmpty, .instanceMethod yX6_isEmpty, .selects RX6 yX6_isEmpty yX6_isEmpty, .initialized RX6]
def v_Y0_firstFreePlace : List Cond := .code yX0_firstFreePlace cX0_firstFreePlace 2 (some (.object "MotionFloor$Place")) :: (e_Y0_firstFreePlace ++ (wsX00 ++ (v_Y6_isEmpty ++ [])))
theorem te_Y0_firstFreePlace : GoodIn lw_tbl e_Y0_firstFreePlace := wGc zc53 (wGc zc115 (wGc zc114 (wGc zc113 (wGc zc112 (wG0)))))
theorem t_Y0_firstFreePlace : GoodIn lw_tbl v_Y0_firstFreePlace := wGc zc117 (wGa te_Y0_firstFreePlace (wGa zcX0 (wGa t_Y6_isEmpty (wG0))))
set_option maxHeartbeats 4000000 in
set_option maxRecDepth 100000 in
theorem c_Y0_firstFreePlace (l : Launch) (G : va_G) (K : Nat → ClassId) (ad : Nat → Nat) (S : Cst) (x0 : Nat)  (sz : Nat) : Met l yX0_firstFreePlace v_Y0_firstFreePlace ({ frames := 1, cells := 0, slots := 0, locals := 20 }) (va_Pc [.ref (ad x0)] (cSt G K ad sz S (iK S x0 0 ∧ p_Y0_firstFreePlace S x0))) (va_Qq (fun (r : Option Nat) (u : Cst) => ∃ r', r = r'.map ad ∧ ((r', u) = (f_Y0_firstFreePlace S x0, S))) (cBt G K ad (va_A (wsC K ad S) sz)) (va_A (wsC K ad S) sz)) 0 0 (va_A (wsC K ad S) sz) := by
  refine Met.ofW (cc := cX0_firstFreePlace) (maxL := 2) (ret := (some (.object "MotionFloor$Place"))) (by decide) rfl ?_
  intro p e s m args below meth c s₁ B hml hv
  obtain ⟨rfl, ⟨hsz, hP, hK, hD0, hTE⟩, hp⟩ := hv
  obtain ⟨k_x0, hp⟩ := hp
  have hx := B.exec
  have hb := B.bytes
  have hr := B.returns
  have hts := atoms_spec (ws := v_Y0_firstFreePlace) B.pre
  have t_ := t_Y0_firstFreePlace
  have mw : ∀ w ∈ e_Y0_firstFreePlace, w ∈ v_Y0_firstFreePlace := fun w h => List.mem_cons_of_mem _ (List.mem_append_left _ h)
  have hw := fun w (h : w ∈ e_Y0_firstFreePlace) => hts w (mw w h)
  have iX0 : ∀ w ∈ wsX00, w ∈ v_Y0_firstFreePlace := fun w h => List.mem_cons_of_mem _ (List.mem_append_right _ (List.mem_append_left _ h))
  have j_Y6_isEmpty : ∀ w ∈ v_Y6_isEmpty, w ∈ v_Y0_firstFreePlace := fun w h => List.mem_cons_of_mem _ (List.mem_append_right _ (List.mem_append_right _ (List.mem_append_left _ h)))
  have hown : s.vm.findClass RX0 = some m.cls := findClass_of_methodNamed B.named
  have hlocks := B.notSynchronized
  subst hsz
  have hD := hD0.self (sz := s.heap.size)
  generalize hAe : va_A (wsC K ad S) s.heap.size = A at hD ⊢
  have hA : ∀ q : Nat, s.heap.size ≤ q → A q := fun q h => by rw [← hAe]; exact Or.inr h
  have hS : va_S A s.heap s.heap [] := va_S.rf
  have hl : lv_has (lg_sl ([.ref (ad x0)]) ++ List.replicate (2 - (lg_sl ([.ref (ad x0)])).length) Slot.unset).toArray 2 [(0, .ref (ad x0))] := by
    exact lv_entry ([.ref (ad x0)]) (n := 2) (Nat.le_of_ble_eq_true rfl)
  rw [lg_entry_eq]
  generalize (lg_sl ([.ref (ad x0)]) ++ List.replicate (2 - (lg_sl ([.ref (ad x0)])).length) Slot.unset).toArray = ls_ at hl ⊢
  refine wGen (fun Q hQ => ?_)
  obtain ⟨X, hX⟩ : ∃ X, f_Y0_firstFreePlace S x0 = X := ⟨_, rfl⟩
  have L_2 : ∀ (n : Nat) (x1 : Int32) (H : Heap) (locs : List Loc) (ls_ : Array Slot), lp_Y0_firstFreePlace_2 S x0 n x1 = X → lq_Y0_firstFreePlace_2 S x0 n x1 → va_P G vwCl (wsC K ad S) H → va_D A (wsC K ad S) → va_S A s.heap H locs → lv_has ls_ 2 [(0, .ref (ad x0)), (1, .int x1)] → W p l e ({ frames := 1, cells := 0, slots := 0, locals := 20 } : Room) s m #[Value.ref (ad x0)] below meth c H locs 0 0 Q (F0 m 2 ls_ []) := by
    intro n1
    induction n1 with
    | zero => intro x1 H locs ls_ hE hp; exact False.elim hp
    | succ n1 ih1 =>
      intro x1 H locs ls_ hO1 hp hP hD hS hl
      rw [lp_Y0_firstFreePlace_2] at hO1
      rw [lq_Y0_firstFreePlace_2] at hp
      obtain ⟨hp, hq1⟩ := hp
      generalize hE : st_Y0_firstFreePlace_2 S x0 x1 = Y1 at hO1 hq1
      unfold st_Y0_firstFreePlace_2 at hE
      unfold ps_Y0_firstFreePlace_2 at hp
      have B_Y0_firstFreePlace_17a : ∀ (x1 : Int32) (y0 : Int32) (H : Heap) (locs : List Loc) (ls_ : Array Slot), b_Y0_firstFreePlace_17a S x0 x1 y0 = Y1 → q_Y0_firstFreePlace_17a S x0 x1 y0 → va_P G vwCl (wsC K ad S) H → va_D A (wsC K ad S) → va_S A s.heap H locs → lv_has ls_ 2 [(0, .ref (ad x0)), (1, .int x1)] → W p l e ({ frames := 1, cells := 0, slots := 0, locals := 20 } : Room) s m #[Value.ref (ad x0)] below meth c H locs 0 0 Q (F0 m 17 ls_ [.int y0]) := by
        intro x1 y0 H locs ls_ hE hp hP hD hS hl
        unfold b_Y0_firstFreePlace_17a at hE
        unfold q_Y0_firstFreePlace_17a at hp
        refine lv_if_eq (tgt := 27) hx hb dX0_firstFreePlace_17 (by decide) (fun c8 => ?_) (fun c8 => ?_)
        · rw [if_pos c8] at hE hp
          refine lv_iinc (i := 1) (v := (x1 + 1)) (lv' := [(1, .int (x1 + 1)), (0, .ref (ad x0))]) hx hb dX0_firstFreePlace_27 hl (k := 1) rfl rfl (by decide) rfl (fun ls_ hl => ?_)
          refine lv_goto (tgt := 2) hx hb dX0_firstFreePlace_30 (by decide) ?_
          subst hE
          dsimp only at hO1 hq1
          exact ih1 (x1 + 1) _ _ _ hO1 hq1 hP hD hS (lv_sub hl [1, 0] rfl)
        · rw [if_neg c8] at hE hp
          subst hE
          have hE := hO1
          dsimp only at hE
          refine lv_aload_n hx hb dX0_firstFreePlace_20 rfl (lv_at hl 0 rfl) ?_
          refine va_get (D := G) (ci := 0) (v := va_re ad (grC S x0 3)) (C := RX0) (T := TX0) (N := 11) hx hb hts iX0 hown hK hP x0 (at_0 k_x0) rfl 3 (by decide) (hw (.fieldLink RX0 32 "MotionFloor$Assembly" "desk" "[LMotionFloor$Place;") (List.mem_of_getElem? (i := 0) rfl)) (fun _ h9 => h9) rfl dX0_firstFreePlace_21 ?_
          refine lv_iload_n hx hb dX0_firstFreePlace_24 rfl (lv_at hl 1 rfl) ?_
          obtain ⟨hy9, hp⟩ := hp
          refine cTop2 (r := (grC S x0 3)) hy9.1 ?_
          obtain ⟨hy10, hp⟩ := hp
          refine cAald hx hb hK hP ((grC S x0 3).getD 0) 4 (at_24 hy9.2) rfl hy10 dX0_firstFreePlace_25 ?_
          subst hQ
          exact W.aret (v := va_re ad (grC S ((grC S x0 3).getD 0) x1.toNatClampNeg)) hx hb hr (Or.inl ⟨_, rfl⟩) (va_re_or ad _) (fun t ht hW => ⟨⟨(grC S ((grC S x0 3).getD 0) x1.toNatClampNeg).map ad, S, rfl, ⟨(grC S ((grC S x0 3).getD 0) x1.toNatClampNeg), rfl, (pair_i (hE.trans hX.symm))⟩, by rw [ht]; exact hP, hD⟩, hS.F ht⟩) hS.2.2 dX0_firstFreePlace_26
      refine lv_iload_n hx hb dX0_firstFreePlace_2 rfl (lv_at hl 1 rfl) ?_
      refine lv_bipush (v := 8) hx hb dX0_firstFreePlace_3 (by decide) ?_
      refine lv_icmp_ge (tgt := 33) hx hb dX0_firstFreePlace_5 (by decide) (fun c1 => ?_) (fun c1 => ?_)
      · rw [if_pos c1] at hE hp
        subst hE
        have hE := hO1
        dsimp only at hE
        refine lv_null hx hb dX0_firstFreePlace_33 ?_
        rw [← re_none (ad := ad) (r := none) rfl]
        subst hQ
        exact W.aret (v := va_re ad none) hx hb hr (Or.inl ⟨_, rfl⟩) (va_re_or ad _) (fun t ht hW => ⟨⟨none.map ad, S, rfl, ⟨none, rfl, (pair_i (hE.trans hX.symm))⟩, by rw [ht]; exact hP, hD⟩, hS.F ht⟩) hS.2.2 dX0_firstFreePlace_34
      · rw [if_neg c1] at hE hp
        refine lv_aload_n hx hb dX0_firstFreePlace_8 rfl (lv_at hl 0 rfl) ?_
        refine va_get (D := G) (ci := 0) (v := va_re ad (grC S x0 3)) (C := RX0) (T := TX0) (N := 11) hx hb hts iX0 hown hK hP x0 (at_0 k_x0) rfl 3 (by decide) (hw (.fieldLink RX0 32 "MotionFloor$Assembly" "desk" "[LMotionFloor$Place;") (List.mem_of_getElem? (i := 0) rfl)) (fun _ h9 => h9) rfl dX0_firstFreePlace_9 ?_
        refine lv_iload_n hx hb dX0_firstFreePlace_12 rfl (lv_at hl 1 rfl) ?_
        obtain ⟨hy2, hp⟩ := hp
        refine cTop2 (r := (grC S x0 3)) hy2.1 ?_
        obtain ⟨hy3, hp⟩ := hp
        refine cAald hx hb hK hP ((grC S x0 3).getD 0) 4 (at_24 hy2.2) rfl hy3 dX0_firstFreePlace_13 ?_
        obtain ⟨hy4, hp⟩ := hp
        refine cTop (r := (grC S ((grC S x0 3).getD 0) x1.toNatClampNeg)) hy4.1 ?_
        obtain ⟨hy5, hp⟩ := hp
        refine cGoi (va_runV (As := []) (rest := []) ⟨hx, hb, hml, hown, hts⟩ (c_Y6_isEmpty l G K ad S ((grC S ((grC S x0 3).getD 0) x1.toNatClampNeg).getD 0) _) (cwV 0 hts (wGV t_ (mw (.methodLink RX0 141 yX6_isEmpty) (List.mem_of_getElem? (i := 1) rfl)) (mw (.instanceMethod yX6_isEmpty) (List.mem_of_getElem? (i := 2) rfl)) (mw (.selects RX6 yX6_isEmpty yX6_isEmpty) (List.mem_of_getElem? (i := 3) rfl)) (mw (.initialized RX6) (List.mem_of_getElem? (i := 4) rfl)) j_Y6_isEmpty) rfl rfl rfl (by decide +kernel) ⟨Nat.le_of_ble_eq_true rfl, Nat.le_of_ble_eq_true rfl⟩) (cPV hK hTE hP hD 5 rfl (at_5 hy4.2) ⟨hy4.2, hy5⟩) rfl rfl hl.1 rfl (lv_room (Nat.le_of_ble_eq_true rfl)) dX0_firstFreePlace_14 ⟨Nat.le_of_ble_eq_true rfl, Nat.le_of_ble_eq_true rfl⟩) hP hD hS hA (fun r7 u6 H locs hv hP hD hS => ?_)
        have h1 := congrArg Prod.fst hv
        have h2 := (congrArg Prod.snd hv).symm
        dsimp only at h1 h2
        subst h1
        subst h2
        exact B_Y0_firstFreePlace_17a x1 (f_Y6_isEmpty S ((grC S ((grC S x0 3).getD 0) x1.toNatClampNeg).getD 0)) _ _ _ hE hp hP hD hS (lv_sub hl [0, 1] rfl)
  have B_M : ∀ (H : Heap) (locs : List Loc) (ls_ : Array Slot), f_Y0_firstFreePlace S x0 = X → p_Y0_firstFreePlace S x0 → va_P G vwCl (wsC K ad S) H → va_D A (wsC K ad S) → va_S A s.heap H locs → lv_has ls_ 2 [(0, .ref (ad x0))] → W p l e ({ frames := 1, cells := 0, slots := 0, locals := 20 } : Room) s m #[Value.ref (ad x0)] below meth c H locs 0 0 Q (F0 m 0 ls_ []) := by
    intro  H locs ls_ hE hp hP hD hS hl
    unfold f_Y0_firstFreePlace at hE
    unfold p_Y0_firstFreePlace at hp
    refine lv_iconst (v := 0) hx hb dX0_firstFreePlace_0 (by decide) ?_
    refine lv_istore_n (i := 1) (lv' := [(1, .int 0), (0, .ref (ad x0))]) hx hb dX0_firstFreePlace_1 rfl hl (by decide) rfl (fun ls_ hl => ?_)
    exact L_2 100000 0 _ _ _ hE hp hP hD hS (lv_sub hl [1, 0] rfl)
  exact B_M  _ _ _ hX hp hP hD hS hl
theorem gdX0_wordOf_0 : ckS (List.drop 0 cX0_wordOf.data.toList) 0 [(0, .iload_n 1, 1), (1, .iconst (-1), 1), (2, .if_icmp .ne 12, 3), (14, .iload_n 1, 1), (15, .bipush 9, 2), (17, .if_icmp .ne 13, 3), (30, .aload_n 0, 1), (31, .getfield 21, 3), (34, .iload_n 1, 1), (35, .invokevirtual 97, 3)] = true := by decide +kernel
theorem dX0_wordOf_0 : decode cX0_wordOf 0 = .ok (.iload_n 1, 1) := ckS_g gdX0_wordOf_0 0 rfl
theorem dX0_wordOf_1 : decode cX0_wordOf 1 = .ok (.iconst (-1), 1) := ckS_g gdX0_wordOf_0 1 rfl
theorem dX0_wordOf_2 : decode cX0_wordOf 2 = .ok (.if_icmp .ne 12, 3) := ckS_g gdX0_wordOf_0 2 rfl
theorem dX0_wordOf_14 : decode cX0_wordOf 14 = .ok (.iload_n 1, 1) := ckS_g gdX0_wordOf_0 3 rfl
theorem dX0_wordOf_15 : decode cX0_wordOf 15 = .ok (.bipush 9, 2) := ckS_g gdX0_wordOf_0 4 rfl
theorem dX0_wordOf_17 : decode cX0_wordOf 17 = .ok (.if_icmp .ne 13, 3) := ckS_g gdX0_wordOf_0 5 rfl
theorem dX0_wordOf_30 : decode cX0_wordOf 30 = .ok (.aload_n 0, 1) := ckS_g gdX0_wordOf_0 6 rfl
theorem dX0_wordOf_31 : decode cX0_wordOf 31 = .ok (.getfield 21, 3) := ckS_g gdX0_wordOf_0 7 rfl
theorem dX0_wordOf_34 : decode cX0_wordOf 34 = .ok (.iload_n 1, 1) := ckS_g gdX0_wordOf_0 8 rfl
theorem dX0_wordOf_35 : decode cX0_wordOf 35 = .ok (.invokevirtual 97, 3) := ckS_g gdX0_wordOf_0 9 rfl
theorem gdX5_at_0 : ckS (List.drop 0 cX5_at.data.toList) 0 [(0, .iload_n 1, 1), (1, .ifCond .lt 20, 3), (4, .iload_n 1, 1), (5, .aload_n 0, 1), (6, .getfield 17, 3), (9, .if_icmp .ge 12, 3), (12, .iload_n 1, 1), (13, .aload_n 0, 1), (14, .getfield 11, 3), (17, .arraylength, 1), (18, .if_icmp .lt 7, 3), (21, .aconst_null, 1), (22, .goto 9, 3), (25, .aload_n 0, 1), (26, .getfield 11, 3), (29, .iload_n 1, 1), (30, .aaload, 1), (31, .areturn, 1)] = true := by decide +kernel
theorem dX5_at_0 : decode cX5_at 0 = .ok (.iload_n 1, 1) := ckS_g gdX5_at_0 0 rfl
theorem dX5_at_1 : decode cX5_at 1 = .ok (.ifCond .lt 20, 3) := ckS_g gdX5_at_0 1 rfl
theorem dX5_at_4 : decode cX5_at 4 = .ok (.iload_n 1, 1) := ckS_g gdX5_at_0 2 rfl
theorem dX5_at_5 : decode cX5_at 5 = .ok (.aload_n 0, 1) := ckS_g gdX5_at_0 3 rfl
theorem dX5_at_6 : decode cX5_at 6 = .ok (.getfield 17, 3) := ckS_g gdX5_at_0 4 rfl
theorem dX5_at_9 : decode cX5_at 9 = .ok (.if_icmp .ge 12, 3) := ckS_g gdX5_at_0 5 rfl
theorem dX5_at_12 : decode cX5_at 12 = .ok (.iload_n 1, 1) := ckS_g gdX5_at_0 6 rfl
theorem dX5_at_13 : decode cX5_at 13 = .ok (.aload_n 0, 1) := ckS_g gdX5_at_0 7 rfl
theorem dX5_at_14 : decode cX5_at 14 = .ok (.getfield 11, 3) := ckS_g gdX5_at_0 8 rfl
theorem dX5_at_17 : decode cX5_at 17 = .ok (.arraylength, 1) := ckS_g gdX5_at_0 9 rfl
theorem dX5_at_18 : decode cX5_at 18 = .ok (.if_icmp .lt 7, 3) := ckS_g gdX5_at_0 10 rfl
theorem dX5_at_21 : decode cX5_at 21 = .ok (.aconst_null, 1) := ckS_g gdX5_at_0 11 rfl
theorem dX5_at_22 : decode cX5_at 22 = .ok (.goto 9, 3) := ckS_g gdX5_at_0 12 rfl
theorem dX5_at_25 : decode cX5_at 25 = .ok (.aload_n 0, 1) := ckS_g gdX5_at_0 13 rfl
theorem dX5_at_26 : decode cX5_at 26 = .ok (.getfield 11, 3) := ckS_g gdX5_at_0 14 rfl
theorem dX5_at_29 : decode cX5_at 29 = .ok (.iload_n 1, 1) := ckS_g gdX5_at_0 15 rfl
theorem dX5_at_30 : decode cX5_at 30 = .ok (.aaload, 1) := ckS_g gdX5_at_0 16 rfl
theorem dX5_at_31 : decode cX5_at 31 = .ok (.areturn, 1) := ckS_g gdX5_at_0 17 rfl
set_option maxRecDepth 100000 in
theorem zc118 : wZ (.code yX5_at cX5_at 2 (some (.object "MotionFloor$Motion"))) := ⟨wT2 (List.mem_of_getElem? (i := 82) rfl), Or.inl rfl⟩
def b_Y5_at_31 (S : Cst) (x0 : Nat) (x1 : Int32) (o0 : Option Nat) : Option Nat := o0
def q_Y5_at_31 (S : Cst) (x0 : Nat) (x1 : Int32) (o0 : Option Nat) : Prop := True
def b_Y5_at_21 (S : Cst) (x0 : Nat) (x1 : Int32) : Option Nat := (b_Y5_at_31 S x0 x1 none)
def q_Y5_at_21 (S : Cst) (x0 : Nat) (x1 : Int32) : Prop := (q_Y5_at_31 S x0 x1 none)
def f_Y5_at (S : Cst) (x0 : Nat) (x1 : Int32) : Option Nat := if x1 < 0 then (b_Y5_at_21 S x0 x1) else if (giC S x0 1) ≤ x1 then (b_Y5_at_21 S x0 x1) else if x1 < (Int32.ofNat (lnC S ((grC S x0 0).getD 0))) then (b_Y5_at_31 S x0 x1 (grC S ((grC S x0 0).getD 0) x1.toNatClampNeg)) else (b_Y5_at_21 S x0 x1)
def p_Y5_at (S : Cst) (x0 : Nat) (x1 : Int32) : Prop := (if x1 < 0 then (q_Y5_at_21 S x0 x1) else (if (giC S x0 1) ≤ x1 then (q_Y5_at_21 S x0 x1) else (iR S (grC S x0 0) 23) ∧ (if x1 < (Int32.ofNat (lnC S ((grC S x0 0).getD 0))) then (iR S (grC S x0 0) 23) ∧ (vp_in x1 (lnC S ((grC S x0 0).getD 0))) ∧ (q_Y5_at_31 S x0 x1 (grC S ((grC S x0 0).getD 0) x1.toNatClampNeg)) else (q_Y5_at_21 S x0 x1))))
def e_Y5_at : List Cond := [.fieldLink RX5 17 "MotionFloor$Pile" "size" "I", .fieldLink RX5 11 "MotionFloor$Pile" "motions" "[LMotionFloor$Motion;"]
def v_Y5_at : List Cond := .code yX5_at cX5_at 2 (some (.object "MotionFloor$Motion")) :: (e_Y5_at ++ (wsX50 ++ []))
theorem te_Y5_at : GoodIn lw_tbl e_Y5_at := wGc zc3 (wGc zc2 (wG0))
theorem t_Y5_at : GoodIn lw_tbl v_Y5_at := wGc zc118 (wGa te_Y5_at (wGa zcX5 (wG0)))
set_option maxHeartbeats 4000000 in
set_option maxRecDepth 100000 in
theorem c_Y5_at (l : Launch) (G : va_G) (K : Nat → ClassId) (ad : Nat → Nat) (S : Cst) (x0 : Nat) (a1 : Int32) (sz : Nat) : Met l yX5_at v_Y5_at ({ frames := 0, cells := 0, slots := 0, locals := 0 }) (va_Pc [.ref (ad x0), .int a1] (cSt G K ad sz S (iK S x0 4 ∧ p_Y5_at S x0 a1))) (va_Qq (fun (r : Option Nat) (u : Cst) => ∃ r', r = r'.map ad ∧ ((r', u) = (f_Y5_at S x0 a1, S))) (cBt G K ad (va_A (wsC K ad S) sz)) (va_A (wsC K ad S) sz)) 0 0 (va_A (wsC K ad S) sz) := by
  refine Met.ofW (cc := cX5_at) (maxL := 2) (ret := (some (.object "MotionFloor$Motion"))) (by decide) rfl ?_
  intro p e s m args below meth c s₁ B hml hv
  obtain ⟨rfl, ⟨hsz, hP, hK, hD0, hTE⟩, hp⟩ := hv
  obtain ⟨k_x0, hp⟩ := hp
  have hx := B.exec
  have hb := B.bytes
  have hr := B.returns
  have hts := atoms_spec (ws := v_Y5_at) B.pre
  have t_ := t_Y5_at
  have mw : ∀ w ∈ e_Y5_at, w ∈ v_Y5_at := fun w h => List.mem_cons_of_mem _ (List.mem_append_left _ h)
  have hw := fun w (h : w ∈ e_Y5_at) => hts w (mw w h)
  have iX5 : ∀ w ∈ wsX50, w ∈ v_Y5_at := fun w h => List.mem_cons_of_mem _ (List.mem_append_right _ (List.mem_append_left _ h))
  have hown : s.vm.findClass RX5 = some m.cls := findClass_of_methodNamed B.named
  have hlocks := B.notSynchronized
  subst hsz
  have hD := hD0.self (sz := s.heap.size)
  generalize hAe : va_A (wsC K ad S) s.heap.size = A at hD ⊢
  have hA : ∀ q : Nat, s.heap.size ≤ q → A q := fun q h => by rw [← hAe]; exact Or.inr h
  have hS : va_S A s.heap s.heap [] := va_S.rf
  have hl : lv_has (lg_sl ([.ref (ad x0), .int a1]) ++ List.replicate (2 - (lg_sl ([.ref (ad x0), .int a1])).length) Slot.unset).toArray 2 [(0, .ref (ad x0)), (1, .int a1)] := by
    exact lv_entry ([.ref (ad x0), .int a1]) (n := 2) (Nat.le_of_ble_eq_true rfl)
  rw [lg_entry_eq]
  generalize (lg_sl ([.ref (ad x0), .int a1]) ++ List.replicate (2 - (lg_sl ([.ref (ad x0), .int a1])).length) Slot.unset).toArray = ls_ at hl ⊢
  refine wGen (fun Q hQ => ?_)
  obtain ⟨X, hX⟩ : ∃ X, f_Y5_at S x0 a1 = X := ⟨_, rfl⟩
  have B_Y5_at_31 : ∀ (x1 : Int32) (o0 : Option Nat) (H : Heap) (locs : List Loc) (ls_ : Array Slot), b_Y5_at_31 S x0 x1 o0 = X → q_Y5_at_31 S x0 x1 o0 → va_P G vwCl (wsC K ad S) H → va_D A (wsC K ad S) → va_S A s.heap H locs → lv_has ls_ 2 [(0, .ref (ad x0)), (1, .int x1)] → W p l e ({ frames := 0, cells := 0, slots := 0, locals := 0 } : Room) s m #[Value.ref (ad x0), Value.int a1] below meth c H locs 0 0 Q (F0 m 31 ls_ [va_re ad o0]) := by
    intro x1 o0 H locs ls_ hE hp hP hD hS hl
    unfold b_Y5_at_31 at hE
    unfold q_Y5_at_31 at hp
    subst hQ
    exact W.aret (v := va_re ad o0) hx hb hr (Or.inl ⟨_, rfl⟩) (va_re_or ad _) (fun t ht hW => ⟨⟨o0.map ad, S, rfl, ⟨o0, rfl, (pair_i (hE.trans hX.symm))⟩, by rw [ht]; exact hP, hD⟩, hS.F ht⟩) hS.2.2 dX5_at_31
  have B_Y5_at_21 : ∀ (x1 : Int32) (H : Heap) (locs : List Loc) (ls_ : Array Slot), b_Y5_at_21 S x0 x1 = X → q_Y5_at_21 S x0 x1 → va_P G vwCl (wsC K ad S) H → va_D A (wsC K ad S) → va_S A s.heap H locs → lv_has ls_ 2 [(0, .ref (ad x0)), (1, .int x1)] → W p l e ({ frames := 0, cells := 0, slots := 0, locals := 0 } : Room) s m #[Value.ref (ad x0), Value.int a1] below meth c H locs 0 0 Q (F0 m 21 ls_ []) := by
    intro x1 H locs ls_ hE hp hP hD hS hl
    unfold b_Y5_at_21 at hE
    unfold q_Y5_at_21 at hp
    refine lv_null hx hb dX5_at_21 ?_
    rw [← re_none (ad := ad) (r := none) rfl]
    refine lv_goto (tgt := 31) hx hb dX5_at_22 (by decide) ?_
    exact B_Y5_at_31 x1 none _ _ _ hE hp hP hD hS (lv_sub hl [0, 1] rfl)
  have B_M : ∀ (x1 : Int32) (H : Heap) (locs : List Loc) (ls_ : Array Slot), f_Y5_at S x0 x1 = X → p_Y5_at S x0 x1 → va_P G vwCl (wsC K ad S) H → va_D A (wsC K ad S) → va_S A s.heap H locs → lv_has ls_ 2 [(0, .ref (ad x0)), (1, .int x1)] → W p l e ({ frames := 0, cells := 0, slots := 0, locals := 0 } : Room) s m #[Value.ref (ad x0), Value.int a1] below meth c H locs 0 0 Q (F0 m 0 ls_ []) := by
    intro x1 H locs ls_ hE hp hP hD hS hl
    unfold f_Y5_at at hE
    unfold p_Y5_at at hp
    refine lv_iload_n hx hb dX5_at_0 rfl (lv_at hl 1 rfl) ?_
    refine lv_if_lt (tgt := 21) hx hb dX5_at_1 (by decide) (fun c1 => ?_) (fun c1 => ?_)
    · rw [if_pos c1] at hE hp
      exact B_Y5_at_21 x1 _ _ _ hE hp hP hD hS (lv_sub hl [0, 1] rfl)
    · rw [if_neg c1] at hE hp
      refine lv_iload_n hx hb dX5_at_4 rfl (lv_at hl 1 rfl) ?_
      refine lv_aload_n hx hb dX5_at_5 rfl (lv_at hl 0 rfl) ?_
      refine va_get (D := G) (ci := 4) (v := .int (giC S x0 1)) (C := RX5) (T := TX5) (N := 2) hx hb hts iX5 hown hK hP x0 (at_4 k_x0) rfl 1 (by decide) (hw (.fieldLink RX5 17 "MotionFloor$Pile" "size" "I") (List.mem_of_getElem? (i := 0) rfl)) (fun _ h9 => h9) rfl dX5_at_6 ?_
      refine lv_icmp_ge (tgt := 21) hx hb dX5_at_9 (by decide) (fun c2 => ?_) (fun c2 => ?_)
      · rw [if_pos c2] at hE hp
        exact B_Y5_at_21 x1 _ _ _ hE hp hP hD hS (lv_sub hl [0, 1] rfl)
      · rw [if_neg c2] at hE hp
        refine lv_iload_n hx hb dX5_at_12 rfl (lv_at hl 1 rfl) ?_
        refine lv_aload_n hx hb dX5_at_13 rfl (lv_at hl 0 rfl) ?_
        refine va_get (D := G) (ci := 4) (v := va_re ad (grC S x0 0)) (C := RX5) (T := TX5) (N := 2) hx hb hts iX5 hown hK hP x0 (at_4 k_x0) rfl 0 (by decide) (hw (.fieldLink RX5 11 "MotionFloor$Pile" "motions" "[LMotionFloor$Motion;") (List.mem_of_getElem? (i := 1) rfl)) (fun _ h9 => h9) rfl dX5_at_14 ?_
        obtain ⟨hy3, hp⟩ := hp
        refine cTop (r := (grC S x0 0)) hy3.1 ?_
        refine va_alen (v := (Int32.ofNat (lnC S ((grC S x0 0).getD 0)))) hx hb hK hP ((grC S x0 0).getD 0) 3 (at_23 hy3.2) rfl rfl dX5_at_17 ?_
        refine lv_icmp_lt (tgt := 25) hx hb dX5_at_18 (by decide) (fun c4 => ?_) (fun c4 => ?_)
        · rw [if_pos c4] at hE hp
          refine lv_aload_n hx hb dX5_at_25 rfl (lv_at hl 0 rfl) ?_
          refine va_get (D := G) (ci := 4) (v := va_re ad (grC S x0 0)) (C := RX5) (T := TX5) (N := 2) hx hb hts iX5 hown hK hP x0 (at_4 k_x0) rfl 0 (by decide) (hw (.fieldLink RX5 11 "MotionFloor$Pile" "motions" "[LMotionFloor$Motion;") (List.mem_of_getElem? (i := 1) rfl)) (fun _ h9 => h9) rfl dX5_at_26 ?_
          refine lv_iload_n hx hb dX5_at_29 rfl (lv_at hl 1 rfl) ?_
          obtain ⟨hy5, hp⟩ := hp
          refine cTop2 (r := (grC S x0 0)) hy5.1 ?_
          obtain ⟨hy6, hp⟩ := hp
          refine cAald hx hb hK hP ((grC S x0 0).getD 0) 3 (at_23 hy5.2) rfl hy6 dX5_at_30 ?_
          exact B_Y5_at_31 x1 (grC S ((grC S x0 0).getD 0) x1.toNatClampNeg) _ _ _ hE hp hP hD hS (lv_sub hl [0, 1] rfl)
        · rw [if_neg c4] at hE hp
          exact B_Y5_at_21 x1 _ _ _ hE hp hP hD hS (lv_sub hl [0, 1] rfl)
  exact B_M a1 _ _ _ hX hp hP hD hS hl
theorem gdX0_wordOf_38 : ckS (List.drop 38 cX0_wordOf.data.toList) 38 [(38, .astore_n 3, 1), (39, .aload_n 3, 1), (40, .ifnonnull 7, 3), (43, .iconst (-1), 1), (44, .goto 11, 3), (47, .aload_n 3, 1), (48, .getfield 152, 3), (51, .iload_n 2, 1), (52, .invokevirtual 145, 3), (55, .ireturn, 1)] = true := by decide +kernel
theorem dX0_wordOf_38 : decode cX0_wordOf 38 = .ok (.astore_n 3, 1) := ckS_g gdX0_wordOf_38 0 rfl
theorem dX0_wordOf_39 : decode cX0_wordOf 39 = .ok (.aload_n 3, 1) := ckS_g gdX0_wordOf_38 1 rfl
theorem dX0_wordOf_40 : decode cX0_wordOf 40 = .ok (.ifnonnull 7, 3) := ckS_g gdX0_wordOf_38 2 rfl
theorem dX0_wordOf_43 : decode cX0_wordOf 43 = .ok (.iconst (-1), 1) := ckS_g gdX0_wordOf_38 3 rfl
theorem dX0_wordOf_44 : decode cX0_wordOf 44 = .ok (.goto 11, 3) := ckS_g gdX0_wordOf_38 4 rfl
theorem dX0_wordOf_47 : decode cX0_wordOf 47 = .ok (.aload_n 3, 1) := ckS_g gdX0_wordOf_38 5 rfl
theorem dX0_wordOf_48 : decode cX0_wordOf 48 = .ok (.getfield 152, 3) := ckS_g gdX0_wordOf_38 6 rfl
theorem dX0_wordOf_51 : decode cX0_wordOf 51 = .ok (.iload_n 2, 1) := ckS_g gdX0_wordOf_38 7 rfl
theorem dX0_wordOf_52 : decode cX0_wordOf 52 = .ok (.invokevirtual 145, 3) := ckS_g gdX0_wordOf_38 8 rfl
theorem dX0_wordOf_55 : decode cX0_wordOf 55 = .ok (.ireturn, 1) := ckS_g gdX0_wordOf_38 9 rfl
set_option maxRecDepth 100000 in
theorem zc119 : wZ (.fieldLink RX9 9 "MotionFloor$Text" "words" "[I") := ⟨wT1 (List.mem_of_getElem? (i := 152) (by decide +kernel)), Or.inl rfl⟩
set_option maxRecDepth 100000 in
theorem zc120 : wZ (.fieldLink RX9 15 "MotionFloor$Text" "size" "I") := ⟨wT1 (List.mem_of_getElem? (i := 153) (by decide +kernel)), Or.inl rfl⟩
set_option maxRecDepth 100000 in
theorem zc121 : wZ (.code yX9_wordAt cX9_wordAt 2 (some .int)) := ⟨wT4 (List.mem_of_getElem? (i := 141) rfl), Or.inl rfl⟩
def b_Y9_wordAt_31 (S : Cst) (x0 : Nat) (x1 : Int32) (y0 : Int32) : Int32 := y0
def q_Y9_wordAt_31 (S : Cst) (x0 : Nat) (x1 : Int32) (y0 : Int32) : Prop := True
def b_Y9_wordAt_21 (S : Cst) (x0 : Nat) (x1 : Int32) : Int32 := (b_Y9_wordAt_31 S x0 x1 (-1))
def q_Y9_wordAt_21 (S : Cst) (x0 : Nat) (x1 : Int32) : Prop := (q_Y9_wordAt_31 S x0 x1 (-1))
def f_Y9_wordAt (S : Cst) (x0 : Nat) (x1 : Int32) : Int32 := if x1 < 0 then (b_Y9_wordAt_21 S x0 x1) else if (giC S x0 1) ≤ x1 then (b_Y9_wordAt_21 S x0 x1) else if x1 < (Int32.ofNat (lnC S ((grC S x0 0).getD 0))) then (b_Y9_wordAt_31 S x0 x1 (giC S ((grC S x0 0).getD 0) x1.toNatClampNeg)) else (b_Y9_wordAt_21 S x0 x1)
def p_Y9_wordAt (S : Cst) (x0 : Nat) (x1 : Int32) : Prop := (if x1 < 0 then (q_Y9_wordAt_21 S x0 x1) else (if (giC S x0 1) ≤ x1 then (q_Y9_wordAt_21 S x0 x1) else (iR S (grC S x0 0) 20) ∧ (if x1 < (Int32.ofNat (lnC S ((grC S x0 0).getD 0))) then (iR S (grC S x0 0) 20) ∧ (vp_in x1 (lnC S ((grC S x0 0).getD 0))) ∧ (q_Y9_wordAt_31 S x0 x1 (giC S ((grC S x0 0).getD 0) x1.toNatClampNeg)) else (q_Y9_wordAt_21 S x0 x1))))
def e_Y9_wordAt : List Cond := [.fieldLink RX9 15 "MotionFloor$Text" "size" "I", .fieldLink RX9 9 "MotionFloor$Text" "words" "[I"]
def v_Y9_wordAt : List Cond := .code yX9_wordAt cX9_wordAt 2 (some .int) :: (e_Y9_wordAt ++ (wsX90 ++ []))
theorem te_Y9_wordAt : GoodIn lw_tbl e_Y9_wordAt := wGc zc120 (wGc zc119 (wG0))
theorem t_Y9_wordAt : GoodIn lw_tbl v_Y9_wordAt := wGc zc121 (wGa te_Y9_wordAt (wGa zcX9 (wG0)))
set_option maxHeartbeats 4000000 in
set_option maxRecDepth 100000 in
theorem c_Y9_wordAt (l : Launch) (G : va_G) (K : Nat → ClassId) (ad : Nat → Nat) (S : Cst) (x0 : Nat) (a1 : Int32) (sz : Nat) : Met l yX9_wordAt v_Y9_wordAt ({ frames := 0, cells := 0, slots := 0, locals := 0 }) (va_Pc [.ref (ad x0), .int a1] (cSt G K ad sz S (iK S x0 6 ∧ p_Y9_wordAt S x0 a1))) (va_Qi (fun (r : Int32) (u : Cst) => (r, u) = (f_Y9_wordAt S x0 a1, S)) (cBt G K ad (va_A (wsC K ad S) sz)) (va_A (wsC K ad S) sz)) 0 0 (va_A (wsC K ad S) sz) := by
  refine Met.ofW (cc := cX9_wordAt) (maxL := 2) (ret := (some .int)) (by decide) rfl ?_
  intro p e s m args below meth c s₁ B hml hv
  obtain ⟨rfl, ⟨hsz, hP, hK, hD0, hTE⟩, hp⟩ := hv
  obtain ⟨k_x0, hp⟩ := hp
  have hx := B.exec
  have hb := B.bytes
  have hr := B.returns
  have hts := atoms_spec (ws := v_Y9_wordAt) B.pre
  have t_ := t_Y9_wordAt
  have mw : ∀ w ∈ e_Y9_wordAt, w ∈ v_Y9_wordAt := fun w h => List.mem_cons_of_mem _ (List.mem_append_left _ h)
  have hw := fun w (h : w ∈ e_Y9_wordAt) => hts w (mw w h)
  have iX9 : ∀ w ∈ wsX90, w ∈ v_Y9_wordAt := fun w h => List.mem_cons_of_mem _ (List.mem_append_right _ (List.mem_append_left _ h))
  have hown : s.vm.findClass RX9 = some m.cls := findClass_of_methodNamed B.named
  have hlocks := B.notSynchronized
  subst hsz
  have hD := hD0.self (sz := s.heap.size)
  generalize hAe : va_A (wsC K ad S) s.heap.size = A at hD ⊢
  have hA : ∀ q : Nat, s.heap.size ≤ q → A q := fun q h => by rw [← hAe]; exact Or.inr h
  have hS : va_S A s.heap s.heap [] := va_S.rf
  have hl : lv_has (lg_sl ([.ref (ad x0), .int a1]) ++ List.replicate (2 - (lg_sl ([.ref (ad x0), .int a1])).length) Slot.unset).toArray 2 [(0, .ref (ad x0)), (1, .int a1)] := by
    exact lv_entry ([.ref (ad x0), .int a1]) (n := 2) (Nat.le_of_ble_eq_true rfl)
  rw [lg_entry_eq]
  generalize (lg_sl ([.ref (ad x0), .int a1]) ++ List.replicate (2 - (lg_sl ([.ref (ad x0), .int a1])).length) Slot.unset).toArray = ls_ at hl ⊢
  refine wGen (fun Q hQ => ?_)
  obtain ⟨X, hX⟩ : ∃ X, f_Y9_wordAt S x0 a1 = X := ⟨_, rfl⟩
  have B_Y9_wordAt_31 : ∀ (x1 : Int32) (y0 : Int32) (H : Heap) (locs : List Loc) (ls_ : Array Slot), b_Y9_wordAt_31 S x0 x1 y0 = X → q_Y9_wordAt_31 S x0 x1 y0 → va_P G vwCl (wsC K ad S) H → va_D A (wsC K ad S) → va_S A s.heap H locs → lv_has ls_ 2 [(0, .ref (ad x0)), (1, .int x1)] → W p l e ({ frames := 0, cells := 0, slots := 0, locals := 0 } : Room) s m #[Value.ref (ad x0), Value.int a1] below meth c H locs 0 0 Q (F0 m 31 ls_ [.int y0]) := by
    intro x1 y0 H locs ls_ hE hp hP hD hS hl
    unfold b_Y9_wordAt_31 at hE
    unfold q_Y9_wordAt_31 at hp
    subst hQ
    exact W.iret (v := y0) hx hb hr (fun t ht hW => ⟨⟨y0, S, rfl, (pair_i (hE.trans hX.symm)), by rw [ht]; exact hP, hD⟩, hS.F ht⟩) hS.2.2 dX9_wordAt_31
  have B_Y9_wordAt_21 : ∀ (x1 : Int32) (H : Heap) (locs : List Loc) (ls_ : Array Slot), b_Y9_wordAt_21 S x0 x1 = X → q_Y9_wordAt_21 S x0 x1 → va_P G vwCl (wsC K ad S) H → va_D A (wsC K ad S) → va_S A s.heap H locs → lv_has ls_ 2 [(0, .ref (ad x0)), (1, .int x1)] → W p l e ({ frames := 0, cells := 0, slots := 0, locals := 0 } : Room) s m #[Value.ref (ad x0), Value.int a1] below meth c H locs 0 0 Q (F0 m 21 ls_ []) := by
    intro x1 H locs ls_ hE hp hP hD hS hl
    unfold b_Y9_wordAt_21 at hE
    unfold q_Y9_wordAt_21 at hp
    refine lv_iconst (v := (-1)) hx hb dX9_wordAt_21 (by decide) ?_
    refine lv_goto (tgt := 31) hx hb dX9_wordAt_22 (by decide) ?_
    exact B_Y9_wordAt_31 x1 (-1) _ _ _ hE hp hP hD hS (lv_sub hl [0, 1] rfl)
  have B_M : ∀ (x1 : Int32) (H : Heap) (locs : List Loc) (ls_ : Array Slot), f_Y9_wordAt S x0 x1 = X → p_Y9_wordAt S x0 x1 → va_P G vwCl (wsC K ad S) H → va_D A (wsC K ad S) → va_S A s.heap H locs → lv_has ls_ 2 [(0, .ref (ad x0)), (1, .int x1)] → W p l e ({ frames := 0, cells := 0, slots := 0, locals := 0 } : Room) s m #[Value.ref (ad x0), Value.int a1] below meth c H locs 0 0 Q (F0 m 0 ls_ []) := by
    intro x1 H locs ls_ hE hp hP hD hS hl
    unfold f_Y9_wordAt at hE
    unfold p_Y9_wordAt at hp
    refine lv_iload_n hx hb dX9_wordAt_0 rfl (lv_at hl 1 rfl) ?_
    refine lv_if_lt (tgt := 21) hx hb dX9_wordAt_1 (by decide) (fun c1 => ?_) (fun c1 => ?_)
    · rw [if_pos c1] at hE hp
      exact B_Y9_wordAt_21 x1 _ _ _ hE hp hP hD hS (lv_sub hl [0, 1] rfl)
    · rw [if_neg c1] at hE hp
      refine lv_iload_n hx hb dX9_wordAt_4 rfl (lv_at hl 1 rfl) ?_
      refine lv_aload_n hx hb dX9_wordAt_5 rfl (lv_at hl 0 rfl) ?_
      refine va_get (D := G) (ci := 6) (v := .int (giC S x0 1)) (C := RX9) (T := TX9) (N := 2) hx hb hts iX9 hown hK hP x0 (at_6 k_x0) rfl 1 (by decide) (hw (.fieldLink RX9 15 "MotionFloor$Text" "size" "I") (List.mem_of_getElem? (i := 0) rfl)) (fun _ h9 => h9) rfl dX9_wordAt_6 ?_
      refine lv_icmp_ge (tgt := 21) hx hb dX9_wordAt_9 (by decide) (fun c2 => ?_) (fun c2 => ?_)
      · rw [if_pos c2] at hE hp
        exact B_Y9_wordAt_21 x1 _ _ _ hE hp hP hD hS (lv_sub hl [0, 1] rfl)
      · rw [if_neg c2] at hE hp
        refine lv_iload_n hx hb dX9_wordAt_12 rfl (lv_at hl 1 rfl) ?_
        refine lv_aload_n hx hb dX9_wordAt_13 rfl (lv_at hl 0 rfl) ?_
        refine va_get (D := G) (ci := 6) (v := va_re ad (grC S x0 0)) (C := RX9) (T := TX9) (N := 2) hx hb hts iX9 hown hK hP x0 (at_6 k_x0) rfl 0 (by decide) (hw (.fieldLink RX9 9 "MotionFloor$Text" "words" "[I") (List.mem_of_getElem? (i := 1) rfl)) (fun _ h9 => h9) rfl dX9_wordAt_14 ?_
        obtain ⟨hy3, hp⟩ := hp
        refine cTop (r := (grC S x0 0)) hy3.1 ?_
        refine va_alen (v := (Int32.ofNat (lnC S ((grC S x0 0).getD 0)))) hx hb hK hP ((grC S x0 0).getD 0) 0 (at_20 hy3.2) rfl rfl dX9_wordAt_17 ?_
        refine lv_icmp_lt (tgt := 25) hx hb dX9_wordAt_18 (by decide) (fun c4 => ?_) (fun c4 => ?_)
        · rw [if_pos c4] at hE hp
          refine lv_aload_n hx hb dX9_wordAt_25 rfl (lv_at hl 0 rfl) ?_
          refine va_get (D := G) (ci := 6) (v := va_re ad (grC S x0 0)) (C := RX9) (T := TX9) (N := 2) hx hb hts iX9 hown hK hP x0 (at_6 k_x0) rfl 0 (by decide) (hw (.fieldLink RX9 9 "MotionFloor$Text" "words" "[I") (List.mem_of_getElem? (i := 1) rfl)) (fun _ h9 => h9) rfl dX9_wordAt_26 ?_
          refine lv_iload_n hx hb dX9_wordAt_29 rfl (lv_at hl 1 rfl) ?_
          obtain ⟨hy5, hp⟩ := hp
          refine cTop2 (r := (grC S x0 0)) hy5.1 ?_
          obtain ⟨hy6, hp⟩ := hp
          refine va_iald hx hb hK hP ((grC S x0 0).getD 0) 0 (at_20 hy5.2) rfl hy6 dX9_wordAt_30 ?_
          exact B_Y9_wordAt_31 x1 (giC S ((grC S x0 0).getD 0) x1.toNatClampNeg) _ _ _ hE hp hP hD hS (lv_sub hl [0, 1] rfl)
        · rw [if_neg c4] at hE hp
          exact B_Y9_wordAt_21 x1 _ _ _ hE hp hP hD hS (lv_sub hl [0, 1] rfl)
  exact B_M a1 _ _ _ hX hp hP hD hS hl
theorem gdX0_wordOf_20 : ckS (List.drop 20 cX0_wordOf.data.toList) 20 [(20, .aload_n 0, 1), (21, .getfield 28, 3), (24, .invokevirtual 149, 3)] = true := by decide +kernel
theorem dX0_wordOf_20 : decode cX0_wordOf 20 = .ok (.aload_n 0, 1) := ckS_g gdX0_wordOf_20 0 rfl
theorem dX0_wordOf_21 : decode cX0_wordOf 21 = .ok (.getfield 28, 3) := ckS_g gdX0_wordOf_20 1 rfl
theorem dX0_wordOf_24 : decode cX0_wordOf 24 = .ok (.invokevirtual 149, 3) := ckS_g gdX0_wordOf_20 2 rfl
theorem gdX6_motion_0 : ckS (List.drop 0 cX6_motion.data.toList) 0 [(0, .aload_n 0, 1), (1, .getfield 9, 3), (4, .iconst 2, 1), (5, .if_icmp .ne 14, 3), (8, .aload_n 0, 1), (9, .getfield 18, 3), (12, .iconst 0, 1), (13, .invokevirtual 22, 3), (16, .goto 4, 3), (19, .aconst_null, 1), (20, .areturn, 1)] = true := by decide +kernel
theorem dX6_motion_0 : decode cX6_motion 0 = .ok (.aload_n 0, 1) := ckS_g gdX6_motion_0 0 rfl
theorem dX6_motion_1 : decode cX6_motion 1 = .ok (.getfield 9, 3) := ckS_g gdX6_motion_0 1 rfl
theorem dX6_motion_4 : decode cX6_motion 4 = .ok (.iconst 2, 1) := ckS_g gdX6_motion_0 2 rfl
theorem dX6_motion_5 : decode cX6_motion 5 = .ok (.if_icmp .ne 14, 3) := ckS_g gdX6_motion_0 3 rfl
theorem dX6_motion_8 : decode cX6_motion 8 = .ok (.aload_n 0, 1) := ckS_g gdX6_motion_0 4 rfl
theorem dX6_motion_9 : decode cX6_motion 9 = .ok (.getfield 18, 3) := ckS_g gdX6_motion_0 5 rfl
theorem dX6_motion_12 : decode cX6_motion 12 = .ok (.iconst 0, 1) := ckS_g gdX6_motion_0 6 rfl
theorem dX6_motion_13 : decode cX6_motion 13 = .ok (.invokevirtual 22, 3) := ckS_g gdX6_motion_0 7 rfl
theorem dX6_motion_16 : decode cX6_motion 16 = .ok (.goto 4, 3) := ckS_g gdX6_motion_0 8 rfl
theorem dX6_motion_19 : decode cX6_motion 19 = .ok (.aconst_null, 1) := ckS_g gdX6_motion_0 9 rfl
theorem dX6_motion_20 : decode cX6_motion 20 = .ok (.areturn, 1) := ckS_g gdX6_motion_0 10 rfl
set_option maxRecDepth 100000 in
theorem zc122 : wZ (.selects RX5 yX5_at yX5_at) := ⟨wT2 (List.mem_of_getElem? (i := 81) (by decide +kernel)), Or.inl rfl⟩
set_option maxRecDepth 100000 in
theorem zc123 : wZ (.instanceMethod yX5_at) := ⟨wT2 (List.mem_of_getElem? (i := 80) (by decide +kernel)), Or.inl rfl⟩
set_option maxRecDepth 100000 in
theorem zc124 : wZ (.methodLink RX6 22 yX5_at) := ⟨wT2 (List.mem_of_getElem? (i := 100) (by decide +kernel)), Or.inl rfl⟩
set_option maxRecDepth 100000 in
theorem zc125 : wZ (.fieldLink RX6 18 "MotionFloor$Place" "pile" "LMotionFloor$Pile;") := ⟨wT1 (List.mem_of_getElem? (i := 111) (by decide +kernel)), Or.inl rfl⟩
set_option maxRecDepth 100000 in
theorem zc126 : wZ (.code yX6_motion cX6_motion 1 (some (.object "MotionFloor$Motion"))) := ⟨wT2 (List.mem_of_getElem? (i := 99) rfl), Or.inl rfl⟩
def b_Y6_motion_20 (S : Cst) (x0 : Nat) (o0 : Option Nat) : Option Nat := o0
def q_Y6_motion_20 (S : Cst) (x0 : Nat) (o0 : Option Nat) : Prop := True
def f_Y6_motion (S : Cst) (x0 : Nat) : Option Nat := if (giC S x0 0) = 2 then (b_Y6_motion_20 S x0 (f_Y5_at S ((grC S x0 1).getD 0) (0 : Int32))) else (b_Y6_motion_20 S x0 none)
def p_Y6_motion (S : Cst) (x0 : Nat) : Prop := (if (giC S x0 0) = 2 then (iR S (grC S x0 1) 4) ∧ (p_Y5_at S ((grC S x0 1).getD 0) (0 : Int32)) ∧ (q_Y6_motion_20 S x0 (f_Y5_at S ((grC S x0 1).getD 0) (0 : Int32))) else (q_Y6_motion_20 S x0 none))
def e_Y6_motion : List Cond := [.fieldLink RX6 9 "MotionFloor$Place" "sort" "I", .fieldLink RX6 18 "MotionFloor$Place" "pile" "LMotionFloor$Pile;", .methodLink RX6 22 yX5_at, .instanceMethod yX5_at, .selects RX5 yX5_at yX5_at, .initialized RX5]
def v_Y6_motion : List Cond := .code yX6_motion cX6_motion 1 (some (.object "MotionFloor$Motion")) :: (e_Y6_motion ++ (wsX60 ++ (v_Y5_at ++ [])))
theorem te_Y6_motion : GoodIn lw_tbl e_Y6_motion := wGc zc110 (wGc zc125 (wGc zc124 (wGc zc123 (wGc zc122 (wGc zc34 (wG0))))))
theorem t_Y6_motion : GoodIn lw_tbl v_Y6_motion := wGc zc126 (wGa te_Y6_motion (wGa zcX6 (wGa t_Y5_at (wG0))))
set_option maxHeartbeats 4000000 in
set_option maxRecDepth 100000 in
theorem c_Y6_motion (l : Launch) (G : va_G) (K : Nat → ClassId) (ad : Nat → Nat) (S : Cst) (x0 : Nat)  (sz : Nat) : Met l yX6_motion v_Y6_motion ({ frames := 1, cells := 0, slots := 0, locals := 21 }) (va_Pc [.ref (ad x0)] (cSt G K ad sz S (iK S x0 5 ∧ p_Y6_motion S x0))) (va_Qq (fun (r : Option Nat) (u : Cst) => ∃ r', r = r'.map ad ∧ ((r', u) = (f_Y6_motion S x0, S))) (cBt G K ad (va_A (wsC K ad S) sz)) (va_A (wsC K ad S) sz)) 0 0 (va_A (wsC K ad S) sz) := by
  refine Met.ofW (cc := cX6_motion) (maxL := 1) (ret := (some (.object "MotionFloor$Motion"))) (by decide) rfl ?_
  intro p e s m args below meth c s₁ B hml hv
  obtain ⟨rfl, ⟨hsz, hP, hK, hD0, hTE⟩, hp⟩ := hv
  obtain ⟨k_x0, hp⟩ := hp
  have hx := B.exec
  have hb := B.bytes
  have hr := B.returns
  have hts := atoms_spec (ws := v_Y6_motion) B.pre
  have t_ := t_Y6_motion
  have mw : ∀ w ∈ e_Y6_motion, w ∈ v_Y6_motion := fun w h => List.mem_cons_of_mem _ (List.mem_append_left _ h)
  have hw := fun w (h : w ∈ e_Y6_motion) => hts w (mw w h)
  have iX6 : ∀ w ∈ wsX60, w ∈ v_Y6_motion := fun w h => List.mem_cons_of_mem _ (List.mem_append_right _ (List.mem_append_left _ h))
  have j_Y5_at : ∀ w ∈ v_Y5_at, w ∈ v_Y6_motion := fun w h => List.mem_cons_of_mem _ (List.mem_append_right _ (List.mem_append_right _ (List.mem_append_left _ h)))
  have hown : s.vm.findClass RX6 = some m.cls := findClass_of_methodNamed B.named
  have hlocks := B.notSynchronized
  subst hsz
  have hD := hD0.self (sz := s.heap.size)
  generalize hAe : va_A (wsC K ad S) s.heap.size = A at hD ⊢
  have hA : ∀ q : Nat, s.heap.size ≤ q → A q := fun q h => by rw [← hAe]; exact Or.inr h
  have hS : va_S A s.heap s.heap [] := va_S.rf
  have hl : lv_has (lg_sl ([.ref (ad x0)]) ++ List.replicate (1 - (lg_sl ([.ref (ad x0)])).length) Slot.unset).toArray 1 [(0, .ref (ad x0))] := by
    exact lv_entry ([.ref (ad x0)]) (n := 1) (Nat.le_of_ble_eq_true rfl)
  rw [lg_entry_eq]
  generalize (lg_sl ([.ref (ad x0)]) ++ List.replicate (1 - (lg_sl ([.ref (ad x0)])).length) Slot.unset).toArray = ls_ at hl ⊢
  refine wGen (fun Q hQ => ?_)
  obtain ⟨X, hX⟩ : ∃ X, f_Y6_motion S x0 = X := ⟨_, rfl⟩
  have B_Y6_motion_20 : ∀ (o0 : Option Nat) (H : Heap) (locs : List Loc) (ls_ : Array Slot), b_Y6_motion_20 S x0 o0 = X → q_Y6_motion_20 S x0 o0 → va_P G vwCl (wsC K ad S) H → va_D A (wsC K ad S) → va_S A s.heap H locs → lv_has ls_ 1 [(0, .ref (ad x0))] → W p l e ({ frames := 1, cells := 0, slots := 0, locals := 21 } : Room) s m #[Value.ref (ad x0)] below meth c H locs 0 0 Q (F0 m 20 ls_ [va_re ad o0]) := by
    intro o0 H locs ls_ hE hp hP hD hS hl
    unfold b_Y6_motion_20 at hE
    unfold q_Y6_motion_20 at hp
    subst hQ
    exact W.aret (v := va_re ad o0) hx hb hr (Or.inl ⟨_, rfl⟩) (va_re_or ad _) (fun t ht hW => ⟨⟨o0.map ad, S, rfl, ⟨o0, rfl, (pair_i (hE.trans hX.symm))⟩, by rw [ht]; exact hP, hD⟩, hS.F ht⟩) hS.2.2 dX6_motion_20
  have B_M : ∀ (H : Heap) (locs : List Loc) (ls_ : Array Slot), f_Y6_motion S x0 = X → p_Y6_motion S x0 → va_P G vwCl (wsC K ad S) H → va_D A (wsC K ad S) → va_S A s.heap H locs → lv_has ls_ 1 [(0, .ref (ad x0))] → W p l e ({ frames := 1, cells := 0, slots := 0, locals := 21 } : Room) s m #[Value.ref (ad x0)] below meth c H locs 0 0 Q (F0 m 0 ls_ []) := by
    intro  H locs ls_ hE hp hP hD hS hl
    unfold f_Y6_motion at hE
    unfold p_Y6_motion at hp
    refine lv_aload_n hx hb dX6_motion_0 rfl (lv_at hl 0 rfl) ?_
    refine va_get (D := G) (ci := 5) (v := .int (giC S x0 0)) (C := RX6) (T := TX6) (N := 2) hx hb hts iX6 hown hK hP x0 (at_5 k_x0) rfl 0 (by decide) (hw (.fieldLink RX6 9 "MotionFloor$Place" "sort" "I") (List.mem_of_getElem? (i := 0) rfl)) (fun _ h9 => h9) rfl dX6_motion_1 ?_
    refine lv_iconst (v := 2) hx hb dX6_motion_4 (by decide) ?_
    refine lv_icmp_ne (tgt := 19) hx hb dX6_motion_5 (by decide) (fun c1 => ?_) (fun c1 => ?_)
    · rw [if_neg c1] at hE hp
      refine lv_null hx hb dX6_motion_19 ?_
      rw [← re_none (ad := ad) (r := none) rfl]
      exact B_Y6_motion_20 none _ _ _ hE hp hP hD hS (lv_sub hl [0] rfl)
    · rw [if_pos c1] at hE hp
      refine lv_aload_n hx hb dX6_motion_8 rfl (lv_at hl 0 rfl) ?_
      refine va_get (D := G) (ci := 5) (v := va_re ad (grC S x0 1)) (C := RX6) (T := TX6) (N := 2) hx hb hts iX6 hown hK hP x0 (at_5 k_x0) rfl 1 (by decide) (hw (.fieldLink RX6 18 "MotionFloor$Place" "pile" "LMotionFloor$Pile;") (List.mem_of_getElem? (i := 1) rfl)) (fun _ h9 => h9) rfl dX6_motion_9 ?_
      refine lv_iconst (v := 0) hx hb dX6_motion_12 (by decide) ?_
      obtain ⟨hy2, hp⟩ := hp
      refine cTop2 (r := (grC S x0 1)) hy2.1 ?_
      obtain ⟨hy3, hp⟩ := hp
      refine cGoq (va_runV (As := [.int 0]) (rest := []) ⟨hx, hb, hml, hown, hts⟩ (c_Y5_at l G K ad S ((grC S x0 1).getD 0) (0 : Int32) _) (cwV 1 hts (wGV t_ (mw (.methodLink RX6 22 yX5_at) (List.mem_of_getElem? (i := 2) rfl)) (mw (.instanceMethod yX5_at) (List.mem_of_getElem? (i := 3) rfl)) (mw (.selects RX5 yX5_at yX5_at) (List.mem_of_getElem? (i := 4) rfl)) (mw (.initialized RX5) (List.mem_of_getElem? (i := 5) rfl)) j_Y5_at) rfl rfl rfl (by decide +kernel) ⟨Nat.le_of_ble_eq_true rfl, Nat.le_of_ble_eq_true rfl⟩) (cPV hK hTE hP hD 4 rfl (at_4 hy2.2) ⟨hy2.2, hy3⟩) rfl rfl hl.1 rfl (lv_room (Nat.le_of_ble_eq_true rfl)) dX6_motion_13 ⟨Nat.le_of_ble_eq_true rfl, Nat.le_of_ble_eq_true rfl⟩) hP hD hS hA (fun r5 u4 H locs hv hP hD hS => ?_)
      have h1 := congrArg Prod.fst hv
      have h2 := (congrArg Prod.snd hv).symm
      dsimp only at h1 h2
      subst h1
      subst h2
      refine lv_goto (tgt := 20) hx hb dX6_motion_16 (by decide) ?_
      exact B_Y6_motion_20 (f_Y5_at S ((grC S x0 1).getD 0) (0 : Int32)) _ _ _ hE hp hP hD hS (lv_sub hl [0] rfl)
  exact B_M  _ _ _ hX hp hP hD hS hl
theorem gdX0_wordOf_5 : ckS (List.drop 5 cX0_wordOf.data.toList) 5 [(5, .aload_n 0, 1), (6, .getfield 51, 3), (9, .iload_n 2, 1), (10, .invokevirtual 145, 3), (13, .ireturn, 1), (27, .goto 11, 3)] = true := by decide +kernel
theorem dX0_wordOf_5 : decode cX0_wordOf 5 = .ok (.aload_n 0, 1) := ckS_g gdX0_wordOf_5 0 rfl
theorem dX0_wordOf_6 : decode cX0_wordOf 6 = .ok (.getfield 51, 3) := ckS_g gdX0_wordOf_5 1 rfl
theorem dX0_wordOf_9 : decode cX0_wordOf 9 = .ok (.iload_n 2, 1) := ckS_g gdX0_wordOf_5 2 rfl
theorem dX0_wordOf_10 : decode cX0_wordOf 10 = .ok (.invokevirtual 145, 3) := ckS_g gdX0_wordOf_5 3 rfl
theorem dX0_wordOf_13 : decode cX0_wordOf 13 = .ok (.ireturn, 1) := ckS_g gdX0_wordOf_5 4 rfl
theorem dX0_wordOf_27 : decode cX0_wordOf 27 = .ok (.goto 11, 3) := ckS_g gdX0_wordOf_5 5 rfl
set_option maxRecDepth 100000 in
theorem zc127 : wZ (.selects RX6 yX6_motion yX6_motion) := ⟨wT2 (List.mem_of_getElem? (i := 98) (by decide +kernel)), Or.inl rfl⟩
set_option maxRecDepth 100000 in
theorem zc128 : wZ (.instanceMethod yX6_motion) := ⟨wT2 (List.mem_of_getElem? (i := 97) (by decide +kernel)), Or.inl rfl⟩
set_option maxRecDepth 100000 in
theorem zc129 : wZ (.methodLink RX0 149 yX6_motion) := ⟨wT4 (List.mem_of_getElem? (i := 142) (by decide +kernel)), Or.inl rfl⟩
set_option maxRecDepth 100000 in
theorem zc130 : wZ (.initialized RX9) := ⟨wT1 (List.mem_of_getElem? (i := 8) (by decide +kernel)), Or.inl rfl⟩
set_option maxRecDepth 100000 in
theorem zc131 : wZ (.selects RX9 yX9_wordAt yX9_wordAt) := ⟨wT4 (List.mem_of_getElem? (i := 140) (by decide +kernel)), Or.inl rfl⟩
set_option maxRecDepth 100000 in
theorem zc132 : wZ (.instanceMethod yX9_wordAt) := ⟨wT4 (List.mem_of_getElem? (i := 139) (by decide +kernel)), Or.inl rfl⟩
set_option maxRecDepth 100000 in
theorem zc133 : wZ (.methodLink RX0 145 yX9_wordAt) := ⟨wT4 (List.mem_of_getElem? (i := 138) (by decide +kernel)), Or.inl rfl⟩
set_option maxRecDepth 100000 in
theorem zc134 : wZ (.fieldLink RX0 152 "MotionFloor$Motion" "text" "LMotionFloor$Text;") := ⟨wT3 (List.mem_of_getElem? (i := 58) (by decide +kernel)), Or.inl rfl⟩
set_option maxRecDepth 100000 in
theorem zc135 : wZ (.methodLink RX0 97 yX5_at) := ⟨wT4 (List.mem_of_getElem? (i := 143) (by decide +kernel)), Or.inl rfl⟩
set_option maxRecDepth 100000 in
theorem zc136 : wZ (.code yX0_wordOf cX0_wordOf 4 (some .int)) := ⟨wT4 (List.mem_of_getElem? (i := 137) rfl), Or.inl rfl⟩
def b_Y0_wordOf_55 (S : Cst) (x0 : Nat) (x1 : Int32) (x2 : Int32) (x3 : Option Nat) (y0 : Int32) : Int32 := y0
def q_Y0_wordOf_55 (S : Cst) (x0 : Nat) (x1 : Int32) (x2 : Int32) (x3 : Option Nat) (y0 : Int32) : Prop := True
def b_Y0_wordOf_38 (S : Cst) (x0 : Nat) (x1 : Int32) (x2 : Int32) (o0 : Option Nat) : Int32 := if o0 = none then (b_Y0_wordOf_55 S x0 x1 x2 o0 (-1)) else (b_Y0_wordOf_55 S x0 x1 x2 o0 (f_Y9_wordAt S ((grC S (o0.getD 0) 12).getD 0) x2))
def q_Y0_wordOf_38 (S : Cst) (x0 : Nat) (x1 : Int32) (x2 : Int32) (o0 : Option Nat) : Prop := (if o0 = none then (q_Y0_wordOf_55 S x0 x1 x2 o0 (-1)) else (iR S o0 3) ∧ (iR S (grC S (o0.getD 0) 12) 6) ∧ (p_Y9_wordAt S ((grC S (o0.getD 0) 12).getD 0) x2) ∧ (q_Y0_wordOf_55 S x0 x1 x2 o0 (f_Y9_wordAt S ((grC S (o0.getD 0) 12).getD 0) x2)))
def f_Y0_wordOf (S : Cst) (x0 : Nat) (x1 : Int32) (x2 : Int32) : Int32 := if x1 = (-1) then (f_Y9_wordAt S ((grC S x0 6).getD 0) x2) else if x1 = 9 then (b_Y0_wordOf_38 S x0 x1 x2 (f_Y6_motion S ((grC S x0 2).getD 0))) else (b_Y0_wordOf_38 S x0 x1 x2 (f_Y5_at S ((grC S x0 1).getD 0) x1))
def p_Y0_wordOf (S : Cst) (x0 : Nat) (x1 : Int32) (x2 : Int32) : Prop := (if x1 = (-1) then (iR S (grC S x0 6) 6) ∧ (p_Y9_wordAt S ((grC S x0 6).getD 0) x2) ∧ True else (if x1 = 9 then (iR S (grC S x0 2) 5) ∧ (p_Y6_motion S ((grC S x0 2).getD 0)) ∧ (q_Y0_wordOf_38 S x0 x1 x2 (f_Y6_motion S ((grC S x0 2).getD 0))) else (iR S (grC S x0 1) 4) ∧ (p_Y5_at S ((grC S x0 1).getD 0) x1) ∧ (q_Y0_wordOf_38 S x0 x1 x2 (f_Y5_at S ((grC S x0 1).getD 0) x1))))
def e_Y0_wordOf : List Cond := [.fieldLink RX0 21 "MotionFloor$Assembly" "pending" "LMotionFloor$Pile;", .methodLink RX0 97 yX5_at, .instanceMethod yX5_at, .selects RX5 yX5_at yX5_at, .initialized RX5, .fieldLink RX0 152 "MotionFloor$Motion" "text" "LMotionFloor$Text;", .methodLink RX0 145 yX9_wordAt, .instanceMethod yX9_wordAt, .selects RX9 yX9_wordAt yX9_wordAt, .initialized RX9, .fieldLink RX0 28 "MotionFloor$Assembly" "draft" "LMotionFloor$Place;", .methodLink RX0 149 yX6_motion, .instanceMethod yX6_motion, .selects RX6 yX6_motion yX6_motion, .initialized RX6, .fieldLink RX0 51 "MotionFloor$Assembly" "adopted" "LMotionFloor$Text;"]
def v_Y0_wordOf : List Cond := .code yX0_wordOf cX0_wordOf 4 (some .int) :: (e_Y0_wordOf ++ (wsX00 ++ (wsX40 ++ (v_Y5_at ++ (v_Y9_wordAt ++ (v_Y6_motion ++ []))))))
theorem te_Y0_wordOf : GoodIn lw_tbl e_Y0_wordOf := wGc zc58 (wGc zc135 (wGc zc123 (wGc zc122 (wGc zc34 (wGc zc134 (wGc zc133 (wGc zc132 (wGc zc131 (wGc zc130 (wGc zc57 (wGc zc129 (wGc zc128 (wGc zc127 (wGc zc112 (wGc zc96 (wG0))))))))))))))))
theorem t_Y0_wordOf : GoodIn lw_tbl v_Y0_wordOf := wGc zc136 (wGa te_Y0_wordOf (wGa zcX0 (wGa zcX4 (wGa t_Y5_at (wGa t_Y9_wordAt (wGa t_Y6_motion (wG0)))))))
set_option maxHeartbeats 4000000 in
set_option maxRecDepth 100000 in
theorem c_Y0_wordOf (l : Launch) (G : va_G) (K : Nat → ClassId) (ad : Nat → Nat) (S : Cst) (x0 : Nat) (a1 : Int32) (a2 : Int32) (sz : Nat) : Met l yX0_wordOf v_Y0_wordOf ({ frames := 2, cells := 0, slots := 0, locals := 41 }) (va_Pc [.ref (ad x0), .int a1, .int a2] (cSt G K ad sz S (iK S x0 0 ∧ p_Y0_wordOf S x0 a1 a2))) (va_Qi (fun (r : Int32) (u : Cst) => (r, u) = (f_Y0_wordOf S x0 a1 a2, S)) (cBt G K ad (va_A (wsC K ad S) sz)) (va_A (wsC K ad S) sz)) 0 0 (va_A (wsC K ad S) sz) := by
  refine Met.ofW (cc := cX0_wordOf) (maxL := 4) (ret := (some .int)) (by decide) rfl ?_
  intro p e s m args below meth c s₁ B hml hv
  obtain ⟨rfl, ⟨hsz, hP, hK, hD0, hTE⟩, hp⟩ := hv
  obtain ⟨k_x0, hp⟩ := hp
  have hx := B.exec
  have hb := B.bytes
  have hr := B.returns
  have hts := atoms_spec (ws := v_Y0_wordOf) B.pre
  have t_ := t_Y0_wordOf
  have mw : ∀ w ∈ e_Y0_wordOf, w ∈ v_Y0_wordOf := fun w h => List.mem_cons_of_mem _ (List.mem_append_left _ h)
  have hw := fun w (h : w ∈ e_Y0_wordOf) => hts w (mw w h)
  have iX0 : ∀ w ∈ wsX00, w ∈ v_Y0_wordOf := fun w h => List.mem_cons_of_mem _ (List.mem_append_right _ (List.mem_append_left _ h))
  have iX4 : ∀ w ∈ wsX40, w ∈ v_Y0_wordOf := fun w h => List.mem_cons_of_mem _ (List.mem_append_right _ (List.mem_append_right _ (List.mem_append_left _ h)))
  have j_Y5_at : ∀ w ∈ v_Y5_at, w ∈ v_Y0_wordOf := fun w h => List.mem_cons_of_mem _ (List.mem_append_right _ (List.mem_append_right _ (List.mem_append_right _ (List.mem_append_left _ h))))
  have j_Y9_wordAt : ∀ w ∈ v_Y9_wordAt, w ∈ v_Y0_wordOf := fun w h => List.mem_cons_of_mem _ (List.mem_append_right _ (List.mem_append_right _ (List.mem_append_right _ (List.mem_append_right _ (List.mem_append_left _ h)))))
  have j_Y6_motion : ∀ w ∈ v_Y6_motion, w ∈ v_Y0_wordOf := fun w h => List.mem_cons_of_mem _ (List.mem_append_right _ (List.mem_append_right _ (List.mem_append_right _ (List.mem_append_right _ (List.mem_append_right _ (List.mem_append_left _ h))))))
  have hown : s.vm.findClass RX0 = some m.cls := findClass_of_methodNamed B.named
  have hlocks := B.notSynchronized
  subst hsz
  have hD := hD0.self (sz := s.heap.size)
  generalize hAe : va_A (wsC K ad S) s.heap.size = A at hD ⊢
  have hA : ∀ q : Nat, s.heap.size ≤ q → A q := fun q h => by rw [← hAe]; exact Or.inr h
  have hS : va_S A s.heap s.heap [] := va_S.rf
  have hl : lv_has (lg_sl ([.ref (ad x0), .int a1, .int a2]) ++ List.replicate (4 - (lg_sl ([.ref (ad x0), .int a1, .int a2])).length) Slot.unset).toArray 4 [(0, .ref (ad x0)), (1, .int a1), (2, .int a2)] := by
    exact lv_entry ([.ref (ad x0), .int a1, .int a2]) (n := 4) (Nat.le_of_ble_eq_true rfl)
  rw [lg_entry_eq]
  generalize (lg_sl ([.ref (ad x0), .int a1, .int a2]) ++ List.replicate (4 - (lg_sl ([.ref (ad x0), .int a1, .int a2])).length) Slot.unset).toArray = ls_ at hl ⊢
  refine wGen (fun Q hQ => ?_)
  obtain ⟨X, hX⟩ : ∃ X, f_Y0_wordOf S x0 a1 a2 = X := ⟨_, rfl⟩
  have B_Y0_wordOf_55 : ∀ (x1 : Int32) (x2 : Int32) (x3 : Option Nat) (y0 : Int32) (H : Heap) (locs : List Loc) (ls_ : Array Slot), b_Y0_wordOf_55 S x0 x1 x2 x3 y0 = X → q_Y0_wordOf_55 S x0 x1 x2 x3 y0 → va_P G vwCl (wsC K ad S) H → va_D A (wsC K ad S) → va_S A s.heap H locs → lv_has ls_ 4 [(0, .ref (ad x0)), (1, .int x1), (2, .int x2), (3, va_re ad x3)] → W p l e ({ frames := 2, cells := 0, slots := 0, locals := 41 } : Room) s m #[Value.ref (ad x0), Value.int a1, Value.int a2] below meth c H locs 0 0 Q (F0 m 55 ls_ [.int y0]) := by
    intro x1 x2 x3 y0 H locs ls_ hE hp hP hD hS hl
    unfold b_Y0_wordOf_55 at hE
    unfold q_Y0_wordOf_55 at hp
    subst hQ
    exact W.iret (v := y0) hx hb hr (fun t ht hW => ⟨⟨y0, S, rfl, (pair_i (hE.trans hX.symm)), by rw [ht]; exact hP, hD⟩, hS.F ht⟩) hS.2.2 dX0_wordOf_55
  have B_Y0_wordOf_38 : ∀ (x1 : Int32) (x2 : Int32) (o0 : Option Nat) (H : Heap) (locs : List Loc) (ls_ : Array Slot), b_Y0_wordOf_38 S x0 x1 x2 o0 = X → q_Y0_wordOf_38 S x0 x1 x2 o0 → va_P G vwCl (wsC K ad S) H → va_D A (wsC K ad S) → va_S A s.heap H locs → lv_has ls_ 4 [(0, .ref (ad x0)), (1, .int x1), (2, .int x2)] → W p l e ({ frames := 2, cells := 0, slots := 0, locals := 41 } : Room) s m #[Value.ref (ad x0), Value.int a1, Value.int a2] below meth c H locs 0 0 Q (F0 m 38 ls_ [va_re ad o0]) := by
    intro x1 x2 o0 H locs ls_ hE hp hP hD hS hl
    unfold b_Y0_wordOf_38 at hE
    unfold q_Y0_wordOf_38 at hp
    refine cAstore_n (ad := ad) (r := o0) (i := 3) (lv' := [(3, va_re ad o0), (0, .ref (ad x0)), (1, .int x1), (2, .int x2)]) hx hb dX0_wordOf_38 rfl hl (by decide) rfl (fun ls_ hl => ?_)
    refine cAload_n (ad := ad) (r := o0) hx hb dX0_wordOf_39 rfl (lv_at hl 0 rfl) ?_
    refine cIfnonnull (ad := ad) (r := o0) (tgt := 47) hx hb dX0_wordOf_40 (by decide) (fun c7 => ?_) (fun c7 => ?_)
    · rw [if_pos c7] at hE hp
      refine lv_iconst (v := (-1)) hx hb dX0_wordOf_43 (by decide) ?_
      refine lv_goto (tgt := 55) hx hb dX0_wordOf_44 (by decide) ?_
      exact B_Y0_wordOf_55 x1 x2 o0 (-1) _ _ _ hE hp hP hD hS (lv_sub hl [1, 2, 3, 0] rfl)
    · rw [if_neg c7] at hE hp
      refine cAload_n (ad := ad) (r := o0) hx hb dX0_wordOf_47 rfl (lv_at hl 0 rfl) ?_
      obtain ⟨hy8, hp⟩ := hp
      refine cTop (r := o0) hy8.1 ?_
      refine va_get (D := G) (ci := 3) (v := va_re ad (grC S (o0.getD 0) 12)) (C := RX4) (T := TX4) (N := 16) hx hb hts iX4 hown hK hP (o0.getD 0) (at_3 hy8.2) rfl 12 (by decide) (hw (.fieldLink RX0 152 "MotionFloor$Motion" "text" "LMotionFloor$Text;") (List.mem_of_getElem? (i := 5) rfl)) (fun _ h9 => h9) rfl dX0_wordOf_48 ?_
      refine lv_iload_n hx hb dX0_wordOf_51 rfl (lv_at hl 3 rfl) ?_
      obtain ⟨hy9, hp⟩ := hp
      refine cTop2 (r := (grC S (o0.getD 0) 12)) hy9.1 ?_
      obtain ⟨hy10, hp⟩ := hp
      refine cGoi (va_runV (As := [.int x2]) (rest := []) ⟨hx, hb, hml, hown, hts⟩ (c_Y9_wordAt l G K ad S ((grC S (o0.getD 0) 12).getD 0) x2 _) (cwV 1 hts (wGV t_ (mw (.methodLink RX0 145 yX9_wordAt) (List.mem_of_getElem? (i := 6) rfl)) (mw (.instanceMethod yX9_wordAt) (List.mem_of_getElem? (i := 7) rfl)) (mw (.selects RX9 yX9_wordAt yX9_wordAt) (List.mem_of_getElem? (i := 8) rfl)) (mw (.initialized RX9) (List.mem_of_getElem? (i := 9) rfl)) j_Y9_wordAt) rfl rfl rfl (by decide +kernel) ⟨Nat.le_of_ble_eq_true rfl, Nat.le_of_ble_eq_true rfl⟩) (cPV hK hTE hP hD 6 rfl (at_6 hy9.2) ⟨hy9.2, hy10⟩) rfl rfl hl.1 rfl (lv_room (Nat.le_of_ble_eq_true rfl)) dX0_wordOf_52 ⟨Nat.le_of_ble_eq_true rfl, Nat.le_of_ble_eq_true rfl⟩) hP hD hS hA (fun r12 u11 H locs hv hP hD hS => ?_)
      have h1 := congrArg Prod.fst hv
      have h2 := (congrArg Prod.snd hv).symm
      dsimp only at h1 h2
      subst h1
      subst h2
      exact B_Y0_wordOf_55 x1 x2 o0 (f_Y9_wordAt S ((grC S (o0.getD 0) 12).getD 0) x2) _ _ _ hE hp hP hD hS (lv_sub hl [1, 2, 3, 0] rfl)
  have B_M : ∀ (x1 : Int32) (x2 : Int32) (H : Heap) (locs : List Loc) (ls_ : Array Slot), f_Y0_wordOf S x0 x1 x2 = X → p_Y0_wordOf S x0 x1 x2 → va_P G vwCl (wsC K ad S) H → va_D A (wsC K ad S) → va_S A s.heap H locs → lv_has ls_ 4 [(0, .ref (ad x0)), (1, .int x1), (2, .int x2)] → W p l e ({ frames := 2, cells := 0, slots := 0, locals := 41 } : Room) s m #[Value.ref (ad x0), Value.int a1, Value.int a2] below meth c H locs 0 0 Q (F0 m 0 ls_ []) := by
    intro x1 x2 H locs ls_ hE hp hP hD hS hl
    unfold f_Y0_wordOf at hE
    unfold p_Y0_wordOf at hp
    refine lv_iload_n hx hb dX0_wordOf_0 rfl (lv_at hl 1 rfl) ?_
    refine lv_iconst (v := (-1)) hx hb dX0_wordOf_1 (by decide) ?_
    refine lv_icmp_ne (tgt := 14) hx hb dX0_wordOf_2 (by decide) (fun c1 => ?_) (fun c1 => ?_)
    · rw [if_neg c1] at hE hp
      refine lv_iload_n hx hb dX0_wordOf_14 rfl (lv_at hl 1 rfl) ?_
      refine lv_bipush (v := 9) hx hb dX0_wordOf_15 (by decide) ?_
      refine lv_icmp_ne (tgt := 30) hx hb dX0_wordOf_17 (by decide) (fun c2 => ?_) (fun c2 => ?_)
      · rw [if_neg c2] at hE hp
        refine lv_aload_n hx hb dX0_wordOf_30 rfl (lv_at hl 0 rfl) ?_
        refine va_get (D := G) (ci := 0) (v := va_re ad (grC S x0 1)) (C := RX0) (T := TX0) (N := 11) hx hb hts iX0 hown hK hP x0 (at_0 k_x0) rfl 1 (by decide) (hw (.fieldLink RX0 21 "MotionFloor$Assembly" "pending" "LMotionFloor$Pile;") (List.mem_of_getElem? (i := 0) rfl)) (fun _ h9 => h9) rfl dX0_wordOf_31 ?_
        refine lv_iload_n hx hb dX0_wordOf_34 rfl (lv_at hl 1 rfl) ?_
        obtain ⟨hy3, hp⟩ := hp
        refine cTop2 (r := (grC S x0 1)) hy3.1 ?_
        obtain ⟨hy4, hp⟩ := hp
        refine cGoq (va_runV (As := [.int x1]) (rest := []) ⟨hx, hb, hml, hown, hts⟩ (c_Y5_at l G K ad S ((grC S x0 1).getD 0) x1 _) (cwV 1 hts (wGV t_ (mw (.methodLink RX0 97 yX5_at) (List.mem_of_getElem? (i := 1) rfl)) (mw (.instanceMethod yX5_at) (List.mem_of_getElem? (i := 2) rfl)) (mw (.selects RX5 yX5_at yX5_at) (List.mem_of_getElem? (i := 3) rfl)) (mw (.initialized RX5) (List.mem_of_getElem? (i := 4) rfl)) j_Y5_at) rfl rfl rfl (by decide +kernel) ⟨Nat.le_of_ble_eq_true rfl, Nat.le_of_ble_eq_true rfl⟩) (cPV hK hTE hP hD 4 rfl (at_4 hy3.2) ⟨hy3.2, hy4⟩) rfl rfl hl.1 rfl (lv_room (Nat.le_of_ble_eq_true rfl)) dX0_wordOf_35 ⟨Nat.le_of_ble_eq_true rfl, Nat.le_of_ble_eq_true rfl⟩) hP hD hS hA (fun r6 u5 H locs hv hP hD hS => ?_)
        have h1 := congrArg Prod.fst hv
        have h2 := (congrArg Prod.snd hv).symm
        dsimp only at h1 h2
        subst h1
        subst h2
        exact B_Y0_wordOf_38 x1 x2 (f_Y5_at S ((grC S x0 1).getD 0) x1) _ _ _ hE hp hP hD hS (lv_sub hl [0, 1, 2] rfl)
      · rw [if_pos c2] at hE hp
        refine lv_aload_n hx hb dX0_wordOf_20 rfl (lv_at hl 0 rfl) ?_
        refine va_get (D := G) (ci := 0) (v := va_re ad (grC S x0 2)) (C := RX0) (T := TX0) (N := 11) hx hb hts iX0 hown hK hP x0 (at_0 k_x0) rfl 2 (by decide) (hw (.fieldLink RX0 28 "MotionFloor$Assembly" "draft" "LMotionFloor$Place;") (List.mem_of_getElem? (i := 10) rfl)) (fun _ h9 => h9) rfl dX0_wordOf_21 ?_
        obtain ⟨hy13, hp⟩ := hp
        refine cTop (r := (grC S x0 2)) hy13.1 ?_
        obtain ⟨hy14, hp⟩ := hp
        refine cGoq (va_runV (As := []) (rest := []) ⟨hx, hb, hml, hown, hts⟩ (c_Y6_motion l G K ad S ((grC S x0 2).getD 0) _) (cwV 0 hts (wGV t_ (mw (.methodLink RX0 149 yX6_motion) (List.mem_of_getElem? (i := 11) rfl)) (mw (.instanceMethod yX6_motion) (List.mem_of_getElem? (i := 12) rfl)) (mw (.selects RX6 yX6_motion yX6_motion) (List.mem_of_getElem? (i := 13) rfl)) (mw (.initialized RX6) (List.mem_of_getElem? (i := 14) rfl)) j_Y6_motion) rfl rfl rfl (by decide +kernel) ⟨Nat.le_of_ble_eq_true rfl, Nat.le_of_ble_eq_true rfl⟩) (cPV hK hTE hP hD 5 rfl (at_5 hy13.2) ⟨hy13.2, hy14⟩) rfl rfl hl.1 rfl (lv_room (Nat.le_of_ble_eq_true rfl)) dX0_wordOf_24 ⟨Nat.le_of_ble_eq_true rfl, Nat.le_of_ble_eq_true rfl⟩) hP hD hS hA (fun r16 u15 H locs hv hP hD hS => ?_)
        have h1 := congrArg Prod.fst hv
        have h2 := (congrArg Prod.snd hv).symm
        dsimp only at h1 h2
        subst h1
        subst h2
        refine lv_goto (tgt := 38) hx hb dX0_wordOf_27 (by decide) ?_
        exact B_Y0_wordOf_38 x1 x2 (f_Y6_motion S ((grC S x0 2).getD 0)) _ _ _ hE hp hP hD hS (lv_sub hl [0, 1, 2] rfl)
    · rw [if_pos c1] at hE hp
      refine lv_aload_n hx hb dX0_wordOf_5 rfl (lv_at hl 0 rfl) ?_
      refine va_get (D := G) (ci := 0) (v := va_re ad (grC S x0 6)) (C := RX0) (T := TX0) (N := 11) hx hb hts iX0 hown hK hP x0 (at_0 k_x0) rfl 6 (by decide) (hw (.fieldLink RX0 51 "MotionFloor$Assembly" "adopted" "LMotionFloor$Text;") (List.mem_of_getElem? (i := 15) rfl)) (fun _ h9 => h9) rfl dX0_wordOf_6 ?_
      refine lv_iload_n hx hb dX0_wordOf_9 rfl (lv_at hl 2 rfl) ?_
      obtain ⟨hy17, hp⟩ := hp
      refine cTop2 (r := (grC S x0 6)) hy17.1 ?_
      obtain ⟨hy18, hp⟩ := hp
      refine cGoi (va_runV (As := [.int x2]) (rest := []) ⟨hx, hb, hml, hown, hts⟩ (c_Y9_wordAt l G K ad S ((grC S x0 6).getD 0) x2 _) (cwV 1 hts (wGV t_ (mw (.methodLink RX0 145 yX9_wordAt) (List.mem_of_getElem? (i := 6) rfl)) (mw (.instanceMethod yX9_wordAt) (List.mem_of_getElem? (i := 7) rfl)) (mw (.selects RX9 yX9_wordAt yX9_wordAt) (List.mem_of_getElem? (i := 8) rfl)) (mw (.initialized RX9) (List.mem_of_getElem? (i := 9) rfl)) j_Y9_wordAt) rfl rfl rfl (by decide +kernel) ⟨Nat.le_of_ble_eq_true rfl, Nat.le_of_ble_eq_true rfl⟩) (cPV hK hTE hP hD 6 rfl (at_6 hy17.2) ⟨hy17.2, hy18⟩) rfl rfl hl.1 rfl (lv_room (Nat.le_of_ble_eq_true rfl)) dX0_wordOf_10 ⟨Nat.le_of_ble_eq_true rfl, Nat.le_of_ble_eq_true rfl⟩) hP hD hS hA (fun r20 u19 H locs hv hP hD hS => ?_)
      have h1 := congrArg Prod.fst hv
      have h2 := (congrArg Prod.snd hv).symm
      dsimp only at h1 h2
      subst h1
      subst h2
      subst hQ
      exact W.iret (v := (f_Y9_wordAt S ((grC S x0 6).getD 0) x2)) hx hb hr (fun t ht hW => ⟨⟨(f_Y9_wordAt S ((grC S x0 6).getD 0) x2), S, rfl, (pair_i (hE.trans hX.symm)), by rw [ht]; exact hP, hD⟩, hS.F ht⟩) hS.2.2 dX0_wordOf_13
  exact B_M a1 a2 _ _ _ hX hp hP hD hS hl
theorem gdX1_giveFloor_0 : ckS (List.drop 0 cX1_giveFloor.data.toList) 0 [(0, .aload_n 0, 1), (1, .iload_n 2, 1), (2, .putfield 112, 3), (5, .aload_n 1, 1), (6, .ifnonnull 5, 3), (9, .iconst 0, 1), (10, .ireturn, 1), (11, .aload_n 1, 1), (12, .dup, 1), (13, .getfield 115, 3), (16, .iconst 1, 1), (17, .iadd, 1), (18, .putfield 115, 3), (21, .aload_n 1, 1), (22, .getfield 115, 3), (25, .ireturn, 1)] = true := by decide +kernel
theorem dX1_giveFloor_0 : decode cX1_giveFloor 0 = .ok (.aload_n 0, 1) := ckS_g gdX1_giveFloor_0 0 rfl
theorem dX1_giveFloor_1 : decode cX1_giveFloor 1 = .ok (.iload_n 2, 1) := ckS_g gdX1_giveFloor_0 1 rfl
theorem dX1_giveFloor_2 : decode cX1_giveFloor 2 = .ok (.putfield 112, 3) := ckS_g gdX1_giveFloor_0 2 rfl
theorem dX1_giveFloor_5 : decode cX1_giveFloor 5 = .ok (.aload_n 1, 1) := ckS_g gdX1_giveFloor_0 3 rfl
theorem dX1_giveFloor_6 : decode cX1_giveFloor 6 = .ok (.ifnonnull 5, 3) := ckS_g gdX1_giveFloor_0 4 rfl
theorem dX1_giveFloor_9 : decode cX1_giveFloor 9 = .ok (.iconst 0, 1) := ckS_g gdX1_giveFloor_0 5 rfl
theorem dX1_giveFloor_10 : decode cX1_giveFloor 10 = .ok (.ireturn, 1) := ckS_g gdX1_giveFloor_0 6 rfl
theorem dX1_giveFloor_11 : decode cX1_giveFloor 11 = .ok (.aload_n 1, 1) := ckS_g gdX1_giveFloor_0 7 rfl
theorem dX1_giveFloor_12 : decode cX1_giveFloor 12 = .ok (.dup, 1) := ckS_g gdX1_giveFloor_0 8 rfl
theorem dX1_giveFloor_13 : decode cX1_giveFloor 13 = .ok (.getfield 115, 3) := ckS_g gdX1_giveFloor_0 9 rfl
theorem dX1_giveFloor_16 : decode cX1_giveFloor 16 = .ok (.iconst 1, 1) := ckS_g gdX1_giveFloor_0 10 rfl
theorem dX1_giveFloor_17 : decode cX1_giveFloor 17 = .ok (.iadd, 1) := ckS_g gdX1_giveFloor_0 11 rfl
theorem dX1_giveFloor_18 : decode cX1_giveFloor 18 = .ok (.putfield 115, 3) := ckS_g gdX1_giveFloor_0 12 rfl
theorem dX1_giveFloor_21 : decode cX1_giveFloor 21 = .ok (.aload_n 1, 1) := ckS_g gdX1_giveFloor_0 13 rfl
theorem dX1_giveFloor_22 : decode cX1_giveFloor 22 = .ok (.getfield 115, 3) := ckS_g gdX1_giveFloor_0 14 rfl
theorem dX1_giveFloor_25 : decode cX1_giveFloor 25 = .ok (.ireturn, 1) := ckS_g gdX1_giveFloor_0 15 rfl
set_option maxRecDepth 100000 in
theorem zc137 : wZ (.fieldLink RX1 115 "MotionFloor$Motion" "floors" "I") := ⟨wT3 (List.mem_of_getElem? (i := 28) (by decide +kernel)), Or.inl rfl⟩
set_option maxRecDepth 100000 in
theorem zc138 : wZ (.fieldLink RX1 112 "MotionFloor$House" "speaker" "I") := ⟨wT1 (List.mem_of_getElem? (i := 54) (by decide +kernel)), Or.inl rfl⟩
set_option maxRecDepth 100000 in
theorem zc139 : wZ (.code yX1_giveFloor cX1_giveFloor 3 (some .int)) := ⟨wT2 (List.mem_of_getElem? (i := 223) rfl), Or.inl rfl⟩
def f_Y1_giveFloor (S : Cst) (x0 : Nat) (x1 : Option Nat) (x2 : Int32) : Int32 × Cst := if x1 = none then ((0 : Int32), (siC S x0 6 x2)) else ((giC (siC (siC S x0 6 x2) (x1.getD 0) 5 ((giC (siC S x0 6 x2) (x1.getD 0) 5) + 1)) (x1.getD 0) 5), (siC (siC S x0 6 x2) (x1.getD 0) 5 ((giC (siC S x0 6 x2) (x1.getD 0) 5) + 1)))
def p_Y1_giveFloor (S : Cst) (x0 : Nat) (x1 : Option Nat) (x2 : Int32) : Prop := (if x1 = none then True else (iR (siC S x0 6 x2) x1 3) ∧ (iR (siC S x0 6 x2) x1 3) ∧ (iR (siC (siC S x0 6 x2) (x1.getD 0) 5 ((giC (siC S x0 6 x2) (x1.getD 0) 5) + 1)) x1 3) ∧ True)
def e_Y1_giveFloor : List Cond := [.fieldLink RX1 112 "MotionFloor$House" "speaker" "I", .fieldLink RX1 115 "MotionFloor$Motion" "floors" "I"]
def v_Y1_giveFloor : List Cond := .code yX1_giveFloor cX1_giveFloor 3 (some .int) :: (e_Y1_giveFloor ++ (wsX20 ++ (wsX40 ++ [])))
theorem te_Y1_giveFloor : GoodIn lw_tbl e_Y1_giveFloor := wGc zc138 (wGc zc137 (wG0))
theorem t_Y1_giveFloor : GoodIn lw_tbl v_Y1_giveFloor := wGc zc139 (wGa te_Y1_giveFloor (wGa zcX2 (wGa zcX4 (wG0))))
set_option maxHeartbeats 4000000 in
set_option maxRecDepth 100000 in
theorem c_Y1_giveFloor (l : Launch) (G : va_G) (K : Nat → ClassId) (ad : Nat → Nat) (S0 : Cst) (x0 : Nat) (a1 : Option Nat) (a2 : Int32) (sz : Nat) : Met l yX1_giveFloor v_Y1_giveFloor ({ frames := 0, cells := 0, slots := 0, locals := 0 }) (va_Pc [.ref (ad x0), va_re ad a1, .int a2] (cSt G K ad sz S0 (iK S0 x0 1 ∧ p_Y1_giveFloor S0 x0 a1 a2))) (va_Qi (fun (r : Int32) (u : Cst) => (r, u) = f_Y1_giveFloor S0 x0 a1 a2 ∧ eK S0 u) (cBt G K ad (va_A (wsC K ad S0) sz)) (va_A (wsC K ad S0) sz)) 0 0 (va_A (wsC K ad S0) sz) := by
  refine Met.ofW (cc := cX1_giveFloor) (maxL := 3) (ret := (some .int)) (by decide) rfl ?_
  intro p e s m args below meth c s₁ B hml hv
  obtain ⟨rfl, ⟨hsz, hP, hK, hD0, hTE⟩, hp⟩ := hv
  obtain ⟨k_x0, hp⟩ := hp
  have hx := B.exec
  have hb := B.bytes
  have hr := B.returns
  have hts := atoms_spec (ws := v_Y1_giveFloor) B.pre
  have t_ := t_Y1_giveFloor
  have mw : ∀ w ∈ e_Y1_giveFloor, w ∈ v_Y1_giveFloor := fun w h => List.mem_cons_of_mem _ (List.mem_append_left _ h)
  have hw := fun w (h : w ∈ e_Y1_giveFloor) => hts w (mw w h)
  have iX2 : ∀ w ∈ wsX20, w ∈ v_Y1_giveFloor := fun w h => List.mem_cons_of_mem _ (List.mem_append_right _ (List.mem_append_left _ h))
  have iX4 : ∀ w ∈ wsX40, w ∈ v_Y1_giveFloor := fun w h => List.mem_cons_of_mem _ (List.mem_append_right _ (List.mem_append_right _ (List.mem_append_left _ h)))
  have hown : s.vm.findClass RX1 = some m.cls := findClass_of_methodNamed B.named
  have hlocks := B.notSynchronized
  subst hsz
  have hD := hD0.self (sz := s.heap.size)
  generalize hAe : va_A (wsC K ad S0) s.heap.size = A at hD ⊢
  have hA : ∀ q : Nat, s.heap.size ≤ q → A q := fun q h => by rw [← hAe]; exact Or.inr h
  have hS : va_S A s.heap s.heap [] := va_S.rf
  have hl : lv_has (lg_sl ([.ref (ad x0), va_re ad a1, .int a2]) ++ List.replicate (3 - (lg_sl ([.ref (ad x0), va_re ad a1, .int a2])).length) Slot.unset).toArray 3 [(0, .ref (ad x0)), (1, va_re ad a1), (2, .int a2)] := by
    cases a1 <;> exact lv_entry _ (n := 3) (Nat.le_of_ble_eq_true rfl)
  rw [lg_entry_eq]
  generalize (lg_sl ([.ref (ad x0), va_re ad a1, .int a2]) ++ List.replicate (3 - (lg_sl ([.ref (ad x0), va_re ad a1, .int a2])).length) Slot.unset).toArray = ls_ at hl ⊢
  refine wGen (fun Q hQ => ?_)
  obtain ⟨X, hX⟩ : ∃ X, f_Y1_giveFloor S0 x0 a1 a2 = X := ⟨_, rfl⟩
  have B_M : ∀ (S : Cst) (x1 : Option Nat) (x2 : Int32) (H : Heap) (locs : List Loc) (ls_ : Array Slot), f_Y1_giveFloor S x0 x1 x2 = X → p_Y1_giveFloor S x0 x1 x2 → eK S0 S → va_P G vwCl (wsC K ad S) H → va_D A (wsC K ad S) → va_S A s.heap H locs → lv_has ls_ 3 [(0, .ref (ad x0)), (1, va_re ad x1), (2, .int x2)] → W p l e ({ frames := 0, cells := 0, slots := 0, locals := 0 } : Room) s m #[Value.ref (ad x0), va_re ad a1, Value.int a2] below meth c H locs 0 0 Q (F0 m 0 ls_ []) := by
    intro S x1 x2 H locs ls_ hE hp hZ hP hD hS hl
    unfold f_Y1_giveFloor at hE
    unfold p_Y1_giveFloor at hp
    refine lv_aload_n hx hb dX1_giveFloor_0 rfl (lv_at hl 0 rfl) ?_
    refine lv_iload_n hx hb dX1_giveFloor_1 rfl (lv_at hl 2 rfl) ?_
    refine va_put (D := G) (ci := 1) (v := .int x2) (ty := .int) (C := RX2) (T := TX2) (N := 8) hx hb hts iX2 tyX2 tyX2_ok nmX2 hown hK hP hD hS x0 (at_1 (k_x0.e hZ)) rfl 6 (by decide) (hw (.fieldLink RX1 112 "MotionFloor$House" "speaker" "I") (List.mem_of_getElem? (i := 0) rfl)) (fun _ h9 => h9) rfl (by decide +kernel) rfl rfl (Nat.le_of_ble_eq_true rfl) dX1_giveFloor_2 (fun H locs hP hD hS => ?_)
    rw [st_1_6 (k_x0.e hZ)] at hP hD
    have hZ := hZ.tr (eK.si S x0 6 x2)
    refine cAload_n (ad := ad) (r := x1) hx hb dX1_giveFloor_5 rfl (lv_at hl 1 rfl) ?_
    refine cIfnonnull (ad := ad) (r := x1) (tgt := 11) hx hb dX1_giveFloor_6 (by decide) (fun c1 => ?_) (fun c1 => ?_)
    · rw [if_pos c1] at hE hp
      refine lv_iconst (v := 0) hx hb dX1_giveFloor_9 (by decide) ?_
      subst hQ
      exact W.iret (v := (0 : Int32)) hx hb hr (fun t ht hW => ⟨⟨(0 : Int32), (siC S x0 6 x2), rfl, ⟨hE.trans hX.symm, hZ⟩, by rw [ht]; exact hP, hD⟩, hS.F ht⟩) hS.2.2 dX1_giveFloor_10
    · rw [if_neg c1] at hE hp
      refine cAload_n (ad := ad) (r := x1) hx hb dX1_giveFloor_11 rfl (lv_at hl 1 rfl) ?_
      refine lv_dup hx hb dX1_giveFloor_12 (re_cat ad _) ?_
      obtain ⟨hy2, hp⟩ := hp
      refine cTop (r := x1) hy2.1 ?_
      refine va_get (D := G) (ci := 3) (v := .int (giC (siC S x0 6 x2) (x1.getD 0) 5)) (C := RX4) (T := TX4) (N := 16) hx hb hts iX4 hown hK hP (x1.getD 0) (at_3 hy2.2) rfl 5 (by decide) (hw (.fieldLink RX1 115 "MotionFloor$Motion" "floors" "I") (List.mem_of_getElem? (i := 1) rfl)) (fun _ h9 => h9) rfl dX1_giveFloor_13 ?_
      refine lv_iconst (v := 1) hx hb dX1_giveFloor_16 (by decide) ?_
      refine lv_iadd hx hb dX1_giveFloor_17 ?_
      obtain ⟨hy3, hp⟩ := hp
      refine cTop2 (r := x1) hy3.1 ?_
      refine va_put (D := G) (ci := 3) (v := .int ((giC (siC S x0 6 x2) (x1.getD 0) 5) + 1)) (ty := .int) (C := RX4) (T := TX4) (N := 16) hx hb hts iX4 tyX4 tyX4_ok nmX4 hown hK hP hD hS (x1.getD 0) (at_3 hy3.2) rfl 5 (by decide) (hw (.fieldLink RX1 115 "MotionFloor$Motion" "floors" "I") (List.mem_of_getElem? (i := 1) rfl)) (fun _ h9 => h9) rfl (by decide +kernel) rfl rfl (Nat.le_of_ble_eq_true rfl) dX1_giveFloor_18 (fun H locs hP hD hS => ?_)
      rw [st_3_5 hy3.2] at hP hD
      have hZ := hZ.tr (eK.si (siC S x0 6 x2) (x1.getD 0) 5 ((giC (siC S x0 6 x2) (x1.getD 0) 5) + 1))
      refine cAload_n (ad := ad) (r := x1) hx hb dX1_giveFloor_21 rfl (lv_at hl 1 rfl) ?_
      obtain ⟨hy4, hp⟩ := hp
      refine cTop (r := x1) hy4.1 ?_
      refine va_get (D := G) (ci := 3) (v := .int (giC (siC (siC S x0 6 x2) (x1.getD 0) 5 ((giC (siC S x0 6 x2) (x1.getD 0) 5) + 1)) (x1.getD 0) 5)) (C := RX4) (T := TX4) (N := 16) hx hb hts iX4 hown hK hP (x1.getD 0) (at_3 hy4.2) rfl 5 (by decide) (hw (.fieldLink RX1 115 "MotionFloor$Motion" "floors" "I") (List.mem_of_getElem? (i := 1) rfl)) (fun _ h9 => h9) rfl dX1_giveFloor_22 ?_
      subst hQ
      exact W.iret (v := (giC (siC (siC S x0 6 x2) (x1.getD 0) 5 ((giC (siC S x0 6 x2) (x1.getD 0) 5) + 1)) (x1.getD 0) 5)) hx hb hr (fun t ht hW => ⟨⟨(giC (siC (siC S x0 6 x2) (x1.getD 0) 5 ((giC (siC S x0 6 x2) (x1.getD 0) 5) + 1)) (x1.getD 0) 5), (siC (siC S x0 6 x2) (x1.getD 0) 5 ((giC (siC S x0 6 x2) (x1.getD 0) 5) + 1)), rfl, ⟨hE.trans hX.symm, hZ⟩, by rw [ht]; exact hP, hD⟩, hS.F ht⟩) hS.2.2 dX1_giveFloor_25
  exact B_M S0 a1 a2 _ _ _ hX hp (eK.rf S0) hP hD hS hl
theorem gdX1_cedeFloor_0 : ckS (List.drop 0 cX1_cedeFloor.data.toList) 0 [(0, .aload_n 0, 1), (1, .getfield 112, 3), (4, .istore_n 1, 1), (5, .aload_n 0, 1), (6, .iconst (-1), 1), (7, .putfield 112, 3), (10, .iload_n 1, 1), (11, .ireturn, 1)] = true := by decide +kernel
theorem dX1_cedeFloor_0 : decode cX1_cedeFloor 0 = .ok (.aload_n 0, 1) := ckS_g gdX1_cedeFloor_0 0 rfl
theorem dX1_cedeFloor_1 : decode cX1_cedeFloor 1 = .ok (.getfield 112, 3) := ckS_g gdX1_cedeFloor_0 1 rfl
theorem dX1_cedeFloor_4 : decode cX1_cedeFloor 4 = .ok (.istore_n 1, 1) := ckS_g gdX1_cedeFloor_0 2 rfl
theorem dX1_cedeFloor_5 : decode cX1_cedeFloor 5 = .ok (.aload_n 0, 1) := ckS_g gdX1_cedeFloor_0 3 rfl
theorem dX1_cedeFloor_6 : decode cX1_cedeFloor 6 = .ok (.iconst (-1), 1) := ckS_g gdX1_cedeFloor_0 4 rfl
theorem dX1_cedeFloor_7 : decode cX1_cedeFloor 7 = .ok (.putfield 112, 3) := ckS_g gdX1_cedeFloor_0 5 rfl
theorem dX1_cedeFloor_10 : decode cX1_cedeFloor 10 = .ok (.iload_n 1, 1) := ckS_g gdX1_cedeFloor_0 6 rfl
theorem dX1_cedeFloor_11 : decode cX1_cedeFloor 11 = .ok (.ireturn, 1) := ckS_g gdX1_cedeFloor_0 7 rfl
set_option maxRecDepth 100000 in
theorem zc140 : wZ (.code yX1_cedeFloor cX1_cedeFloor 2 (some .int)) := ⟨wT2 (List.mem_of_getElem? (i := 226) rfl), Or.inl rfl⟩
def f_Y1_cedeFloor (S : Cst) (x0 : Nat) : Int32 × Cst := ((giC S x0 6), (siC S x0 6 ((-1) : Int32)))
def p_Y1_cedeFloor (S : Cst) (x0 : Nat) : Prop := True
def e_Y1_cedeFloor : List Cond := [.fieldLink RX1 112 "MotionFloor$House" "speaker" "I"]
def v_Y1_cedeFloor : List Cond := .code yX1_cedeFloor cX1_cedeFloor 2 (some .int) :: (e_Y1_cedeFloor ++ (wsX20 ++ []))
theorem te_Y1_cedeFloor : GoodIn lw_tbl e_Y1_cedeFloor := wGc zc138 (wG0)
theorem t_Y1_cedeFloor : GoodIn lw_tbl v_Y1_cedeFloor := wGc zc140 (wGa te_Y1_cedeFloor (wGa zcX2 (wG0)))
set_option maxHeartbeats 4000000 in
set_option maxRecDepth 100000 in
theorem c_Y1_cedeFloor (l : Launch) (G : va_G) (K : Nat → ClassId) (ad : Nat → Nat) (S0 : Cst) (x0 : Nat)  (sz : Nat) : Met l yX1_cedeFloor v_Y1_cedeFloor ({ frames := 0, cells := 0, slots := 0, locals := 0 }) (va_Pc [.ref (ad x0)] (cSt G K ad sz S0 (iK S0 x0 1 ∧ p_Y1_cedeFloor S0 x0))) (va_Qi (fun (r : Int32) (u : Cst) => (r, u) = f_Y1_cedeFloor S0 x0 ∧ eK S0 u) (cBt G K ad (va_A (wsC K ad S0) sz)) (va_A (wsC K ad S0) sz)) 0 0 (va_A (wsC K ad S0) sz) := by
  refine Met.ofW (cc := cX1_cedeFloor) (maxL := 2) (ret := (some .int)) (by decide) rfl ?_
  intro p e s m args below meth c s₁ B hml hv
  obtain ⟨rfl, ⟨hsz, hP, hK, hD0, hTE⟩, hp⟩ := hv
  obtain ⟨k_x0, hp⟩ := hp
  have hx := B.exec
  have hb := B.bytes
  have hr := B.returns
  have hts := atoms_spec (ws := v_Y1_cedeFloor) B.pre
  have t_ := t_Y1_cedeFloor
  have mw : ∀ w ∈ e_Y1_cedeFloor, w ∈ v_Y1_cedeFloor := fun w h => List.mem_cons_of_mem _ (List.mem_append_left _ h)
  have hw := fun w (h : w ∈ e_Y1_cedeFloor) => hts w (mw w h)
  have iX2 : ∀ w ∈ wsX20, w ∈ v_Y1_cedeFloor := fun w h => List.mem_cons_of_mem _ (List.mem_append_right _ (List.mem_append_left _ h))
  have hown : s.vm.findClass RX1 = some m.cls := findClass_of_methodNamed B.named
  have hlocks := B.notSynchronized
  subst hsz
  have hD := hD0.self (sz := s.heap.size)
  generalize hAe : va_A (wsC K ad S0) s.heap.size = A at hD ⊢
  have hA : ∀ q : Nat, s.heap.size ≤ q → A q := fun q h => by rw [← hAe]; exact Or.inr h
  have hS : va_S A s.heap s.heap [] := va_S.rf
  have hl : lv_has (lg_sl ([.ref (ad x0)]) ++ List.replicate (2 - (lg_sl ([.ref (ad x0)])).length) Slot.unset).toArray 2 [(0, .ref (ad x0))] := by
    exact lv_entry ([.ref (ad x0)]) (n := 2) (Nat.le_of_ble_eq_true rfl)
  rw [lg_entry_eq]
  generalize (lg_sl ([.ref (ad x0)]) ++ List.replicate (2 - (lg_sl ([.ref (ad x0)])).length) Slot.unset).toArray = ls_ at hl ⊢
  refine wGen (fun Q hQ => ?_)
  obtain ⟨X, hX⟩ : ∃ X, f_Y1_cedeFloor S0 x0 = X := ⟨_, rfl⟩
  have B_M : ∀ (S : Cst) (H : Heap) (locs : List Loc) (ls_ : Array Slot), f_Y1_cedeFloor S x0 = X → p_Y1_cedeFloor S x0 → eK S0 S → va_P G vwCl (wsC K ad S) H → va_D A (wsC K ad S) → va_S A s.heap H locs → lv_has ls_ 2 [(0, .ref (ad x0))] → W p l e ({ frames := 0, cells := 0, slots := 0, locals := 0 } : Room) s m #[Value.ref (ad x0)] below meth c H locs 0 0 Q (F0 m 0 ls_ []) := by
    intro S H locs ls_ hE hp hZ hP hD hS hl
    unfold f_Y1_cedeFloor at hE
    unfold p_Y1_cedeFloor at hp
    refine lv_aload_n hx hb dX1_cedeFloor_0 rfl (lv_at hl 0 rfl) ?_
    refine va_get (D := G) (ci := 1) (v := .int (giC S x0 6)) (C := RX2) (T := TX2) (N := 8) hx hb hts iX2 hown hK hP x0 (at_1 (k_x0.e hZ)) rfl 6 (by decide) (hw (.fieldLink RX1 112 "MotionFloor$House" "speaker" "I") (List.mem_of_getElem? (i := 0) rfl)) (fun _ h9 => h9) rfl dX1_cedeFloor_1 ?_
    refine lv_istore_n (i := 1) (lv' := [(1, .int (giC S x0 6)), (0, .ref (ad x0))]) hx hb dX1_cedeFloor_4 rfl hl (by decide) rfl (fun ls_ hl => ?_)
    refine lv_aload_n hx hb dX1_cedeFloor_5 rfl (lv_at hl 1 rfl) ?_
    refine lv_iconst (v := (-1)) hx hb dX1_cedeFloor_6 (by decide) ?_
    refine va_put (D := G) (ci := 1) (v := .int (-1)) (ty := .int) (C := RX2) (T := TX2) (N := 8) hx hb hts iX2 tyX2 tyX2_ok nmX2 hown hK hP hD hS x0 (at_1 (k_x0.e hZ)) rfl 6 (by decide) (hw (.fieldLink RX1 112 "MotionFloor$House" "speaker" "I") (List.mem_of_getElem? (i := 0) rfl)) (fun _ h9 => h9) rfl (by decide +kernel) rfl rfl (Nat.le_of_ble_eq_true rfl) dX1_cedeFloor_7 (fun H locs hP hD hS => ?_)
    rw [st_1_6 (k_x0.e hZ)] at hP hD
    have hZ := hZ.tr (eK.si S x0 6 ((-1) : Int32))
    refine lv_iload_n hx hb dX1_cedeFloor_10 rfl (lv_at hl 0 rfl) ?_
    subst hQ
    exact W.iret (v := (giC S x0 6)) hx hb hr (fun t ht hW => ⟨⟨(giC S x0 6), (siC S x0 6 ((-1) : Int32)), rfl, ⟨hE.trans hX.symm, hZ⟩, by rw [ht]; exact hP, hD⟩, hS.F ht⟩) hS.2.2 dX1_cedeFloor_11
  exact B_M S0 _ _ _ hX hp (eK.rf S0) hP hD hS hl
theorem gdX1_speak_0 : ckS (List.drop 0 cX1_speak.data.toList) 0 [(0, .aload_n 0, 1), (1, .ifnonnull 5, 3), (4, .iconst 0, 1), (5, .ireturn, 1), (6, .aload_n 0, 1), (7, .dup, 1), (8, .getfield 118, 3), (11, .iconst 1, 1), (12, .iadd, 1), (13, .putfield 118, 3), (16, .aload_n 0, 1), (17, .getfield 118, 3), (20, .ireturn, 1)] = true := by decide +kernel
theorem dX1_speak_0 : decode cX1_speak 0 = .ok (.aload_n 0, 1) := ckS_g gdX1_speak_0 0 rfl
theorem dX1_speak_1 : decode cX1_speak 1 = .ok (.ifnonnull 5, 3) := ckS_g gdX1_speak_0 1 rfl
theorem dX1_speak_4 : decode cX1_speak 4 = .ok (.iconst 0, 1) := ckS_g gdX1_speak_0 2 rfl
theorem dX1_speak_5 : decode cX1_speak 5 = .ok (.ireturn, 1) := ckS_g gdX1_speak_0 3 rfl
theorem dX1_speak_6 : decode cX1_speak 6 = .ok (.aload_n 0, 1) := ckS_g gdX1_speak_0 4 rfl
theorem dX1_speak_7 : decode cX1_speak 7 = .ok (.dup, 1) := ckS_g gdX1_speak_0 5 rfl
theorem dX1_speak_8 : decode cX1_speak 8 = .ok (.getfield 118, 3) := ckS_g gdX1_speak_0 6 rfl
theorem dX1_speak_11 : decode cX1_speak 11 = .ok (.iconst 1, 1) := ckS_g gdX1_speak_0 7 rfl
theorem dX1_speak_12 : decode cX1_speak 12 = .ok (.iadd, 1) := ckS_g gdX1_speak_0 8 rfl
theorem dX1_speak_13 : decode cX1_speak 13 = .ok (.putfield 118, 3) := ckS_g gdX1_speak_0 9 rfl
theorem dX1_speak_16 : decode cX1_speak 16 = .ok (.aload_n 0, 1) := ckS_g gdX1_speak_0 10 rfl
theorem dX1_speak_17 : decode cX1_speak 17 = .ok (.getfield 118, 3) := ckS_g gdX1_speak_0 11 rfl
theorem dX1_speak_20 : decode cX1_speak 20 = .ok (.ireturn, 1) := ckS_g gdX1_speak_0 12 rfl
set_option maxRecDepth 100000 in
theorem zc141 : wZ (.fieldLink RX1 118 "MotionFloor$Motion" "speeches" "I") := ⟨wT3 (List.mem_of_getElem? (i := 32) (by decide +kernel)), Or.inl rfl⟩
set_option maxRecDepth 100000 in
theorem zc142 : wZ (.code yX1_speak cX1_speak 1 (some .int)) := ⟨wT2 (List.mem_of_getElem? (i := 229) rfl), Or.inl rfl⟩
def f_Y1_speak (S : Cst) (x0 : Option Nat) : Int32 × Cst := if x0 = none then ((0 : Int32), S) else ((giC (siC S (x0.getD 0) 6 ((giC S (x0.getD 0) 6) + 1)) (x0.getD 0) 6), (siC S (x0.getD 0) 6 ((giC S (x0.getD 0) 6) + 1)))
def p_Y1_speak (S : Cst) (x0 : Option Nat) : Prop := (if x0 = none then True else (iR S x0 3) ∧ (iR S x0 3) ∧ (iR (siC S (x0.getD 0) 6 ((giC S (x0.getD 0) 6) + 1)) x0 3) ∧ True)
def e_Y1_speak : List Cond := [.fieldLink RX1 118 "MotionFloor$Motion" "speeches" "I"]
def v_Y1_speak : List Cond := .code yX1_speak cX1_speak 1 (some .int) :: (e_Y1_speak ++ (wsX40 ++ []))
theorem te_Y1_speak : GoodIn lw_tbl e_Y1_speak := wGc zc141 (wG0)
theorem t_Y1_speak : GoodIn lw_tbl v_Y1_speak := wGc zc142 (wGa te_Y1_speak (wGa zcX4 (wG0)))
set_option maxHeartbeats 4000000 in
set_option maxRecDepth 100000 in
theorem c_Y1_speak (l : Launch) (G : va_G) (K : Nat → ClassId) (ad : Nat → Nat) (S0 : Cst)  (a0 : Option Nat) (sz : Nat) : Met l yX1_speak v_Y1_speak ({ frames := 0, cells := 0, slots := 0, locals := 0 }) (va_Pc [va_re ad a0] (cSt G K ad sz S0 (p_Y1_speak S0 a0))) (va_Qi (fun (r : Int32) (u : Cst) => (r, u) = f_Y1_speak S0 a0 ∧ eK S0 u) (cBt G K ad (va_A (wsC K ad S0) sz)) (va_A (wsC K ad S0) sz)) 0 0 (va_A (wsC K ad S0) sz) := by
  refine Met.ofW (cc := cX1_speak) (maxL := 1) (ret := (some .int)) (by decide) rfl ?_
  intro p e s m args below meth c s₁ B hml hv
  obtain ⟨rfl, ⟨hsz, hP, hK, hD0, hTE⟩, hp⟩ := hv
  have hx := B.exec
  have hb := B.bytes
  have hr := B.returns
  have hts := atoms_spec (ws := v_Y1_speak) B.pre
  have t_ := t_Y1_speak
  have mw : ∀ w ∈ e_Y1_speak, w ∈ v_Y1_speak := fun w h => List.mem_cons_of_mem _ (List.mem_append_left _ h)
  have hw := fun w (h : w ∈ e_Y1_speak) => hts w (mw w h)
  have iX4 : ∀ w ∈ wsX40, w ∈ v_Y1_speak := fun w h => List.mem_cons_of_mem _ (List.mem_append_right _ (List.mem_append_left _ h))
  have hown : s.vm.findClass RX1 = some m.cls := findClass_of_methodNamed B.named
  have hlocks := B.notSynchronized
  subst hsz
  have hD := hD0.self (sz := s.heap.size)
  generalize hAe : va_A (wsC K ad S0) s.heap.size = A at hD ⊢
  have hA : ∀ q : Nat, s.heap.size ≤ q → A q := fun q h => by rw [← hAe]; exact Or.inr h
  have hS : va_S A s.heap s.heap [] := va_S.rf
  have hl : lv_has (lg_sl ([va_re ad a0]) ++ List.replicate (1 - (lg_sl ([va_re ad a0])).length) Slot.unset).toArray 1 [(0, va_re ad a0)] := by
    cases a0 <;> exact lv_entry _ (n := 1) (Nat.le_of_ble_eq_true rfl)
  rw [lg_entry_eq]
  generalize (lg_sl ([va_re ad a0]) ++ List.replicate (1 - (lg_sl ([va_re ad a0])).length) Slot.unset).toArray = ls_ at hl ⊢
  refine wGen (fun Q hQ => ?_)
  obtain ⟨X, hX⟩ : ∃ X, f_Y1_speak S0 a0 = X := ⟨_, rfl⟩
  have B_M : ∀ (S : Cst) (x0 : Option Nat) (H : Heap) (locs : List Loc) (ls_ : Array Slot), f_Y1_speak S x0 = X → p_Y1_speak S x0 → eK S0 S → va_P G vwCl (wsC K ad S) H → va_D A (wsC K ad S) → va_S A s.heap H locs → lv_has ls_ 1 [(0, va_re ad x0)] → W p l e ({ frames := 0, cells := 0, slots := 0, locals := 0 } : Room) s m #[va_re ad a0] below meth c H locs 0 0 Q (F0 m 0 ls_ []) := by
    intro S x0 H locs ls_ hE hp hZ hP hD hS hl
    unfold f_Y1_speak at hE
    unfold p_Y1_speak at hp
    refine cAload_n (ad := ad) (r := x0) hx hb dX1_speak_0 rfl (lv_at hl 0 rfl) ?_
    refine cIfnonnull (ad := ad) (r := x0) (tgt := 6) hx hb dX1_speak_1 (by decide) (fun c1 => ?_) (fun c1 => ?_)
    · rw [if_pos c1] at hE hp
      refine lv_iconst (v := 0) hx hb dX1_speak_4 (by decide) ?_
      subst hQ
      exact W.iret (v := (0 : Int32)) hx hb hr (fun t ht hW => ⟨⟨(0 : Int32), S, rfl, ⟨hE.trans hX.symm, hZ⟩, by rw [ht]; exact hP, hD⟩, hS.F ht⟩) hS.2.2 dX1_speak_5
    · rw [if_neg c1] at hE hp
      refine cAload_n (ad := ad) (r := x0) hx hb dX1_speak_6 rfl (lv_at hl 0 rfl) ?_
      refine lv_dup hx hb dX1_speak_7 (re_cat ad _) ?_
      obtain ⟨hy2, hp⟩ := hp
      refine cTop (r := x0) hy2.1 ?_
      refine va_get (D := G) (ci := 3) (v := .int (giC S (x0.getD 0) 6)) (C := RX4) (T := TX4) (N := 16) hx hb hts iX4 hown hK hP (x0.getD 0) (at_3 hy2.2) rfl 6 (by decide) (hw (.fieldLink RX1 118 "MotionFloor$Motion" "speeches" "I") (List.mem_of_getElem? (i := 0) rfl)) (fun _ h9 => h9) rfl dX1_speak_8 ?_
      refine lv_iconst (v := 1) hx hb dX1_speak_11 (by decide) ?_
      refine lv_iadd hx hb dX1_speak_12 ?_
      obtain ⟨hy3, hp⟩ := hp
      refine cTop2 (r := x0) hy3.1 ?_
      refine va_put (D := G) (ci := 3) (v := .int ((giC S (x0.getD 0) 6) + 1)) (ty := .int) (C := RX4) (T := TX4) (N := 16) hx hb hts iX4 tyX4 tyX4_ok nmX4 hown hK hP hD hS (x0.getD 0) (at_3 hy3.2) rfl 6 (by decide) (hw (.fieldLink RX1 118 "MotionFloor$Motion" "speeches" "I") (List.mem_of_getElem? (i := 0) rfl)) (fun _ h9 => h9) rfl (by decide +kernel) rfl rfl (Nat.le_of_ble_eq_true rfl) dX1_speak_13 (fun H locs hP hD hS => ?_)
      rw [st_3_6 hy3.2] at hP hD
      have hZ := hZ.tr (eK.si S (x0.getD 0) 6 ((giC S (x0.getD 0) 6) + 1))
      refine cAload_n (ad := ad) (r := x0) hx hb dX1_speak_16 rfl (lv_at hl 0 rfl) ?_
      obtain ⟨hy4, hp⟩ := hp
      refine cTop (r := x0) hy4.1 ?_
      refine va_get (D := G) (ci := 3) (v := .int (giC (siC S (x0.getD 0) 6 ((giC S (x0.getD 0) 6) + 1)) (x0.getD 0) 6)) (C := RX4) (T := TX4) (N := 16) hx hb hts iX4 hown hK hP (x0.getD 0) (at_3 hy4.2) rfl 6 (by decide) (hw (.fieldLink RX1 118 "MotionFloor$Motion" "speeches" "I") (List.mem_of_getElem? (i := 0) rfl)) (fun _ h9 => h9) rfl dX1_speak_17 ?_
      subst hQ
      exact W.iret (v := (giC (siC S (x0.getD 0) 6 ((giC S (x0.getD 0) 6) + 1)) (x0.getD 0) 6)) hx hb hr (fun t ht hW => ⟨⟨(giC (siC S (x0.getD 0) 6 ((giC S (x0.getD 0) 6) + 1)) (x0.getD 0) 6), (siC S (x0.getD 0) 6 ((giC S (x0.getD 0) 6) + 1)), rfl, ⟨hE.trans hX.symm, hZ⟩, by rw [ht]; exact hP, hD⟩, hS.F ht⟩) hS.2.2 dX1_speak_20
  exact B_M S0 a0 _ _ _ hX hp (eK.rf S0) hP hD hS hl
theorem gdX1_setSpan_0 : ckS (List.drop 0 cX1_setSpan.data.toList) 0 [(0, .aload_n 0, 1), (1, .getfield 121, 3), (4, .invokevirtual 139, 3), (7, .astore_n 3, 1), (8, .aload_n 3, 1), (9, .ifnull 13, 3), (12, .aload_n 3, 1), (13, .iload_n 1, 1), (14, .putfield 142, 3), (17, .aload_n 3, 1), (18, .iload_n 2, 1), (19, .putfield 145, 3), (22, .iload_n 2, 1), (23, .iload_n 1, 1), (24, .isub, 1), (25, .ireturn, 1)] = true := by decide +kernel
theorem dX1_setSpan_0 : decode cX1_setSpan 0 = .ok (.aload_n 0, 1) := ckS_g gdX1_setSpan_0 0 rfl
theorem dX1_setSpan_1 : decode cX1_setSpan 1 = .ok (.getfield 121, 3) := ckS_g gdX1_setSpan_0 1 rfl
theorem dX1_setSpan_4 : decode cX1_setSpan 4 = .ok (.invokevirtual 139, 3) := ckS_g gdX1_setSpan_0 2 rfl
theorem dX1_setSpan_7 : decode cX1_setSpan 7 = .ok (.astore_n 3, 1) := ckS_g gdX1_setSpan_0 3 rfl
theorem dX1_setSpan_8 : decode cX1_setSpan 8 = .ok (.aload_n 3, 1) := ckS_g gdX1_setSpan_0 4 rfl
theorem dX1_setSpan_9 : decode cX1_setSpan 9 = .ok (.ifnull 13, 3) := ckS_g gdX1_setSpan_0 5 rfl
theorem dX1_setSpan_12 : decode cX1_setSpan 12 = .ok (.aload_n 3, 1) := ckS_g gdX1_setSpan_0 6 rfl
theorem dX1_setSpan_13 : decode cX1_setSpan 13 = .ok (.iload_n 1, 1) := ckS_g gdX1_setSpan_0 7 rfl
theorem dX1_setSpan_14 : decode cX1_setSpan 14 = .ok (.putfield 142, 3) := ckS_g gdX1_setSpan_0 8 rfl
theorem dX1_setSpan_17 : decode cX1_setSpan 17 = .ok (.aload_n 3, 1) := ckS_g gdX1_setSpan_0 9 rfl
theorem dX1_setSpan_18 : decode cX1_setSpan 18 = .ok (.iload_n 2, 1) := ckS_g gdX1_setSpan_0 10 rfl
theorem dX1_setSpan_19 : decode cX1_setSpan 19 = .ok (.putfield 145, 3) := ckS_g gdX1_setSpan_0 11 rfl
theorem dX1_setSpan_22 : decode cX1_setSpan 22 = .ok (.iload_n 2, 1) := ckS_g gdX1_setSpan_0 12 rfl
theorem dX1_setSpan_23 : decode cX1_setSpan 23 = .ok (.iload_n 1, 1) := ckS_g gdX1_setSpan_0 13 rfl
theorem dX1_setSpan_24 : decode cX1_setSpan 24 = .ok (.isub, 1) := ckS_g gdX1_setSpan_0 14 rfl
theorem dX1_setSpan_25 : decode cX1_setSpan 25 = .ok (.ireturn, 1) := ckS_g gdX1_setSpan_0 15 rfl
set_option maxRecDepth 100000 in
theorem zc143 : wZ (.fieldLink RX1 145 "MotionFloor$Motion" "to" "I") := ⟨wT3 (List.mem_of_getElem? (i := 43) (by decide +kernel)), Or.inl rfl⟩
set_option maxRecDepth 100000 in
theorem zc144 : wZ (.fieldLink RX1 142 "MotionFloor$Motion" "from" "I") := ⟨wT3 (List.mem_of_getElem? (i := 38) (by decide +kernel)), Or.inl rfl⟩
set_option maxRecDepth 100000 in
theorem zc145 : wZ (.methodLink RX1 139 yX6_motion) := ⟨wT3 (List.mem_of_getElem? (i := 118) (by decide +kernel)), Or.inl rfl⟩
set_option maxRecDepth 100000 in
theorem zc146 : wZ (.fieldLink RX1 121 "MotionFloor$Assembly" "draft" "LMotionFloor$Place;") := ⟨wT1 (List.mem_of_getElem? (i := 188) (by decide +kernel)), Or.inl rfl⟩
set_option maxRecDepth 100000 in
theorem zc147 : wZ (.code yX1_setSpan cX1_setSpan 4 (some .int)) := ⟨wT3 (List.mem_of_getElem? (i := 117) rfl), Or.inl rfl⟩
def b_Y1_setSpan_22 (S : Cst) (x0 : Nat) (x1 : Int32) (x2 : Int32) (x3 : Option Nat) : Int32 × Cst := ((x2 - x1), S)
def q_Y1_setSpan_22 (S : Cst) (x0 : Nat) (x1 : Int32) (x2 : Int32) (x3 : Option Nat) : Prop := True
def f_Y1_setSpan (S : Cst) (x0 : Nat) (x1 : Int32) (x2 : Int32) : Int32 × Cst := if (f_Y6_motion S ((grC S x0 2).getD 0)) = none then (b_Y1_setSpan_22 S x0 x1 x2 (f_Y6_motion S ((grC S x0 2).getD 0))) else (b_Y1_setSpan_22 (siC (siC S ((f_Y6_motion S ((grC S x0 2).getD 0)).getD 0) 8 x1) ((f_Y6_motion S ((grC S x0 2).getD 0)).getD 0) 9 x2) x0 x1 x2 (f_Y6_motion S ((grC S x0 2).getD 0)))
def p_Y1_setSpan (S : Cst) (x0 : Nat) (x1 : Int32) (x2 : Int32) : Prop := (iR S (grC S x0 2) 5) ∧ (p_Y6_motion S ((grC S x0 2).getD 0)) ∧ (if (f_Y6_motion S ((grC S x0 2).getD 0)) = none then (q_Y1_setSpan_22 S x0 x1 x2 (f_Y6_motion S ((grC S x0 2).getD 0))) else (iR S (f_Y6_motion S ((grC S x0 2).getD 0)) 3) ∧ (iR (siC S ((f_Y6_motion S ((grC S x0 2).getD 0)).getD 0) 8 x1) (f_Y6_motion S ((grC S x0 2).getD 0)) 3) ∧ (q_Y1_setSpan_22 (siC (siC S ((f_Y6_motion S ((grC S x0 2).getD 0)).getD 0) 8 x1) ((f_Y6_motion S ((grC S x0 2).getD 0)).getD 0) 9 x2) x0 x1 x2 (f_Y6_motion S ((grC S x0 2).getD 0))))
def e_Y1_setSpan : List Cond := [.fieldLink RX1 121 "MotionFloor$Assembly" "draft" "LMotionFloor$Place;", .methodLink RX1 139 yX6_motion, .instanceMethod yX6_motion, .selects RX6 yX6_motion yX6_motion, .initialized RX6, .fieldLink RX1 142 "MotionFloor$Motion" "from" "I", .fieldLink RX1 145 "MotionFloor$Motion" "to" "I"]
def v_Y1_setSpan : List Cond := .code yX1_setSpan cX1_setSpan 4 (some .int) :: (e_Y1_setSpan ++ (wsX00 ++ (wsX40 ++ (v_Y6_motion ++ []))))
theorem te_Y1_setSpan : GoodIn lw_tbl e_Y1_setSpan := wGc zc146 (wGc zc145 (wGc zc128 (wGc zc127 (wGc zc112 (wGc zc144 (wGc zc143 (wG0)))))))
theorem t_Y1_setSpan : GoodIn lw_tbl v_Y1_setSpan := wGc zc147 (wGa te_Y1_setSpan (wGa zcX0 (wGa zcX4 (wGa t_Y6_motion (wG0)))))
set_option maxHeartbeats 4000000 in
set_option maxRecDepth 100000 in
theorem c_Y1_setSpan (l : Launch) (G : va_G) (K : Nat → ClassId) (ad : Nat → Nat) (S0 : Cst) (x0 : Nat) (a1 : Int32) (a2 : Int32) (sz : Nat) : Met l yX1_setSpan v_Y1_setSpan ({ frames := 2, cells := 0, slots := 0, locals := 41 }) (va_Pc [.ref (ad x0), .int a1, .int a2] (cSt G K ad sz S0 (iK S0 x0 0 ∧ p_Y1_setSpan S0 x0 a1 a2))) (va_Qi (fun (r : Int32) (u : Cst) => (r, u) = f_Y1_setSpan S0 x0 a1 a2 ∧ eK S0 u) (cBt G K ad (va_A (wsC K ad S0) sz)) (va_A (wsC K ad S0) sz)) 0 0 (va_A (wsC K ad S0) sz) := by
  refine Met.ofW (cc := cX1_setSpan) (maxL := 4) (ret := (some .int)) (by decide) rfl ?_
  intro p e s m args below meth c s₁ B hml hv
  obtain ⟨rfl, ⟨hsz, hP, hK, hD0, hTE⟩, hp⟩ := hv
  obtain ⟨k_x0, hp⟩ := hp
  have hx := B.exec
  have hb := B.bytes
  have hr := B.returns
  have hts := atoms_spec (ws := v_Y1_setSpan) B.pre
  have t_ := t_Y1_setSpan
  have mw : ∀ w ∈ e_Y1_setSpan, w ∈ v_Y1_setSpan := fun w h => List.mem_cons_of_mem _ (List.mem_append_left _ h)
  have hw := fun w (h : w ∈ e_Y1_setSpan) => hts w (mw w h)
  have iX0 : ∀ w ∈ wsX00, w ∈ v_Y1_setSpan := fun w h => List.mem_cons_of_mem _ (List.mem_append_right _ (List.mem_append_left _ h))
  have iX4 : ∀ w ∈ wsX40, w ∈ v_Y1_setSpan := fun w h => List.mem_cons_of_mem _ (List.mem_append_right _ (List.mem_append_right _ (List.mem_append_left _ h)))
  have j_Y6_motion : ∀ w ∈ v_Y6_motion, w ∈ v_Y1_setSpan := fun w h => List.mem_cons_of_mem _ (List.mem_append_right _ (List.mem_append_right _ (List.mem_append_right _ (List.mem_append_left _ h))))
  have hown : s.vm.findClass RX1 = some m.cls := findClass_of_methodNamed B.named
  have hlocks := B.notSynchronized
  subst hsz
  have hD := hD0.self (sz := s.heap.size)
  generalize hAe : va_A (wsC K ad S0) s.heap.size = A at hD ⊢
  have hA : ∀ q : Nat, s.heap.size ≤ q → A q := fun q h => by rw [← hAe]; exact Or.inr h
  have hS : va_S A s.heap s.heap [] := va_S.rf
  have hl : lv_has (lg_sl ([.ref (ad x0), .int a1, .int a2]) ++ List.replicate (4 - (lg_sl ([.ref (ad x0), .int a1, .int a2])).length) Slot.unset).toArray 4 [(0, .ref (ad x0)), (1, .int a1), (2, .int a2)] := by
    exact lv_entry ([.ref (ad x0), .int a1, .int a2]) (n := 4) (Nat.le_of_ble_eq_true rfl)
  rw [lg_entry_eq]
  generalize (lg_sl ([.ref (ad x0), .int a1, .int a2]) ++ List.replicate (4 - (lg_sl ([.ref (ad x0), .int a1, .int a2])).length) Slot.unset).toArray = ls_ at hl ⊢
  refine wGen (fun Q hQ => ?_)
  obtain ⟨X, hX⟩ : ∃ X, f_Y1_setSpan S0 x0 a1 a2 = X := ⟨_, rfl⟩
  have B_Y1_setSpan_22 : ∀ (S : Cst) (x1 : Int32) (x2 : Int32) (x3 : Option Nat) (H : Heap) (locs : List Loc) (ls_ : Array Slot), b_Y1_setSpan_22 S x0 x1 x2 x3 = X → q_Y1_setSpan_22 S x0 x1 x2 x3 → eK S0 S → va_P G vwCl (wsC K ad S) H → va_D A (wsC K ad S) → va_S A s.heap H locs → lv_has ls_ 4 [(0, .ref (ad x0)), (1, .int x1), (2, .int x2), (3, va_re ad x3)] → W p l e ({ frames := 2, cells := 0, slots := 0, locals := 41 } : Room) s m #[Value.ref (ad x0), Value.int a1, Value.int a2] below meth c H locs 0 0 Q (F0 m 22 ls_ []) := by
    intro S x1 x2 x3 H locs ls_ hE hp hZ hP hD hS hl
    unfold b_Y1_setSpan_22 at hE
    unfold q_Y1_setSpan_22 at hp
    refine lv_iload_n hx hb dX1_setSpan_22 rfl (lv_at hl 2 rfl) ?_
    refine lv_iload_n hx hb dX1_setSpan_23 rfl (lv_at hl 1 rfl) ?_
    refine lv_isub hx hb dX1_setSpan_24 ?_
    subst hQ
    exact W.iret (v := (x2 - x1)) hx hb hr (fun t ht hW => ⟨⟨(x2 - x1), S, rfl, ⟨hE.trans hX.symm, hZ⟩, by rw [ht]; exact hP, hD⟩, hS.F ht⟩) hS.2.2 dX1_setSpan_25
  have B_M : ∀ (S : Cst) (x1 : Int32) (x2 : Int32) (H : Heap) (locs : List Loc) (ls_ : Array Slot), f_Y1_setSpan S x0 x1 x2 = X → p_Y1_setSpan S x0 x1 x2 → eK S0 S → va_P G vwCl (wsC K ad S) H → va_D A (wsC K ad S) → va_S A s.heap H locs → lv_has ls_ 4 [(0, .ref (ad x0)), (1, .int x1), (2, .int x2)] → W p l e ({ frames := 2, cells := 0, slots := 0, locals := 41 } : Room) s m #[Value.ref (ad x0), Value.int a1, Value.int a2] below meth c H locs 0 0 Q (F0 m 0 ls_ []) := by
    intro S x1 x2 H locs ls_ hE hp hZ hP hD hS hl
    unfold f_Y1_setSpan at hE
    unfold p_Y1_setSpan at hp
    refine lv_aload_n hx hb dX1_setSpan_0 rfl (lv_at hl 0 rfl) ?_
    refine va_get (D := G) (ci := 0) (v := va_re ad (grC S x0 2)) (C := RX0) (T := TX0) (N := 11) hx hb hts iX0 hown hK hP x0 (at_0 (k_x0.e hZ)) rfl 2 (by decide) (hw (.fieldLink RX1 121 "MotionFloor$Assembly" "draft" "LMotionFloor$Place;") (List.mem_of_getElem? (i := 0) rfl)) (fun _ h9 => h9) rfl dX1_setSpan_1 ?_
    obtain ⟨hy1, hp⟩ := hp
    refine cTop (r := (grC S x0 2)) hy1.1 ?_
    obtain ⟨hy2, hp⟩ := hp
    refine cGoq (va_runV (As := []) (rest := []) ⟨hx, hb, hml, hown, hts⟩ (c_Y6_motion l G K ad S ((grC S x0 2).getD 0) _) (cwV 0 hts (wGV t_ (mw (.methodLink RX1 139 yX6_motion) (List.mem_of_getElem? (i := 1) rfl)) (mw (.instanceMethod yX6_motion) (List.mem_of_getElem? (i := 2) rfl)) (mw (.selects RX6 yX6_motion yX6_motion) (List.mem_of_getElem? (i := 3) rfl)) (mw (.initialized RX6) (List.mem_of_getElem? (i := 4) rfl)) j_Y6_motion) rfl rfl rfl (by decide +kernel) ⟨Nat.le_of_ble_eq_true rfl, Nat.le_of_ble_eq_true rfl⟩) (cPV hK hTE hP hD 5 rfl (at_5 hy1.2) ⟨hy1.2, hy2⟩) rfl rfl hl.1 rfl (lv_room (Nat.le_of_ble_eq_true rfl)) dX1_setSpan_4 ⟨Nat.le_of_ble_eq_true rfl, Nat.le_of_ble_eq_true rfl⟩) hP hD hS hA (fun r4 u3 H locs hv hP hD hS => ?_)
    have h1 := congrArg Prod.fst hv
    have h2 := (congrArg Prod.snd hv).symm
    dsimp only at h1 h2
    subst h1
    subst h2
    refine cAstore_n (ad := ad) (r := (f_Y6_motion S ((grC S x0 2).getD 0))) (i := 3) (lv' := [(3, va_re ad (f_Y6_motion S ((grC S x0 2).getD 0))), (0, .ref (ad x0)), (1, .int x1), (2, .int x2)]) hx hb dX1_setSpan_7 rfl hl (by decide) rfl (fun ls_ hl => ?_)
    refine cAload_n (ad := ad) (r := (f_Y6_motion S ((grC S x0 2).getD 0))) hx hb dX1_setSpan_8 rfl (lv_at hl 0 rfl) ?_
    refine cIfnull (ad := ad) (r := (f_Y6_motion S ((grC S x0 2).getD 0))) (tgt := 22) hx hb dX1_setSpan_9 (by decide) (fun c5 => ?_) (fun c5 => ?_)
    · rw [if_pos c5] at hE hp
      exact B_Y1_setSpan_22 S x1 x2 (f_Y6_motion S ((grC S x0 2).getD 0)) _ _ _ hE hp hZ hP hD hS (lv_sub hl [1, 2, 3, 0] rfl)
    · rw [if_neg c5] at hE hp
      refine cAload_n (ad := ad) (r := (f_Y6_motion S ((grC S x0 2).getD 0))) hx hb dX1_setSpan_12 rfl (lv_at hl 0 rfl) ?_
      refine lv_iload_n hx hb dX1_setSpan_13 rfl (lv_at hl 2 rfl) ?_
      obtain ⟨hy6, hp⟩ := hp
      refine cTop2 (r := (f_Y6_motion S ((grC S x0 2).getD 0))) hy6.1 ?_
      refine va_put (D := G) (ci := 3) (v := .int x1) (ty := .int) (C := RX4) (T := TX4) (N := 16) hx hb hts iX4 tyX4 tyX4_ok nmX4 hown hK hP hD hS ((f_Y6_motion S ((grC S x0 2).getD 0)).getD 0) (at_3 hy6.2) rfl 8 (by decide) (hw (.fieldLink RX1 142 "MotionFloor$Motion" "from" "I") (List.mem_of_getElem? (i := 5) rfl)) (fun _ h9 => h9) rfl (by decide +kernel) rfl rfl (Nat.le_of_ble_eq_true rfl) dX1_setSpan_14 (fun H locs hP hD hS => ?_)
      rw [st_3_8 hy6.2] at hP hD
      have hZ := hZ.tr (eK.si S ((f_Y6_motion S ((grC S x0 2).getD 0)).getD 0) 8 x1)
      refine cAload_n (ad := ad) (r := (f_Y6_motion S ((grC S x0 2).getD 0))) hx hb dX1_setSpan_17 rfl (lv_at hl 0 rfl) ?_
      refine lv_iload_n hx hb dX1_setSpan_18 rfl (lv_at hl 3 rfl) ?_
      obtain ⟨hy7, hp⟩ := hp
      refine cTop2 (r := (f_Y6_motion S ((grC S x0 2).getD 0))) hy7.1 ?_
      refine va_put (D := G) (ci := 3) (v := .int x2) (ty := .int) (C := RX4) (T := TX4) (N := 16) hx hb hts iX4 tyX4 tyX4_ok nmX4 hown hK hP hD hS ((f_Y6_motion S ((grC S x0 2).getD 0)).getD 0) (at_3 hy7.2) rfl 9 (by decide) (hw (.fieldLink RX1 145 "MotionFloor$Motion" "to" "I") (List.mem_of_getElem? (i := 6) rfl)) (fun _ h9 => h9) rfl (by decide +kernel) rfl rfl (Nat.le_of_ble_eq_true rfl) dX1_setSpan_19 (fun H locs hP hD hS => ?_)
      rw [st_3_9 hy7.2] at hP hD
      have hZ := hZ.tr (eK.si (siC S ((f_Y6_motion S ((grC S x0 2).getD 0)).getD 0) 8 x1) ((f_Y6_motion S ((grC S x0 2).getD 0)).getD 0) 9 x2)
      exact B_Y1_setSpan_22 (siC (siC S ((f_Y6_motion S ((grC S x0 2).getD 0)).getD 0) 8 x1) ((f_Y6_motion S ((grC S x0 2).getD 0)).getD 0) 9 x2) x1 x2 (f_Y6_motion S ((grC S x0 2).getD 0)) _ _ _ hE hp hZ hP hD hS (lv_sub hl [1, 2, 3, 0] rfl)
  exact B_M S0 a1 a2 _ _ _ hX hp (eK.rf S0) hP hD hS hl
