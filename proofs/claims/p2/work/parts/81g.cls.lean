theorem dX8_againstDebate_0 : decode cX8_againstDebate 0 = .ok (.aload_n 0, 1) := by decide +kernel
theorem dX8_againstDebate_1 : decode cX8_againstDebate 1 = .ok (.getfield 86, 3) := by decide +kernel
theorem dX8_againstDebate_4 : decode cX8_againstDebate 4 = .ok (.invokevirtual 90, 3) := by decide +kernel
theorem dX8_againstDebate_7 : decode cX8_againstDebate 7 = .ok (.astore_n 2, 1) := by decide +kernel
theorem dX8_againstDebate_8 : decode cX8_againstDebate 8 = .ok (.aload_n 2, 1) := by decide +kernel
theorem dX8_againstDebate_9 : decode cX8_againstDebate 9 = .ok (.ifnonnull 6, 3) := by decide +kernel
theorem dX8_againstDebate_12 : decode cX8_againstDebate 12 = .ok (.bipush 7, 2) := by decide +kernel
theorem dX8_againstDebate_14 : decode cX8_againstDebate 14 = .ok (.ireturn, 1) := by decide +kernel
theorem dX8_againstDebate_15 : decode cX8_againstDebate 15 = .ok (.aload_n 0, 1) := by decide +kernel
theorem dX8_againstDebate_16 : decode cX8_againstDebate 16 = .ok (.getfield 34, 3) := by decide +kernel
theorem dX8_againstDebate_19 : decode cX8_againstDebate 19 = .ok (.iload_n 1, 1) := by decide +kernel
theorem dX8_againstDebate_20 : decode cX8_againstDebate 20 = .ok (.invokevirtual 135, 3) := by decide +kernel
theorem dX8_againstDebate_23 : decode cX8_againstDebate 23 = .ok (.ifCond .ne 5, 3) := by decide +kernel
theorem dX8_againstDebate_26 : decode cX8_againstDebate 26 = .ok (.iconst 2, 1) := by decide +kernel
theorem dX8_againstDebate_27 : decode cX8_againstDebate 27 = .ok (.ireturn, 1) := by decide +kernel
theorem dX8_againstDebate_28 : decode cX8_againstDebate 28 = .ok (.aload_n 2, 1) := by decide +kernel
theorem dX8_againstDebate_29 : decode cX8_againstDebate 29 = .ok (.getfield 138, 3) := by decide +kernel
theorem dX8_againstDebate_32 : decode cX8_againstDebate 32 = .ok (.iconst (-1), 1) := by decide +kernel
theorem dX8_againstDebate_33 : decode cX8_againstDebate 33 = .ok (.if_icmp .ne 5, 3) := by decide +kernel
theorem dX8_againstDebate_36 : decode cX8_againstDebate 36 = .ok (.iconst 3, 1) := by decide +kernel
theorem dX8_againstDebate_37 : decode cX8_againstDebate 37 = .ok (.ireturn, 1) := by decide +kernel
theorem dX8_againstDebate_38 : decode cX8_againstDebate 38 = .ok (.aload_n 2, 1) := by decide +kernel
theorem dX8_againstDebate_39 : decode cX8_againstDebate 39 = .ok (.getfield 128, 3) := by decide +kernel
theorem dX8_againstDebate_42 : decode cX8_againstDebate 42 = .ok (.bipush 6, 2) := by decide +kernel
theorem dX8_againstDebate_44 : decode cX8_againstDebate 44 = .ok (.if_icmp .eq 21, 3) := by decide +kernel
theorem dX8_againstDebate_47 : decode cX8_againstDebate 47 = .ok (.aload_n 2, 1) := by decide +kernel
theorem dX8_againstDebate_48 : decode cX8_againstDebate 48 = .ok (.getfield 128, 3) := by decide +kernel
theorem dX8_againstDebate_51 : decode cX8_againstDebate 51 = .ok (.bipush 7, 2) := by decide +kernel
theorem dX8_againstDebate_53 : decode cX8_againstDebate 53 = .ok (.if_icmp .eq 12, 3) := by decide +kernel
theorem dX8_againstDebate_56 : decode cX8_againstDebate 56 = .ok (.aload_n 2, 1) := by decide +kernel
theorem dX8_againstDebate_57 : decode cX8_againstDebate 57 = .ok (.getfield 128, 3) := by decide +kernel
theorem dX8_againstDebate_60 : decode cX8_againstDebate 60 = .ok (.bipush 8, 2) := by decide +kernel
theorem dX8_againstDebate_62 : decode cX8_againstDebate 62 = .ok (.if_icmp .ne 8, 3) := by decide +kernel
theorem dX8_againstDebate_65 : decode cX8_againstDebate 65 = .ok (.bipush 6, 2) := by decide +kernel
theorem dX8_againstDebate_67 : decode cX8_againstDebate 67 = .ok (.goto 4, 3) := by decide +kernel
theorem dX8_againstDebate_70 : decode cX8_againstDebate 70 = .ok (.iconst 0, 1) := by decide +kernel
theorem dX8_againstDebate_71 : decode cX8_againstDebate 71 = .ok (.ireturn, 1) := by decide +kernel
theorem dX8_againstOnFloor_156 : decode cX8_againstOnFloor 156 = .ok (.ireturn, 1) := by decide +kernel
theorem dX8_againstOnFloor_157 : decode cX8_againstOnFloor 157 = .ok (.aload_n 0, 1) := by decide +kernel
theorem dX8_againstOnFloor_158 : decode cX8_againstOnFloor 158 = .ok (.getfield 34, 3) := by decide +kernel
theorem dX8_againstOnFloor_161 : decode cX8_againstOnFloor 161 = .ok (.getfield 53, 3) := by decide +kernel
theorem dX8_againstOnFloor_164 : decode cX8_againstOnFloor 164 = .ok (.iconst (-1), 1) := by decide +kernel
theorem dX8_againstOnFloor_165 : decode cX8_againstOnFloor 165 = .ok (.if_icmp .ne 7, 3) := by decide +kernel
theorem dX8_againstOnFloor_168 : decode cX8_againstOnFloor 168 = .ok (.iconst 2, 1) := by decide +kernel
theorem dX8_againstOnFloor_169 : decode cX8_againstOnFloor 169 = .ok (.goto 4, 3) := by decide +kernel
theorem dX8_againstOnFloor_172 : decode cX8_againstOnFloor 172 = .ok (.iconst 0, 1) := by decide +kernel
theorem dX8_againstOnFloor_173 : decode cX8_againstOnFloor 173 = .ok (.ireturn, 1) := by decide +kernel
theorem dX8_againstOnFloor_174 : decode cX8_againstOnFloor 174 = .ok (.aload_n 0, 1) := by decide +kernel
theorem dX8_againstOnFloor_175 : decode cX8_againstOnFloor 175 = .ok (.iload_n 2, 1) := by decide +kernel
theorem dX8_againstOnFloor_176 : decode cX8_againstOnFloor 176 = .ok (.invokestatic 59, 3) := by decide +kernel
set_option maxRecDepth 100000 in
theorem zc281 : wZ (.code yX8_againstDebate cX8_againstDebate 3 (some .int)) := ⟨wT2 (List.mem_of_getElem? (i := 85) rfl), Or.inl rfl⟩
def b_Y8_againstDebate_71 (S : Cst) (x0 : Nat) (x1 : Int32) (x2 : Option Nat) (y0 : Int32) : Int32 := y0
def q_Y8_againstDebate_71 (S : Cst) (x0 : Nat) (x1 : Int32) (x2 : Option Nat) (y0 : Int32) : Prop := True
def b_Y8_againstDebate_65 (S : Cst) (x0 : Nat) (x1 : Int32) (x2 : Option Nat) : Int32 := (b_Y8_againstDebate_71 S x0 x1 x2 6)
def q_Y8_againstDebate_65 (S : Cst) (x0 : Nat) (x1 : Int32) (x2 : Option Nat) : Prop := (q_Y8_againstDebate_71 S x0 x1 x2 6)
def f_Y8_againstDebate (S : Cst) (x0 : Nat) (x1 : Int32) : Int32 := if (f_Y5_top S ((grC S x0 1).getD 0)) = none then (7 : Int32) else if (f_Y2_hasFloor S ((grC S x0 0).getD 0) x1) = 0 then (2 : Int32) else if (giC S ((f_Y5_top S ((grC S x0 1).getD 0)).getD 0) 4) = (-1) then (3 : Int32) else if (giC S ((f_Y5_top S ((grC S x0 1).getD 0)).getD 0) 2) = 6 then (b_Y8_againstDebate_65 S x0 x1 (f_Y5_top S ((grC S x0 1).getD 0))) else if (giC S ((f_Y5_top S ((grC S x0 1).getD 0)).getD 0) 2) = 7 then (b_Y8_againstDebate_65 S x0 x1 (f_Y5_top S ((grC S x0 1).getD 0))) else if (giC S ((f_Y5_top S ((grC S x0 1).getD 0)).getD 0) 2) = 8 then (b_Y8_againstDebate_65 S x0 x1 (f_Y5_top S ((grC S x0 1).getD 0))) else (b_Y8_againstDebate_71 S x0 x1 (f_Y5_top S ((grC S x0 1).getD 0)) 0)
def p_Y8_againstDebate (S : Cst) (x0 : Nat) (x1 : Int32) : Prop := (iR S (grC S x0 1) 4) ∧ (p_Y5_top S ((grC S x0 1).getD 0)) ∧ (if (f_Y5_top S ((grC S x0 1).getD 0)) = none then True else (iR S (grC S x0 0) 1) ∧ (p_Y2_hasFloor S ((grC S x0 0).getD 0) x1) ∧ (if (f_Y2_hasFloor S ((grC S x0 0).getD 0) x1) = 0 then True else (iR S (f_Y5_top S ((grC S x0 1).getD 0)) 3) ∧ (if (giC S ((f_Y5_top S ((grC S x0 1).getD 0)).getD 0) 4) = (-1) then True else (iR S (f_Y5_top S ((grC S x0 1).getD 0)) 3) ∧ (if (giC S ((f_Y5_top S ((grC S x0 1).getD 0)).getD 0) 2) = 6 then (q_Y8_againstDebate_65 S x0 x1 (f_Y5_top S ((grC S x0 1).getD 0))) else (iR S (f_Y5_top S ((grC S x0 1).getD 0)) 3) ∧ (if (giC S ((f_Y5_top S ((grC S x0 1).getD 0)).getD 0) 2) = 7 then (q_Y8_againstDebate_65 S x0 x1 (f_Y5_top S ((grC S x0 1).getD 0))) else (iR S (f_Y5_top S ((grC S x0 1).getD 0)) 3) ∧ (if (giC S ((f_Y5_top S ((grC S x0 1).getD 0)).getD 0) 2) = 8 then (q_Y8_againstDebate_65 S x0 x1 (f_Y5_top S ((grC S x0 1).getD 0))) else (q_Y8_againstDebate_71 S x0 x1 (f_Y5_top S ((grC S x0 1).getD 0)) 0)))))))
def e_Y8_againstDebate : List Cond := [.fieldLink RX8 86 "MotionFloor$Assembly" "pending" "LMotionFloor$Pile;", .methodLink RX8 90 yX5_top, .instanceMethod yX5_top, .selects RX5 yX5_top yX5_top, .initialized RX5, .fieldLink RX8 34 "MotionFloor$Assembly" "house" "LMotionFloor$House;", .methodLink RX8 135 yX2_hasFloor, .instanceMethod yX2_hasFloor, .selects RX2 yX2_hasFloor yX2_hasFloor, .initialized RX2, .fieldLink RX8 138 "MotionFloor$Motion" "seconder" "I", .fieldLink RX8 128 "MotionFloor$Motion" "kind" "I"]
def v_Y8_againstDebate : List Cond := .code yX8_againstDebate cX8_againstDebate 3 (some .int) :: (e_Y8_againstDebate ++ (wsX00 ++ (wsX40 ++ (v_Y5_top ++ (v_Y2_hasFloor ++ [])))))
theorem te_Y8_againstDebate : GoodIn lw_tbl e_Y8_againstDebate := wGc zc164 (wGc zc229 (wGc zc228 (wGc zc227 (wGc zc34 (wGc zc224 (wGc zc223 (wGc zc222 (wGc zc221 (wGc zc77 (wGc zc156 (wGc zc155 (wG0))))))))))))
theorem t_Y8_againstDebate : GoodIn lw_tbl v_Y8_againstDebate := wGc zc281 (wGa te_Y8_againstDebate (wGa zcX0 (wGa zcX4 (wGa t_Y5_top (wGa t_Y2_hasFloor (wG0))))))
set_option maxHeartbeats 4000000 in
set_option maxRecDepth 100000 in
theorem c_Y8_againstDebate (l : Launch) (G : va_G) (K : Nat → ClassId) (ad : Nat → Nat) (S : Cst) (x0 : Nat) (a1 : Int32) (sz : Nat) : Met l yX8_againstDebate v_Y8_againstDebate ({ frames := 2, cells := 0, slots := 0, locals := 41 }) (va_Pc [.ref (ad x0), .int a1] (cSt G K ad sz S (iK S x0 0 ∧ p_Y8_againstDebate S x0 a1))) (va_Qi (fun (r : Int32) (u : Cst) => (r, u) = (f_Y8_againstDebate S x0 a1, S)) (cBt G K ad (va_A (wsC K ad S) sz)) (va_A (wsC K ad S) sz)) 0 0 (va_A (wsC K ad S) sz) := by
  refine Met.ofW (cc := cX8_againstDebate) (maxL := 3) (ret := (some .int)) (by decide) rfl ?_
  intro p e s m args below meth c s₁ B hml hv
  obtain ⟨rfl, ⟨hsz, hP, hK, hD0, hTE⟩, hp⟩ := hv
  obtain ⟨k_x0, hp⟩ := hp
  have hx := B.exec
  have hb := B.bytes
  have hr := B.returns
  have hts := atoms_spec (ws := v_Y8_againstDebate) B.pre
  have t_ := t_Y8_againstDebate
  have mw : ∀ w ∈ e_Y8_againstDebate, w ∈ v_Y8_againstDebate := fun w h => List.mem_cons_of_mem _ (List.mem_append_left _ h)
  have hw := fun w (h : w ∈ e_Y8_againstDebate) => hts w (mw w h)
  have iX0 : ∀ w ∈ wsX00, w ∈ v_Y8_againstDebate := fun w h => List.mem_cons_of_mem _ (List.mem_append_right _ (List.mem_append_left _ h))
  have iX4 : ∀ w ∈ wsX40, w ∈ v_Y8_againstDebate := fun w h => List.mem_cons_of_mem _ (List.mem_append_right _ (List.mem_append_right _ (List.mem_append_left _ h)))
  have j_Y5_top : ∀ w ∈ v_Y5_top, w ∈ v_Y8_againstDebate := fun w h => List.mem_cons_of_mem _ (List.mem_append_right _ (List.mem_append_right _ (List.mem_append_right _ (List.mem_append_left _ h))))
  have j_Y2_hasFloor : ∀ w ∈ v_Y2_hasFloor, w ∈ v_Y8_againstDebate := fun w h => List.mem_cons_of_mem _ (List.mem_append_right _ (List.mem_append_right _ (List.mem_append_right _ (List.mem_append_right _ (List.mem_append_left _ h)))))
  have hown : s.vm.findClass RX8 = some m.cls := findClass_of_methodNamed B.named
  have hlocks := B.notSynchronized
  subst hsz
  have hD := hD0.self (sz := s.heap.size)
  generalize hAe : va_A (wsC K ad S) s.heap.size = A at hD ⊢
  have hA : ∀ q : Nat, s.heap.size ≤ q → A q := fun q h => by rw [← hAe]; exact Or.inr h
  have hS : va_S A s.heap s.heap [] := va_S.rf
  have hl : lv_has (lg_sl ([.ref (ad x0), .int a1]) ++ List.replicate (3 - (lg_sl ([.ref (ad x0), .int a1])).length) Slot.unset).toArray 3 [(0, .ref (ad x0)), (1, .int a1)] := by
    exact lv_entry ([.ref (ad x0), .int a1]) (n := 3) (Nat.le_of_ble_eq_true rfl)
  rw [lg_entry_eq]
  generalize (lg_sl ([.ref (ad x0), .int a1]) ++ List.replicate (3 - (lg_sl ([.ref (ad x0), .int a1])).length) Slot.unset).toArray = ls_ at hl ⊢
  refine wGen (fun Q hQ => ?_)
  obtain ⟨X, hX⟩ : ∃ X, f_Y8_againstDebate S x0 a1 = X := ⟨_, rfl⟩
  have B_Y8_againstDebate_71 : ∀ (x1 : Int32) (x2 : Option Nat) (y0 : Int32) (H : Heap) (locs : List Loc) (ls_ : Array Slot), b_Y8_againstDebate_71 S x0 x1 x2 y0 = X → q_Y8_againstDebate_71 S x0 x1 x2 y0 → va_P G vwCl (wsC K ad S) H → va_D A (wsC K ad S) → va_S A s.heap H locs → lv_has ls_ 3 [(0, .ref (ad x0)), (1, .int x1), (2, va_re ad x2)] → W p l e ({ frames := 2, cells := 0, slots := 0, locals := 41 } : Room) s m #[Value.ref (ad x0), Value.int a1] below meth c H locs 0 0 Q (F0 m 71 ls_ [.int y0]) := by
    intro x1 x2 y0 H locs ls_ hE hp hP hD hS hl
    unfold b_Y8_againstDebate_71 at hE
    unfold q_Y8_againstDebate_71 at hp
    subst hQ
    exact W.iret (v := y0) hx hb hr (fun t ht hW => ⟨⟨y0, S, rfl, (pair_i (hE.trans hX.symm)), by rw [ht]; exact hP, hD⟩, hS.F ht⟩) hS.2.2 dX8_againstDebate_71
  have B_Y8_againstDebate_65 : ∀ (x1 : Int32) (x2 : Option Nat) (H : Heap) (locs : List Loc) (ls_ : Array Slot), b_Y8_againstDebate_65 S x0 x1 x2 = X → q_Y8_againstDebate_65 S x0 x1 x2 → va_P G vwCl (wsC K ad S) H → va_D A (wsC K ad S) → va_S A s.heap H locs → lv_has ls_ 3 [(0, .ref (ad x0)), (1, .int x1), (2, va_re ad x2)] → W p l e ({ frames := 2, cells := 0, slots := 0, locals := 41 } : Room) s m #[Value.ref (ad x0), Value.int a1] below meth c H locs 0 0 Q (F0 m 65 ls_ []) := by
    intro x1 x2 H locs ls_ hE hp hP hD hS hl
    unfold b_Y8_againstDebate_65 at hE
    unfold q_Y8_againstDebate_65 at hp
    refine lv_bipush (v := 6) hx hb dX8_againstDebate_65 (by decide) ?_
    refine lv_goto (tgt := 71) hx hb dX8_againstDebate_67 (by decide) ?_
    exact B_Y8_againstDebate_71 x1 x2 6 _ _ _ hE hp hP hD hS (lv_sub hl [0, 1, 2] rfl)
  have B_M : ∀ (x1 : Int32) (H : Heap) (locs : List Loc) (ls_ : Array Slot), f_Y8_againstDebate S x0 x1 = X → p_Y8_againstDebate S x0 x1 → va_P G vwCl (wsC K ad S) H → va_D A (wsC K ad S) → va_S A s.heap H locs → lv_has ls_ 3 [(0, .ref (ad x0)), (1, .int x1)] → W p l e ({ frames := 2, cells := 0, slots := 0, locals := 41 } : Room) s m #[Value.ref (ad x0), Value.int a1] below meth c H locs 0 0 Q (F0 m 0 ls_ []) := by
    intro x1 H locs ls_ hE hp hP hD hS hl
    unfold f_Y8_againstDebate at hE
    unfold p_Y8_againstDebate at hp
    refine lv_aload_n hx hb dX8_againstDebate_0 rfl (lv_at hl 0 rfl) ?_
    refine va_get (D := G) (ci := 0) (v := va_re ad (grC S x0 1)) (C := RX0) (T := TX0) (N := 11) hx hb hts iX0 hown hK hP x0 (at_0 k_x0) rfl 1 (by decide) (hw (.fieldLink RX8 86 "MotionFloor$Assembly" "pending" "LMotionFloor$Pile;") (List.mem_of_getElem? (i := 0) rfl)) (fun _ h9 => h9) rfl dX8_againstDebate_1 ?_
    obtain ⟨hy1, hp⟩ := hp
    refine cTop (r := (grC S x0 1)) hy1.1 ?_
    obtain ⟨hy2, hp⟩ := hp
    refine cGoq (va_runV (As := []) (rest := []) ⟨hx, hb, hml, hown, hts⟩ (c_Y5_top l G K ad S ((grC S x0 1).getD 0) _) (cwV 0 hts (wGV t_ (mw (.methodLink RX8 90 yX5_top) (List.mem_of_getElem? (i := 1) rfl)) (mw (.instanceMethod yX5_top) (List.mem_of_getElem? (i := 2) rfl)) (mw (.selects RX5 yX5_top yX5_top) (List.mem_of_getElem? (i := 3) rfl)) (mw (.initialized RX5) (List.mem_of_getElem? (i := 4) rfl)) j_Y5_top) rfl rfl rfl (by decide +kernel) ⟨Nat.le_of_ble_eq_true rfl, Nat.le_of_ble_eq_true rfl⟩) (cPV hK hTE hP hD 4 rfl (at_4 hy1.2) ⟨hy1.2, hy2⟩) rfl rfl hl.1 rfl (lv_room (Nat.le_of_ble_eq_true rfl)) dX8_againstDebate_4 ⟨Nat.le_of_ble_eq_true rfl, Nat.le_of_ble_eq_true rfl⟩) hP hD hS hA (fun r4 u3 H locs hv hP hD hS => ?_)
    have h1 := congrArg Prod.fst hv
    have h2 := (congrArg Prod.snd hv).symm
    dsimp only at h1 h2
    subst h1
    subst h2
    refine cAstore_n (ad := ad) (r := (f_Y5_top S ((grC S x0 1).getD 0))) (i := 2) (lv' := [(2, va_re ad (f_Y5_top S ((grC S x0 1).getD 0))), (0, .ref (ad x0)), (1, .int x1)]) hx hb dX8_againstDebate_7 rfl hl (by decide) rfl (fun ls_ hl => ?_)
    refine cAload_n (ad := ad) (r := (f_Y5_top S ((grC S x0 1).getD 0))) hx hb dX8_againstDebate_8 rfl (lv_at hl 0 rfl) ?_
    refine cIfnonnull (ad := ad) (r := (f_Y5_top S ((grC S x0 1).getD 0))) (tgt := 15) hx hb dX8_againstDebate_9 (by decide) (fun c5 => ?_) (fun c5 => ?_)
    · rw [if_pos c5] at hE hp
      refine lv_bipush (v := 7) hx hb dX8_againstDebate_12 (by decide) ?_
      subst hQ
      exact W.iret (v := (7 : Int32)) hx hb hr (fun t ht hW => ⟨⟨(7 : Int32), S, rfl, (pair_i (hE.trans hX.symm)), by rw [ht]; exact hP, hD⟩, hS.F ht⟩) hS.2.2 dX8_againstDebate_14
    · rw [if_neg c5] at hE hp
      refine lv_aload_n hx hb dX8_againstDebate_15 rfl (lv_at hl 1 rfl) ?_
      refine va_get (D := G) (ci := 0) (v := va_re ad (grC S x0 0)) (C := RX0) (T := TX0) (N := 11) hx hb hts iX0 hown hK hP x0 (at_0 k_x0) rfl 0 (by decide) (hw (.fieldLink RX8 34 "MotionFloor$Assembly" "house" "LMotionFloor$House;") (List.mem_of_getElem? (i := 5) rfl)) (fun _ h9 => h9) rfl dX8_againstDebate_16 ?_
      refine lv_iload_n hx hb dX8_againstDebate_19 rfl (lv_at hl 2 rfl) ?_
      obtain ⟨hy6, hp⟩ := hp
      refine cTop2 (r := (grC S x0 0)) hy6.1 ?_
      obtain ⟨hy7, hp⟩ := hp
      refine cGoi (va_runV (As := [.int x1]) (rest := []) ⟨hx, hb, hml, hown, hts⟩ (c_Y2_hasFloor l G K ad S ((grC S x0 0).getD 0) x1 _) (cwV 1 hts (wGV t_ (mw (.methodLink RX8 135 yX2_hasFloor) (List.mem_of_getElem? (i := 6) rfl)) (mw (.instanceMethod yX2_hasFloor) (List.mem_of_getElem? (i := 7) rfl)) (mw (.selects RX2 yX2_hasFloor yX2_hasFloor) (List.mem_of_getElem? (i := 8) rfl)) (mw (.initialized RX2) (List.mem_of_getElem? (i := 9) rfl)) j_Y2_hasFloor) rfl rfl rfl (by decide +kernel) ⟨Nat.le_of_ble_eq_true rfl, Nat.le_of_ble_eq_true rfl⟩) (cPV hK hTE hP hD 1 rfl (at_1 hy6.2) ⟨hy6.2, hy7⟩) rfl rfl hl.1 rfl (lv_room (Nat.le_of_ble_eq_true rfl)) dX8_againstDebate_20 ⟨Nat.le_of_ble_eq_true rfl, Nat.le_of_ble_eq_true rfl⟩) hP hD hS hA (fun r9 u8 H locs hv hP hD hS => ?_)
      have h1 := congrArg Prod.fst hv
      have h2 := (congrArg Prod.snd hv).symm
      dsimp only at h1 h2
      subst h1
      subst h2
      refine lv_if_ne (tgt := 28) hx hb dX8_againstDebate_23 (by decide) (fun c10 => ?_) (fun c10 => ?_)
      · rw [if_neg c10] at hE hp
        refine cAload_n (ad := ad) (r := (f_Y5_top S ((grC S x0 1).getD 0))) hx hb dX8_againstDebate_28 rfl (lv_at hl 0 rfl) ?_
        obtain ⟨hy11, hp⟩ := hp
        refine cTop (r := (f_Y5_top S ((grC S x0 1).getD 0))) hy11.1 ?_
        refine va_get (D := G) (ci := 3) (v := .int (giC S ((f_Y5_top S ((grC S x0 1).getD 0)).getD 0) 4)) (C := RX4) (T := TX4) (N := 16) hx hb hts iX4 hown hK hP ((f_Y5_top S ((grC S x0 1).getD 0)).getD 0) (at_3 hy11.2) rfl 4 (by decide) (hw (.fieldLink RX8 138 "MotionFloor$Motion" "seconder" "I") (List.mem_of_getElem? (i := 10) rfl)) (fun _ h9 => h9) rfl dX8_againstDebate_29 ?_
        refine lv_iconst (v := (-1)) hx hb dX8_againstDebate_32 (by decide) ?_
        refine lv_icmp_ne (tgt := 38) hx hb dX8_againstDebate_33 (by decide) (fun c12 => ?_) (fun c12 => ?_)
        · rw [if_neg c12] at hE hp
          refine cAload_n (ad := ad) (r := (f_Y5_top S ((grC S x0 1).getD 0))) hx hb dX8_againstDebate_38 rfl (lv_at hl 0 rfl) ?_
          obtain ⟨hy13, hp⟩ := hp
          refine cTop (r := (f_Y5_top S ((grC S x0 1).getD 0))) hy13.1 ?_
          refine va_get (D := G) (ci := 3) (v := .int (giC S ((f_Y5_top S ((grC S x0 1).getD 0)).getD 0) 2)) (C := RX4) (T := TX4) (N := 16) hx hb hts iX4 hown hK hP ((f_Y5_top S ((grC S x0 1).getD 0)).getD 0) (at_3 hy13.2) rfl 2 (by decide) (hw (.fieldLink RX8 128 "MotionFloor$Motion" "kind" "I") (List.mem_of_getElem? (i := 11) rfl)) (fun _ h9 => h9) rfl dX8_againstDebate_39 ?_
          refine lv_bipush (v := 6) hx hb dX8_againstDebate_42 (by decide) ?_
          refine lv_icmp_eq (tgt := 65) hx hb dX8_againstDebate_44 (by decide) (fun c14 => ?_) (fun c14 => ?_)
          · rw [if_pos c14] at hE hp
            exact B_Y8_againstDebate_65 x1 (f_Y5_top S ((grC S x0 1).getD 0)) _ _ _ hE hp hP hD hS (lv_sub hl [1, 2, 0] rfl)
          · rw [if_neg c14] at hE hp
            refine cAload_n (ad := ad) (r := (f_Y5_top S ((grC S x0 1).getD 0))) hx hb dX8_againstDebate_47 rfl (lv_at hl 0 rfl) ?_
            obtain ⟨hy15, hp⟩ := hp
            refine cTop (r := (f_Y5_top S ((grC S x0 1).getD 0))) hy15.1 ?_
            refine va_get (D := G) (ci := 3) (v := .int (giC S ((f_Y5_top S ((grC S x0 1).getD 0)).getD 0) 2)) (C := RX4) (T := TX4) (N := 16) hx hb hts iX4 hown hK hP ((f_Y5_top S ((grC S x0 1).getD 0)).getD 0) (at_3 hy15.2) rfl 2 (by decide) (hw (.fieldLink RX8 128 "MotionFloor$Motion" "kind" "I") (List.mem_of_getElem? (i := 11) rfl)) (fun _ h9 => h9) rfl dX8_againstDebate_48 ?_
            refine lv_bipush (v := 7) hx hb dX8_againstDebate_51 (by decide) ?_
            refine lv_icmp_eq (tgt := 65) hx hb dX8_againstDebate_53 (by decide) (fun c16 => ?_) (fun c16 => ?_)
            · rw [if_pos c16] at hE hp
              exact B_Y8_againstDebate_65 x1 (f_Y5_top S ((grC S x0 1).getD 0)) _ _ _ hE hp hP hD hS (lv_sub hl [1, 2, 0] rfl)
            · rw [if_neg c16] at hE hp
              refine cAload_n (ad := ad) (r := (f_Y5_top S ((grC S x0 1).getD 0))) hx hb dX8_againstDebate_56 rfl (lv_at hl 0 rfl) ?_
              obtain ⟨hy17, hp⟩ := hp
              refine cTop (r := (f_Y5_top S ((grC S x0 1).getD 0))) hy17.1 ?_
              refine va_get (D := G) (ci := 3) (v := .int (giC S ((f_Y5_top S ((grC S x0 1).getD 0)).getD 0) 2)) (C := RX4) (T := TX4) (N := 16) hx hb hts iX4 hown hK hP ((f_Y5_top S ((grC S x0 1).getD 0)).getD 0) (at_3 hy17.2) rfl 2 (by decide) (hw (.fieldLink RX8 128 "MotionFloor$Motion" "kind" "I") (List.mem_of_getElem? (i := 11) rfl)) (fun _ h9 => h9) rfl dX8_againstDebate_57 ?_
              refine lv_bipush (v := 8) hx hb dX8_againstDebate_60 (by decide) ?_
              refine lv_icmp_ne (tgt := 70) hx hb dX8_againstDebate_62 (by decide) (fun c18 => ?_) (fun c18 => ?_)
              · rw [if_neg c18] at hE hp
                refine lv_iconst (v := 0) hx hb dX8_againstDebate_70 (by decide) ?_
                exact B_Y8_againstDebate_71 x1 (f_Y5_top S ((grC S x0 1).getD 0)) 0 _ _ _ hE hp hP hD hS (lv_sub hl [1, 2, 0] rfl)
              · rw [if_pos c18] at hE hp
                exact B_Y8_againstDebate_65 x1 (f_Y5_top S ((grC S x0 1).getD 0)) _ _ _ hE hp hP hD hS (lv_sub hl [1, 2, 0] rfl)
        · rw [if_pos c12] at hE hp
          refine lv_iconst (v := 3) hx hb dX8_againstDebate_36 (by decide) ?_
          subst hQ
          exact W.iret (v := (3 : Int32)) hx hb hr (fun t ht hW => ⟨⟨(3 : Int32), S, rfl, (pair_i (hE.trans hX.symm)), by rw [ht]; exact hP, hD⟩, hS.F ht⟩) hS.2.2 dX8_againstDebate_37
      · rw [if_pos c10] at hE hp
        refine lv_iconst (v := 2) hx hb dX8_againstDebate_26 (by decide) ?_
        subst hQ
        exact W.iret (v := (2 : Int32)) hx hb hr (fun t ht hW => ⟨⟨(2 : Int32), S, rfl, (pair_i (hE.trans hX.symm)), by rw [ht]; exact hP, hD⟩, hS.F ht⟩) hS.2.2 dX8_againstDebate_27
  exact B_M a1 _ _ _ hX hp hP hD hS hl
theorem dX8_againstOnFloor_179 : decode cX8_againstOnFloor 179 = .ok (.ireturn, 1) := by decide +kernel
theorem dX8_againstOnFloor_180 : decode cX8_againstOnFloor 180 = .ok (.bipush 11, 2) := by decide +kernel
theorem dX8_againstOnFloor_182 : decode cX8_againstOnFloor 182 = .ok (.ireturn, 1) := by decide +kernel
set_option maxRecDepth 100000 in
theorem zc282 : wZ (.static yX8_againstDebate) := ⟨wT2 (List.mem_of_getElem? (i := 84) (by decide +kernel)), Or.inl rfl⟩
set_option maxRecDepth 100000 in
theorem zc283 : wZ (.methodLink RX8 59 yX8_againstDebate) := ⟨wT2 (List.mem_of_getElem? (i := 83) (by decide +kernel)), Or.inl rfl⟩
set_option maxRecDepth 100000 in
theorem zc284 : wZ (.static yX8_againstFloor) := ⟨wT2 (List.mem_of_getElem? (i := 73) (by decide +kernel)), Or.inl rfl⟩
set_option maxRecDepth 100000 in
theorem zc285 : wZ (.methodLink RX8 49 yX8_againstFloor) := ⟨wT2 (List.mem_of_getElem? (i := 72) (by decide +kernel)), Or.inl rfl⟩
set_option maxRecDepth 100000 in
theorem zc286 : wZ (.static yX8_againstSetting) := ⟨wT2 (List.mem_of_getElem? (i := 70) (by decide +kernel)), Or.inl rfl⟩
set_option maxRecDepth 100000 in
theorem zc287 : wZ (.methodLink RX8 45 yX8_againstSetting) := ⟨wT2 (List.mem_of_getElem? (i := 69) (by decide +kernel)), Or.inl rfl⟩
set_option maxRecDepth 100000 in
theorem zc288 : wZ (.static yX8_againstThere) := ⟨wT2 (List.mem_of_getElem? (i := 56) (by decide +kernel)), Or.inl rfl⟩
set_option maxRecDepth 100000 in
theorem zc289 : wZ (.methodLink RX8 38 yX8_againstThere) := ⟨wT2 (List.mem_of_getElem? (i := 55) (by decide +kernel)), Or.inl rfl⟩
set_option maxRecDepth 100000 in
theorem zc290 : wZ (.code yX8_againstOnFloor cX8_againstOnFloor 4 (some .int)) := ⟨wT2 (List.mem_of_getElem? (i := 54) rfl), Or.inl rfl⟩
def b_Y8_againstOnFloor_87 (S : Cst) (x0 : Nat) (x1 : Int32) (x2 : Int32) (x3 : Int32) (y0 : Int32) : Int32 := (f_Y8_againstSetting S x0 y0)
def q_Y8_againstOnFloor_87 (S : Cst) (x0 : Nat) (x1 : Int32) (x2 : Int32) (x3 : Int32) (y0 : Int32) : Prop := (p_Y8_againstSetting S x0 y0) ∧ True
def b_Y8_againstOnFloor_86 (S : Cst) (x0 : Nat) (x1 : Int32) (x2 : Int32) (x3 : Int32) : Int32 := (b_Y8_againstOnFloor_87 S x0 x1 x2 x3 0)
def q_Y8_againstOnFloor_86 (S : Cst) (x0 : Nat) (x1 : Int32) (x2 : Int32) (x3 : Int32) : Prop := (q_Y8_againstOnFloor_87 S x0 x1 x2 x3 0)
def b_Y8_againstOnFloor_127 (S : Cst) (x0 : Nat) (x1 : Int32) (x2 : Int32) (x3 : Int32) (y0 : Int32) : Int32 := (f_Y8_againstSetting S x0 y0)
def q_Y8_againstOnFloor_127 (S : Cst) (x0 : Nat) (x1 : Int32) (x2 : Int32) (x3 : Int32) (y0 : Int32) : Prop := (p_Y8_againstSetting S x0 y0) ∧ True
def b_Y8_againstOnFloor_126 (S : Cst) (x0 : Nat) (x1 : Int32) (x2 : Int32) (x3 : Int32) : Int32 := (b_Y8_againstOnFloor_127 S x0 x1 x2 x3 0)
def q_Y8_againstOnFloor_126 (S : Cst) (x0 : Nat) (x1 : Int32) (x2 : Int32) (x3 : Int32) : Prop := (q_Y8_againstOnFloor_127 S x0 x1 x2 x3 0)
def b_Y8_againstOnFloor_147 (S : Cst) (x0 : Nat) (x1 : Int32) (x2 : Int32) (x3 : Int32) (y0 : Int32) : Int32 := (f_Y8_againstSetting S x0 y0)
def q_Y8_againstOnFloor_147 (S : Cst) (x0 : Nat) (x1 : Int32) (x2 : Int32) (x3 : Int32) (y0 : Int32) : Prop := (p_Y8_againstSetting S x0 y0) ∧ True
def b_Y8_againstOnFloor_146 (S : Cst) (x0 : Nat) (x1 : Int32) (x2 : Int32) (x3 : Int32) : Int32 := (b_Y8_againstOnFloor_147 S x0 x1 x2 x3 0)
def q_Y8_againstOnFloor_146 (S : Cst) (x0 : Nat) (x1 : Int32) (x2 : Int32) (x3 : Int32) : Prop := (q_Y8_againstOnFloor_147 S x0 x1 x2 x3 0)
def b_Y8_againstOnFloor_173 (S : Cst) (x0 : Nat) (x1 : Int32) (x2 : Int32) (x3 : Int32) (y0 : Int32) : Int32 := y0
def q_Y8_againstOnFloor_173 (S : Cst) (x0 : Nat) (x1 : Int32) (x2 : Int32) (x3 : Int32) (y0 : Int32) : Prop := True
def f_Y8_againstOnFloor (S : Cst) (x0 : Nat) (x1 : Int32) (x2 : Int32) (x3 : Int32) : Int32 := if x1 = 1 then (f_Y8_againstThere S ((grC S x0 0).getD 0) x2) else if x1 = 2 then (f_Y8_againstAbsent S ((grC S x0 0).getD 0) x2) else if x1 = 3 then if x2 < 0 then (b_Y8_againstOnFloor_86 S x0 x1 x2 x3) else if 200 < x2 then (b_Y8_againstOnFloor_86 S x0 x1 x2 x3) else (b_Y8_againstOnFloor_87 S x0 x1 x2 x3 1) else if x1 = 4 then (f_Y8_againstAbsent S ((grC S x0 0).getD 0) x2) else if x1 = 5 then if x2 < 1 then (b_Y8_againstOnFloor_126 S x0 x1 x2 x3) else if 8 < x2 then (b_Y8_againstOnFloor_126 S x0 x1 x2 x3) else if x3 < 1 then (b_Y8_againstOnFloor_126 S x0 x1 x2 x3) else if 3 < x3 then (b_Y8_againstOnFloor_126 S x0 x1 x2 x3) else (b_Y8_againstOnFloor_127 S x0 x1 x2 x3 1) else if x1 = 6 then if x2 < 0 then (b_Y8_againstOnFloor_146 S x0 x1 x2 x3) else if 99 < x2 then (b_Y8_againstOnFloor_146 S x0 x1 x2 x3) else (b_Y8_againstOnFloor_147 S x0 x1 x2 x3 1) else if x1 = 7 then (f_Y8_againstFloor S x0 x2) else if x1 = 8 then if (giC S ((grC S x0 0).getD 0) 6) = (-1) then (b_Y8_againstOnFloor_173 S x0 x1 x2 x3 2) else (b_Y8_againstOnFloor_173 S x0 x1 x2 x3 0) else if x1 = 9 then (f_Y8_againstDebate S x0 x2) else (11 : Int32)
def p_Y8_againstOnFloor (S : Cst) (x0 : Nat) (x1 : Int32) (x2 : Int32) (x3 : Int32) : Prop := (if x1 = 1 then (iR S (grC S x0 0) 1) ∧ (p_Y8_againstThere S ((grC S x0 0).getD 0) x2) ∧ True else (if x1 = 2 then (iR S (grC S x0 0) 1) ∧ (p_Y8_againstAbsent S ((grC S x0 0).getD 0) x2) ∧ True else (if x1 = 3 then (if x2 < 0 then (q_Y8_againstOnFloor_86 S x0 x1 x2 x3) else (if 200 < x2 then (q_Y8_againstOnFloor_86 S x0 x1 x2 x3) else (q_Y8_againstOnFloor_87 S x0 x1 x2 x3 1))) else (if x1 = 4 then (iR S (grC S x0 0) 1) ∧ (p_Y8_againstAbsent S ((grC S x0 0).getD 0) x2) ∧ True else (if x1 = 5 then (if x2 < 1 then (q_Y8_againstOnFloor_126 S x0 x1 x2 x3) else (if 8 < x2 then (q_Y8_againstOnFloor_126 S x0 x1 x2 x3) else (if x3 < 1 then (q_Y8_againstOnFloor_126 S x0 x1 x2 x3) else (if 3 < x3 then (q_Y8_againstOnFloor_126 S x0 x1 x2 x3) else (q_Y8_againstOnFloor_127 S x0 x1 x2 x3 1))))) else (if x1 = 6 then (if x2 < 0 then (q_Y8_againstOnFloor_146 S x0 x1 x2 x3) else (if 99 < x2 then (q_Y8_againstOnFloor_146 S x0 x1 x2 x3) else (q_Y8_againstOnFloor_147 S x0 x1 x2 x3 1))) else (if x1 = 7 then (p_Y8_againstFloor S x0 x2) ∧ True else (if x1 = 8 then (iR S (grC S x0 0) 1) ∧ (if (giC S ((grC S x0 0).getD 0) 6) = (-1) then (q_Y8_againstOnFloor_173 S x0 x1 x2 x3 2) else (q_Y8_againstOnFloor_173 S x0 x1 x2 x3 0)) else (if x1 = 9 then (p_Y8_againstDebate S x0 x2) ∧ True else True)))))))))
def e_Y8_againstOnFloor : List Cond := [.fieldLink RX8 34 "MotionFloor$Assembly" "house" "LMotionFloor$House;", .methodLink RX8 38 yX8_againstThere, .static yX8_againstThere, .initialized RX8, .methodLink RX8 42 yX8_againstAbsent, .static yX8_againstAbsent, .methodLink RX8 45 yX8_againstSetting, .static yX8_againstSetting, .methodLink RX8 49 yX8_againstFloor, .static yX8_againstFloor, .fieldLink RX8 53 "MotionFloor$House" "speaker" "I", .methodLink RX8 59 yX8_againstDebate, .static yX8_againstDebate]
def v_Y8_againstOnFloor : List Cond := .code yX8_againstOnFloor cX8_againstOnFloor 4 (some .int) :: (e_Y8_againstOnFloor ++ (wsX00 ++ (wsX20 ++ (v_Y8_againstThere ++ (v_Y8_againstAbsent ++ (v_Y8_againstSetting ++ (v_Y8_againstFloor ++ (v_Y8_againstDebate ++ []))))))))
theorem te_Y8_againstOnFloor : GoodIn lw_tbl e_Y8_againstOnFloor := wGc zc224 (wGc zc289 (wGc zc288 (wGc zc157 (wGc zc159 (wGc zc158 (wGc zc287 (wGc zc286 (wGc zc285 (wGc zc284 (wGc zc279 (wGc zc283 (wGc zc282 (wG0)))))))))))))
theorem t_Y8_againstOnFloor : GoodIn lw_tbl v_Y8_againstOnFloor := wGc zc290 (wGa te_Y8_againstOnFloor (wGa zcX0 (wGa zcX2 (wGa t_Y8_againstThere (wGa t_Y8_againstAbsent (wGa t_Y8_againstSetting (wGa t_Y8_againstFloor (wGa t_Y8_againstDebate (wG0)))))))))
set_option maxHeartbeats 4000000 in
set_option maxRecDepth 100000 in
theorem c_Y8_againstOnFloor (l : Launch) (G : va_G) (K : Nat → ClassId) (ad : Nat → Nat) (S : Cst) (x0 : Nat) (a1 : Int32) (a2 : Int32) (a3 : Int32) (sz : Nat) : Met l yX8_againstOnFloor v_Y8_againstOnFloor ({ frames := 3, cells := 0, slots := 0, locals := 66 }) (va_Pc [.ref (ad x0), .int a1, .int a2, .int a3] (cSt G K ad sz S (iK S x0 0 ∧ p_Y8_againstOnFloor S x0 a1 a2 a3))) (va_Qi (fun (r : Int32) (u : Cst) => (r, u) = (f_Y8_againstOnFloor S x0 a1 a2 a3, S)) (cBt G K ad (va_A (wsC K ad S) sz)) (va_A (wsC K ad S) sz)) 0 0 (va_A (wsC K ad S) sz) := by
  refine Met.ofW (cc := cX8_againstOnFloor) (maxL := 4) (ret := (some .int)) (by decide) rfl ?_
  intro p e s m args below meth c s₁ B hml hv
  obtain ⟨rfl, ⟨hsz, hP, hK, hD0, hTE⟩, hp⟩ := hv
  obtain ⟨k_x0, hp⟩ := hp
  have hx := B.exec
  have hb := B.bytes
  have hr := B.returns
  have hts := atoms_spec (ws := v_Y8_againstOnFloor) B.pre
  have t_ := t_Y8_againstOnFloor
  have mw : ∀ w ∈ e_Y8_againstOnFloor, w ∈ v_Y8_againstOnFloor := fun w h => List.mem_cons_of_mem _ (List.mem_append_left _ h)
  have hw := fun w (h : w ∈ e_Y8_againstOnFloor) => hts w (mw w h)
  have iX0 : ∀ w ∈ wsX00, w ∈ v_Y8_againstOnFloor := fun w h => List.mem_cons_of_mem _ (List.mem_append_right _ (List.mem_append_left _ h))
  have iX2 : ∀ w ∈ wsX20, w ∈ v_Y8_againstOnFloor := fun w h => List.mem_cons_of_mem _ (List.mem_append_right _ (List.mem_append_right _ (List.mem_append_left _ h)))
  have j_Y8_againstThere : ∀ w ∈ v_Y8_againstThere, w ∈ v_Y8_againstOnFloor := fun w h => List.mem_cons_of_mem _ (List.mem_append_right _ (List.mem_append_right _ (List.mem_append_right _ (List.mem_append_left _ h))))
  have j_Y8_againstAbsent : ∀ w ∈ v_Y8_againstAbsent, w ∈ v_Y8_againstOnFloor := fun w h => List.mem_cons_of_mem _ (List.mem_append_right _ (List.mem_append_right _ (List.mem_append_right _ (List.mem_append_right _ (List.mem_append_left _ h)))))
  have j_Y8_againstSetting : ∀ w ∈ v_Y8_againstSetting, w ∈ v_Y8_againstOnFloor := fun w h => List.mem_cons_of_mem _ (List.mem_append_right _ (List.mem_append_right _ (List.mem_append_right _ (List.mem_append_right _ (List.mem_append_right _ (List.mem_append_left _ h))))))
  have j_Y8_againstFloor : ∀ w ∈ v_Y8_againstFloor, w ∈ v_Y8_againstOnFloor := fun w h => List.mem_cons_of_mem _ (List.mem_append_right _ (List.mem_append_right _ (List.mem_append_right _ (List.mem_append_right _ (List.mem_append_right _ (List.mem_append_right _ (List.mem_append_left _ h)))))))
  have j_Y8_againstDebate : ∀ w ∈ v_Y8_againstDebate, w ∈ v_Y8_againstOnFloor := fun w h => List.mem_cons_of_mem _ (List.mem_append_right _ (List.mem_append_right _ (List.mem_append_right _ (List.mem_append_right _ (List.mem_append_right _ (List.mem_append_right _ (List.mem_append_right _ (List.mem_append_left _ h))))))))
  have hown : s.vm.findClass RX8 = some m.cls := findClass_of_methodNamed B.named
  have hlocks := B.notSynchronized
  subst hsz
  have hD := hD0.self (sz := s.heap.size)
  generalize hAe : va_A (wsC K ad S) s.heap.size = A at hD ⊢
  have hA : ∀ q : Nat, s.heap.size ≤ q → A q := fun q h => by rw [← hAe]; exact Or.inr h
  have hS : va_S A s.heap s.heap [] := va_S.rf
  have hl : lv_has (lg_sl ([.ref (ad x0), .int a1, .int a2, .int a3]) ++ List.replicate (4 - (lg_sl ([.ref (ad x0), .int a1, .int a2, .int a3])).length) Slot.unset).toArray 4 [(0, .ref (ad x0)), (1, .int a1), (2, .int a2), (3, .int a3)] := by
    exact lv_entry ([.ref (ad x0), .int a1, .int a2, .int a3]) (n := 4) (Nat.le_of_ble_eq_true rfl)
  rw [lg_entry_eq]
  generalize (lg_sl ([.ref (ad x0), .int a1, .int a2, .int a3]) ++ List.replicate (4 - (lg_sl ([.ref (ad x0), .int a1, .int a2, .int a3])).length) Slot.unset).toArray = ls_ at hl ⊢
  refine wGen (fun Q hQ => ?_)
  obtain ⟨X, hX⟩ : ∃ X, f_Y8_againstOnFloor S x0 a1 a2 a3 = X := ⟨_, rfl⟩
  have B_Y8_againstOnFloor_87 : ∀ (x1 : Int32) (x2 : Int32) (x3 : Int32) (y0 : Int32) (H : Heap) (locs : List Loc) (ls_ : Array Slot), b_Y8_againstOnFloor_87 S x0 x1 x2 x3 y0 = X → q_Y8_againstOnFloor_87 S x0 x1 x2 x3 y0 → va_P G vwCl (wsC K ad S) H → va_D A (wsC K ad S) → va_S A s.heap H locs → lv_has ls_ 4 [(0, .ref (ad x0)), (1, .int x1), (2, .int x2), (3, .int x3)] → W p l e ({ frames := 3, cells := 0, slots := 0, locals := 66 } : Room) s m #[Value.ref (ad x0), Value.int a1, Value.int a2, Value.int a3] below meth c H locs 0 0 Q (F0 m 87 ls_ [.int y0, .ref (ad x0)]) := by
    intro x1 x2 x3 y0 H locs ls_ hE hp hP hD hS hl
    unfold b_Y8_againstOnFloor_87 at hE
    unfold q_Y8_againstOnFloor_87 at hp
    obtain ⟨hy10, hp⟩ := hp
    refine cGoi (va_runS (As := [.ref (ad x0), .int y0]) (rest := []) ⟨hx, hb, hml, hown, hts⟩ (c_Y8_againstSetting l G K ad S x0 y0 _) (va_cwS 2 hts (wGS t_ (mw (.methodLink RX8 45 yX8_againstSetting) (List.mem_of_getElem? (i := 6) rfl)) (mw (.static yX8_againstSetting) (List.mem_of_getElem? (i := 7) rfl)) (mw (.initialized RX8) (List.mem_of_getElem? (i := 3) rfl)) j_Y8_againstSetting) rfl rfl rfl (by decide +kernel) ⟨Nat.le_of_ble_eq_true rfl, Nat.le_of_ble_eq_true rfl⟩) (cPS hK hTE hP hD ⟨k_x0, hy10⟩) rfl rfl hl.1 rfl (lv_room (Nat.le_of_ble_eq_true rfl)) dX8_againstOnFloor_87 ⟨Nat.le_of_ble_eq_true rfl, Nat.le_of_ble_eq_true rfl⟩) hP hD hS hA (fun r12 u11 H locs hv hP hD hS => ?_)
    have h1 := congrArg Prod.fst hv
    have h2 := (congrArg Prod.snd hv).symm
    dsimp only at h1 h2
    subst h1
    subst h2
    subst hQ
    exact W.iret (v := (f_Y8_againstSetting S x0 y0)) hx hb hr (fun t ht hW => ⟨⟨(f_Y8_againstSetting S x0 y0), S, rfl, (pair_i (hE.trans hX.symm)), by rw [ht]; exact hP, hD⟩, hS.F ht⟩) hS.2.2 dX8_againstOnFloor_90
  have B_Y8_againstOnFloor_86 : ∀ (x1 : Int32) (x2 : Int32) (x3 : Int32) (H : Heap) (locs : List Loc) (ls_ : Array Slot), b_Y8_againstOnFloor_86 S x0 x1 x2 x3 = X → q_Y8_againstOnFloor_86 S x0 x1 x2 x3 → va_P G vwCl (wsC K ad S) H → va_D A (wsC K ad S) → va_S A s.heap H locs → lv_has ls_ 4 [(0, .ref (ad x0)), (1, .int x1), (2, .int x2), (3, .int x3)] → W p l e ({ frames := 3, cells := 0, slots := 0, locals := 66 } : Room) s m #[Value.ref (ad x0), Value.int a1, Value.int a2, Value.int a3] below meth c H locs 0 0 Q (F0 m 86 ls_ [.ref (ad x0)]) := by
    intro x1 x2 x3 H locs ls_ hE hp hP hD hS hl
    unfold b_Y8_againstOnFloor_86 at hE
    unfold q_Y8_againstOnFloor_86 at hp
    refine lv_iconst (v := 0) hx hb dX8_againstOnFloor_86 (by decide) ?_
    exact B_Y8_againstOnFloor_87 x1 x2 x3 0 _ _ _ hE hp hP hD hS (lv_sub hl [0, 1, 2, 3] rfl)
  have B_Y8_againstOnFloor_127 : ∀ (x1 : Int32) (x2 : Int32) (x3 : Int32) (y0 : Int32) (H : Heap) (locs : List Loc) (ls_ : Array Slot), b_Y8_againstOnFloor_127 S x0 x1 x2 x3 y0 = X → q_Y8_againstOnFloor_127 S x0 x1 x2 x3 y0 → va_P G vwCl (wsC K ad S) H → va_D A (wsC K ad S) → va_S A s.heap H locs → lv_has ls_ 4 [(0, .ref (ad x0)), (1, .int x1), (2, .int x2), (3, .int x3)] → W p l e ({ frames := 3, cells := 0, slots := 0, locals := 66 } : Room) s m #[Value.ref (ad x0), Value.int a1, Value.int a2, Value.int a3] below meth c H locs 0 0 Q (F0 m 127 ls_ [.int y0, .ref (ad x0)]) := by
    intro x1 x2 x3 y0 H locs ls_ hE hp hP hD hS hl
    unfold b_Y8_againstOnFloor_127 at hE
    unfold q_Y8_againstOnFloor_127 at hp
    obtain ⟨hy19, hp⟩ := hp
    refine cGoi (va_runS (As := [.ref (ad x0), .int y0]) (rest := []) ⟨hx, hb, hml, hown, hts⟩ (c_Y8_againstSetting l G K ad S x0 y0 _) (va_cwS 2 hts (wGS t_ (mw (.methodLink RX8 45 yX8_againstSetting) (List.mem_of_getElem? (i := 6) rfl)) (mw (.static yX8_againstSetting) (List.mem_of_getElem? (i := 7) rfl)) (mw (.initialized RX8) (List.mem_of_getElem? (i := 3) rfl)) j_Y8_againstSetting) rfl rfl rfl (by decide +kernel) ⟨Nat.le_of_ble_eq_true rfl, Nat.le_of_ble_eq_true rfl⟩) (cPS hK hTE hP hD ⟨k_x0, hy19⟩) rfl rfl hl.1 rfl (lv_room (Nat.le_of_ble_eq_true rfl)) dX8_againstOnFloor_127 ⟨Nat.le_of_ble_eq_true rfl, Nat.le_of_ble_eq_true rfl⟩) hP hD hS hA (fun r21 u20 H locs hv hP hD hS => ?_)
    have h1 := congrArg Prod.fst hv
    have h2 := (congrArg Prod.snd hv).symm
    dsimp only at h1 h2
    subst h1
    subst h2
    subst hQ
    exact W.iret (v := (f_Y8_againstSetting S x0 y0)) hx hb hr (fun t ht hW => ⟨⟨(f_Y8_againstSetting S x0 y0), S, rfl, (pair_i (hE.trans hX.symm)), by rw [ht]; exact hP, hD⟩, hS.F ht⟩) hS.2.2 dX8_againstOnFloor_130
  have B_Y8_againstOnFloor_126 : ∀ (x1 : Int32) (x2 : Int32) (x3 : Int32) (H : Heap) (locs : List Loc) (ls_ : Array Slot), b_Y8_againstOnFloor_126 S x0 x1 x2 x3 = X → q_Y8_againstOnFloor_126 S x0 x1 x2 x3 → va_P G vwCl (wsC K ad S) H → va_D A (wsC K ad S) → va_S A s.heap H locs → lv_has ls_ 4 [(0, .ref (ad x0)), (1, .int x1), (2, .int x2), (3, .int x3)] → W p l e ({ frames := 3, cells := 0, slots := 0, locals := 66 } : Room) s m #[Value.ref (ad x0), Value.int a1, Value.int a2, Value.int a3] below meth c H locs 0 0 Q (F0 m 126 ls_ [.ref (ad x0)]) := by
    intro x1 x2 x3 H locs ls_ hE hp hP hD hS hl
    unfold b_Y8_againstOnFloor_126 at hE
    unfold q_Y8_againstOnFloor_126 at hp
    refine lv_iconst (v := 0) hx hb dX8_againstOnFloor_126 (by decide) ?_
    exact B_Y8_againstOnFloor_127 x1 x2 x3 0 _ _ _ hE hp hP hD hS (lv_sub hl [0, 1, 2, 3] rfl)
  have B_Y8_againstOnFloor_147 : ∀ (x1 : Int32) (x2 : Int32) (x3 : Int32) (y0 : Int32) (H : Heap) (locs : List Loc) (ls_ : Array Slot), b_Y8_againstOnFloor_147 S x0 x1 x2 x3 y0 = X → q_Y8_againstOnFloor_147 S x0 x1 x2 x3 y0 → va_P G vwCl (wsC K ad S) H → va_D A (wsC K ad S) → va_S A s.heap H locs → lv_has ls_ 4 [(0, .ref (ad x0)), (1, .int x1), (2, .int x2), (3, .int x3)] → W p l e ({ frames := 3, cells := 0, slots := 0, locals := 66 } : Room) s m #[Value.ref (ad x0), Value.int a1, Value.int a2, Value.int a3] below meth c H locs 0 0 Q (F0 m 147 ls_ [.int y0, .ref (ad x0)]) := by
    intro x1 x2 x3 y0 H locs ls_ hE hp hP hD hS hl
    unfold b_Y8_againstOnFloor_147 at hE
    unfold q_Y8_againstOnFloor_147 at hp
    obtain ⟨hy26, hp⟩ := hp
    refine cGoi (va_runS (As := [.ref (ad x0), .int y0]) (rest := []) ⟨hx, hb, hml, hown, hts⟩ (c_Y8_againstSetting l G K ad S x0 y0 _) (va_cwS 2 hts (wGS t_ (mw (.methodLink RX8 45 yX8_againstSetting) (List.mem_of_getElem? (i := 6) rfl)) (mw (.static yX8_againstSetting) (List.mem_of_getElem? (i := 7) rfl)) (mw (.initialized RX8) (List.mem_of_getElem? (i := 3) rfl)) j_Y8_againstSetting) rfl rfl rfl (by decide +kernel) ⟨Nat.le_of_ble_eq_true rfl, Nat.le_of_ble_eq_true rfl⟩) (cPS hK hTE hP hD ⟨k_x0, hy26⟩) rfl rfl hl.1 rfl (lv_room (Nat.le_of_ble_eq_true rfl)) dX8_againstOnFloor_147 ⟨Nat.le_of_ble_eq_true rfl, Nat.le_of_ble_eq_true rfl⟩) hP hD hS hA (fun r28 u27 H locs hv hP hD hS => ?_)
    have h1 := congrArg Prod.fst hv
    have h2 := (congrArg Prod.snd hv).symm
    dsimp only at h1 h2
    subst h1
    subst h2
    subst hQ
    exact W.iret (v := (f_Y8_againstSetting S x0 y0)) hx hb hr (fun t ht hW => ⟨⟨(f_Y8_againstSetting S x0 y0), S, rfl, (pair_i (hE.trans hX.symm)), by rw [ht]; exact hP, hD⟩, hS.F ht⟩) hS.2.2 dX8_againstOnFloor_150
  have B_Y8_againstOnFloor_146 : ∀ (x1 : Int32) (x2 : Int32) (x3 : Int32) (H : Heap) (locs : List Loc) (ls_ : Array Slot), b_Y8_againstOnFloor_146 S x0 x1 x2 x3 = X → q_Y8_againstOnFloor_146 S x0 x1 x2 x3 → va_P G vwCl (wsC K ad S) H → va_D A (wsC K ad S) → va_S A s.heap H locs → lv_has ls_ 4 [(0, .ref (ad x0)), (1, .int x1), (2, .int x2), (3, .int x3)] → W p l e ({ frames := 3, cells := 0, slots := 0, locals := 66 } : Room) s m #[Value.ref (ad x0), Value.int a1, Value.int a2, Value.int a3] below meth c H locs 0 0 Q (F0 m 146 ls_ [.ref (ad x0)]) := by
    intro x1 x2 x3 H locs ls_ hE hp hP hD hS hl
    unfold b_Y8_againstOnFloor_146 at hE
    unfold q_Y8_againstOnFloor_146 at hp
    refine lv_iconst (v := 0) hx hb dX8_againstOnFloor_146 (by decide) ?_
    exact B_Y8_againstOnFloor_147 x1 x2 x3 0 _ _ _ hE hp hP hD hS (lv_sub hl [0, 1, 2, 3] rfl)
  have B_Y8_againstOnFloor_173 : ∀ (x1 : Int32) (x2 : Int32) (x3 : Int32) (y0 : Int32) (H : Heap) (locs : List Loc) (ls_ : Array Slot), b_Y8_againstOnFloor_173 S x0 x1 x2 x3 y0 = X → q_Y8_againstOnFloor_173 S x0 x1 x2 x3 y0 → va_P G vwCl (wsC K ad S) H → va_D A (wsC K ad S) → va_S A s.heap H locs → lv_has ls_ 4 [(0, .ref (ad x0)), (1, .int x1), (2, .int x2), (3, .int x3)] → W p l e ({ frames := 3, cells := 0, slots := 0, locals := 66 } : Room) s m #[Value.ref (ad x0), Value.int a1, Value.int a2, Value.int a3] below meth c H locs 0 0 Q (F0 m 173 ls_ [.int y0]) := by
    intro x1 x2 x3 y0 H locs ls_ hE hp hP hD hS hl
    unfold b_Y8_againstOnFloor_173 at hE
    unfold q_Y8_againstOnFloor_173 at hp
    subst hQ
    exact W.iret (v := y0) hx hb hr (fun t ht hW => ⟨⟨y0, S, rfl, (pair_i (hE.trans hX.symm)), by rw [ht]; exact hP, hD⟩, hS.F ht⟩) hS.2.2 dX8_againstOnFloor_173
  have B_M : ∀ (x1 : Int32) (x2 : Int32) (x3 : Int32) (H : Heap) (locs : List Loc) (ls_ : Array Slot), f_Y8_againstOnFloor S x0 x1 x2 x3 = X → p_Y8_againstOnFloor S x0 x1 x2 x3 → va_P G vwCl (wsC K ad S) H → va_D A (wsC K ad S) → va_S A s.heap H locs → lv_has ls_ 4 [(0, .ref (ad x0)), (1, .int x1), (2, .int x2), (3, .int x3)] → W p l e ({ frames := 3, cells := 0, slots := 0, locals := 66 } : Room) s m #[Value.ref (ad x0), Value.int a1, Value.int a2, Value.int a3] below meth c H locs 0 0 Q (F0 m 0 ls_ []) := by
    intro x1 x2 x3 H locs ls_ hE hp hP hD hS hl
    unfold f_Y8_againstOnFloor at hE
    unfold p_Y8_againstOnFloor at hp
    refine lv_iload_n hx hb dX8_againstOnFloor_0 rfl (lv_at hl 1 rfl) ?_
    by_cases s1 : x1 = 1
    · rw [if_pos s1] at hE hp
      refine lv_tableIn (off := 51) (tgt := 52) hx hb dX8_againstOnFloor_1 (by rw [s1]; decide) (by rw [s1]; decide) (by rw [s1]; decide) (by decide) ?_
      refine lv_aload_n hx hb dX8_againstOnFloor_52 rfl (lv_at hl 0 rfl) ?_
      refine va_get (D := G) (ci := 0) (v := va_re ad (grC S x0 0)) (C := RX0) (T := TX0) (N := 11) hx hb hts iX0 hown hK hP x0 (at_0 k_x0) rfl 0 (by decide) (hw (.fieldLink RX8 34 "MotionFloor$Assembly" "house" "LMotionFloor$House;") (List.mem_of_getElem? (i := 0) rfl)) (fun _ h9 => h9) rfl dX8_againstOnFloor_53 ?_
      refine lv_iload_n hx hb dX8_againstOnFloor_56 rfl (lv_at hl 2 rfl) ?_
      obtain ⟨hy1, hp⟩ := hp
      refine cTop2 (r := (grC S x0 0)) hy1.1 ?_
      obtain ⟨hy2, hp⟩ := hp
      refine cGoi (va_runS (As := [.ref (ad ((grC S x0 0).getD 0)), .int x2]) (rest := []) ⟨hx, hb, hml, hown, hts⟩ (c_Y8_againstThere l G K ad S ((grC S x0 0).getD 0) x2 _) (va_cwS 2 hts (wGS t_ (mw (.methodLink RX8 38 yX8_againstThere) (List.mem_of_getElem? (i := 1) rfl)) (mw (.static yX8_againstThere) (List.mem_of_getElem? (i := 2) rfl)) (mw (.initialized RX8) (List.mem_of_getElem? (i := 3) rfl)) j_Y8_againstThere) rfl rfl rfl (by decide +kernel) ⟨Nat.le_of_ble_eq_true rfl, Nat.le_of_ble_eq_true rfl⟩) (cPS hK hTE hP hD ⟨hy1.2, hy2⟩) rfl rfl hl.1 rfl (lv_room (Nat.le_of_ble_eq_true rfl)) dX8_againstOnFloor_57 ⟨Nat.le_of_ble_eq_true rfl, Nat.le_of_ble_eq_true rfl⟩) hP hD hS hA (fun r4 u3 H locs hv hP hD hS => ?_)
      have h1 := congrArg Prod.fst hv
      have h2 := (congrArg Prod.snd hv).symm
      dsimp only at h1 h2
      subst h1
      subst h2
      subst hQ
      exact W.iret (v := (f_Y8_againstThere S ((grC S x0 0).getD 0) x2)) hx hb hr (fun t ht hW => ⟨⟨(f_Y8_againstThere S ((grC S x0 0).getD 0) x2), S, rfl, (pair_i (hE.trans hX.symm)), by rw [ht]; exact hP, hD⟩, hS.F ht⟩) hS.2.2 dX8_againstOnFloor_60
    rw [if_neg s1] at hE hp
    have s1 := wNe (b := 1) rfl (by decide) s1
    by_cases s2 : x1 = 2
    · rw [if_pos s2] at hE hp
      refine lv_tableIn (off := 60) (tgt := 61) hx hb dX8_againstOnFloor_1 (by rw [s2]; decide) (by rw [s2]; decide) (by rw [s2]; decide) (by decide) ?_
      refine lv_aload_n hx hb dX8_againstOnFloor_61 rfl (lv_at hl 0 rfl) ?_
      refine va_get (D := G) (ci := 0) (v := va_re ad (grC S x0 0)) (C := RX0) (T := TX0) (N := 11) hx hb hts iX0 hown hK hP x0 (at_0 k_x0) rfl 0 (by decide) (hw (.fieldLink RX8 34 "MotionFloor$Assembly" "house" "LMotionFloor$House;") (List.mem_of_getElem? (i := 0) rfl)) (fun _ h9 => h9) rfl dX8_againstOnFloor_62 ?_
      refine lv_iload_n hx hb dX8_againstOnFloor_65 rfl (lv_at hl 2 rfl) ?_
      obtain ⟨hy5, hp⟩ := hp
      refine cTop2 (r := (grC S x0 0)) hy5.1 ?_
      obtain ⟨hy6, hp⟩ := hp
      refine cGoi (va_runS (As := [.ref (ad ((grC S x0 0).getD 0)), .int x2]) (rest := []) ⟨hx, hb, hml, hown, hts⟩ (c_Y8_againstAbsent l G K ad S ((grC S x0 0).getD 0) x2 _) (va_cwS 2 hts (wGS t_ (mw (.methodLink RX8 42 yX8_againstAbsent) (List.mem_of_getElem? (i := 4) rfl)) (mw (.static yX8_againstAbsent) (List.mem_of_getElem? (i := 5) rfl)) (mw (.initialized RX8) (List.mem_of_getElem? (i := 3) rfl)) j_Y8_againstAbsent) rfl rfl rfl (by decide +kernel) ⟨Nat.le_of_ble_eq_true rfl, Nat.le_of_ble_eq_true rfl⟩) (cPS hK hTE hP hD ⟨hy5.2, hy6⟩) rfl rfl hl.1 rfl (lv_room (Nat.le_of_ble_eq_true rfl)) dX8_againstOnFloor_66 ⟨Nat.le_of_ble_eq_true rfl, Nat.le_of_ble_eq_true rfl⟩) hP hD hS hA (fun r8 u7 H locs hv hP hD hS => ?_)
      have h1 := congrArg Prod.fst hv
      have h2 := (congrArg Prod.snd hv).symm
      dsimp only at h1 h2
      subst h1
      subst h2
      subst hQ
      exact W.iret (v := (f_Y8_againstAbsent S ((grC S x0 0).getD 0) x2)) hx hb hr (fun t ht hW => ⟨⟨(f_Y8_againstAbsent S ((grC S x0 0).getD 0) x2), S, rfl, (pair_i (hE.trans hX.symm)), by rw [ht]; exact hP, hD⟩, hS.F ht⟩) hS.2.2 dX8_againstOnFloor_69
    rw [if_neg s2] at hE hp
    have s2 := wNe (b := 2) rfl (by decide) s2
    by_cases s3 : x1 = 3
    · rw [if_pos s3] at hE hp
      refine lv_tableIn (off := 69) (tgt := 70) hx hb dX8_againstOnFloor_1 (by rw [s3]; decide) (by rw [s3]; decide) (by rw [s3]; decide) (by decide) ?_
      refine lv_aload_n hx hb dX8_againstOnFloor_70 rfl (lv_at hl 0 rfl) ?_
      refine lv_iload_n hx hb dX8_againstOnFloor_71 rfl (lv_at hl 2 rfl) ?_
      refine lv_if_lt (tgt := 86) hx hb dX8_againstOnFloor_72 (by decide) (fun c9 => ?_) (fun c9 => ?_)
      · rw [if_pos c9] at hE hp
        exact B_Y8_againstOnFloor_86 x1 x2 x3 _ _ _ hE hp hP hD hS (lv_sub hl [0, 1, 2, 3] rfl)
      · rw [if_neg c9] at hE hp
        refine lv_iload_n hx hb dX8_againstOnFloor_75 rfl (lv_at hl 2 rfl) ?_
        refine lv_sipush (v := 200) hx hb dX8_againstOnFloor_76 (by decide) ?_
        refine lv_icmp_gt (tgt := 86) hx hb dX8_againstOnFloor_79 (by decide) (fun c13 => ?_) (fun c13 => ?_)
        · rw [if_pos c13] at hE hp
          exact B_Y8_againstOnFloor_86 x1 x2 x3 _ _ _ hE hp hP hD hS (lv_sub hl [0, 1, 2, 3] rfl)
        · rw [if_neg c13] at hE hp
          refine lv_iconst (v := 1) hx hb dX8_againstOnFloor_82 (by decide) ?_
          refine lv_goto (tgt := 87) hx hb dX8_againstOnFloor_83 (by decide) ?_
          exact B_Y8_againstOnFloor_87 x1 x2 x3 1 _ _ _ hE hp hP hD hS (lv_sub hl [0, 1, 2, 3] rfl)
    rw [if_neg s3] at hE hp
    have s3 := wNe (b := 3) rfl (by decide) s3
    by_cases s4 : x1 = 4
    · rw [if_pos s4] at hE hp
      refine lv_tableIn (off := 90) (tgt := 91) hx hb dX8_againstOnFloor_1 (by rw [s4]; decide) (by rw [s4]; decide) (by rw [s4]; decide) (by decide) ?_
      refine lv_aload_n hx hb dX8_againstOnFloor_91 rfl (lv_at hl 0 rfl) ?_
      refine va_get (D := G) (ci := 0) (v := va_re ad (grC S x0 0)) (C := RX0) (T := TX0) (N := 11) hx hb hts iX0 hown hK hP x0 (at_0 k_x0) rfl 0 (by decide) (hw (.fieldLink RX8 34 "MotionFloor$Assembly" "house" "LMotionFloor$House;") (List.mem_of_getElem? (i := 0) rfl)) (fun _ h9 => h9) rfl dX8_againstOnFloor_92 ?_
      refine lv_iload_n hx hb dX8_againstOnFloor_95 rfl (lv_at hl 2 rfl) ?_
      obtain ⟨hy14, hp⟩ := hp
      refine cTop2 (r := (grC S x0 0)) hy14.1 ?_
      obtain ⟨hy15, hp⟩ := hp
      refine cGoi (va_runS (As := [.ref (ad ((grC S x0 0).getD 0)), .int x2]) (rest := []) ⟨hx, hb, hml, hown, hts⟩ (c_Y8_againstAbsent l G K ad S ((grC S x0 0).getD 0) x2 _) (va_cwS 2 hts (wGS t_ (mw (.methodLink RX8 42 yX8_againstAbsent) (List.mem_of_getElem? (i := 4) rfl)) (mw (.static yX8_againstAbsent) (List.mem_of_getElem? (i := 5) rfl)) (mw (.initialized RX8) (List.mem_of_getElem? (i := 3) rfl)) j_Y8_againstAbsent) rfl rfl rfl (by decide +kernel) ⟨Nat.le_of_ble_eq_true rfl, Nat.le_of_ble_eq_true rfl⟩) (cPS hK hTE hP hD ⟨hy14.2, hy15⟩) rfl rfl hl.1 rfl (lv_room (Nat.le_of_ble_eq_true rfl)) dX8_againstOnFloor_96 ⟨Nat.le_of_ble_eq_true rfl, Nat.le_of_ble_eq_true rfl⟩) hP hD hS hA (fun r17 u16 H locs hv hP hD hS => ?_)
      have h1 := congrArg Prod.fst hv
      have h2 := (congrArg Prod.snd hv).symm
      dsimp only at h1 h2
      subst h1
      subst h2
      subst hQ
      exact W.iret (v := (f_Y8_againstAbsent S ((grC S x0 0).getD 0) x2)) hx hb hr (fun t ht hW => ⟨⟨(f_Y8_againstAbsent S ((grC S x0 0).getD 0) x2), S, rfl, (pair_i (hE.trans hX.symm)), by rw [ht]; exact hP, hD⟩, hS.F ht⟩) hS.2.2 dX8_againstOnFloor_99
    rw [if_neg s4] at hE hp
    have s4 := wNe (b := 4) rfl (by decide) s4
    by_cases s5 : x1 = 5
    · rw [if_pos s5] at hE hp
      refine lv_tableIn (off := 99) (tgt := 100) hx hb dX8_againstOnFloor_1 (by rw [s5]; decide) (by rw [s5]; decide) (by rw [s5]; decide) (by decide) ?_
      refine lv_aload_n hx hb dX8_againstOnFloor_100 rfl (lv_at hl 0 rfl) ?_
      refine lv_iload_n hx hb dX8_againstOnFloor_101 rfl (lv_at hl 2 rfl) ?_
      refine lv_iconst (v := 1) hx hb dX8_againstOnFloor_102 (by decide) ?_
      refine lv_icmp_lt (tgt := 126) hx hb dX8_againstOnFloor_103 (by decide) (fun c18 => ?_) (fun c18 => ?_)
      · rw [if_pos c18] at hE hp
        exact B_Y8_againstOnFloor_126 x1 x2 x3 _ _ _ hE hp hP hD hS (lv_sub hl [0, 1, 2, 3] rfl)
      · rw [if_neg c18] at hE hp
        refine lv_iload_n hx hb dX8_againstOnFloor_106 rfl (lv_at hl 2 rfl) ?_
        refine lv_bipush (v := 8) hx hb dX8_againstOnFloor_107 (by decide) ?_
        refine lv_icmp_gt (tgt := 126) hx hb dX8_againstOnFloor_109 (by decide) (fun c22 => ?_) (fun c22 => ?_)
        · rw [if_pos c22] at hE hp
          exact B_Y8_againstOnFloor_126 x1 x2 x3 _ _ _ hE hp hP hD hS (lv_sub hl [0, 1, 2, 3] rfl)
        · rw [if_neg c22] at hE hp
          refine lv_iload_n hx hb dX8_againstOnFloor_112 rfl (lv_at hl 3 rfl) ?_
          refine lv_iconst (v := 1) hx hb dX8_againstOnFloor_113 (by decide) ?_
          refine lv_icmp_lt (tgt := 126) hx hb dX8_againstOnFloor_114 (by decide) (fun c23 => ?_) (fun c23 => ?_)
          · rw [if_pos c23] at hE hp
            exact B_Y8_againstOnFloor_126 x1 x2 x3 _ _ _ hE hp hP hD hS (lv_sub hl [0, 1, 2, 3] rfl)
          · rw [if_neg c23] at hE hp
            refine lv_iload_n hx hb dX8_againstOnFloor_117 rfl (lv_at hl 3 rfl) ?_
            refine lv_iconst (v := 3) hx hb dX8_againstOnFloor_118 (by decide) ?_
            refine lv_icmp_gt (tgt := 126) hx hb dX8_againstOnFloor_119 (by decide) (fun c24 => ?_) (fun c24 => ?_)
            · rw [if_pos c24] at hE hp
              exact B_Y8_againstOnFloor_126 x1 x2 x3 _ _ _ hE hp hP hD hS (lv_sub hl [0, 1, 2, 3] rfl)
            · rw [if_neg c24] at hE hp
              refine lv_iconst (v := 1) hx hb dX8_againstOnFloor_122 (by decide) ?_
              refine lv_goto (tgt := 127) hx hb dX8_againstOnFloor_123 (by decide) ?_
              exact B_Y8_againstOnFloor_127 x1 x2 x3 1 _ _ _ hE hp hP hD hS (lv_sub hl [0, 1, 2, 3] rfl)
    rw [if_neg s5] at hE hp
    have s5 := wNe (b := 5) rfl (by decide) s5
    by_cases s6 : x1 = 6
    · rw [if_pos s6] at hE hp
      refine lv_tableIn (off := 130) (tgt := 131) hx hb dX8_againstOnFloor_1 (by rw [s6]; decide) (by rw [s6]; decide) (by rw [s6]; decide) (by decide) ?_
      refine lv_aload_n hx hb dX8_againstOnFloor_131 rfl (lv_at hl 0 rfl) ?_
      refine lv_iload_n hx hb dX8_againstOnFloor_132 rfl (lv_at hl 2 rfl) ?_
      refine lv_if_lt (tgt := 146) hx hb dX8_againstOnFloor_133 (by decide) (fun c25 => ?_) (fun c25 => ?_)
      · rw [if_pos c25] at hE hp
        exact B_Y8_againstOnFloor_146 x1 x2 x3 _ _ _ hE hp hP hD hS (lv_sub hl [0, 1, 2, 3] rfl)
      · rw [if_neg c25] at hE hp
        refine lv_iload_n hx hb dX8_againstOnFloor_136 rfl (lv_at hl 2 rfl) ?_
        refine lv_bipush (v := 99) hx hb dX8_againstOnFloor_137 (by decide) ?_
        refine lv_icmp_gt (tgt := 146) hx hb dX8_againstOnFloor_139 (by decide) (fun c29 => ?_) (fun c29 => ?_)
        · rw [if_pos c29] at hE hp
          exact B_Y8_againstOnFloor_146 x1 x2 x3 _ _ _ hE hp hP hD hS (lv_sub hl [0, 1, 2, 3] rfl)
        · rw [if_neg c29] at hE hp
          refine lv_iconst (v := 1) hx hb dX8_againstOnFloor_142 (by decide) ?_
          refine lv_goto (tgt := 147) hx hb dX8_againstOnFloor_143 (by decide) ?_
          exact B_Y8_againstOnFloor_147 x1 x2 x3 1 _ _ _ hE hp hP hD hS (lv_sub hl [0, 1, 2, 3] rfl)
    rw [if_neg s6] at hE hp
    have s6 := wNe (b := 6) rfl (by decide) s6
    by_cases s7 : x1 = 7
    · rw [if_pos s7] at hE hp
      refine lv_tableIn (off := 150) (tgt := 151) hx hb dX8_againstOnFloor_1 (by rw [s7]; decide) (by rw [s7]; decide) (by rw [s7]; decide) (by decide) ?_
      refine lv_aload_n hx hb dX8_againstOnFloor_151 rfl (lv_at hl 0 rfl) ?_
      refine lv_iload_n hx hb dX8_againstOnFloor_152 rfl (lv_at hl 2 rfl) ?_
      obtain ⟨hy30, hp⟩ := hp
      refine cGoi (va_runS (As := [.ref (ad x0), .int x2]) (rest := []) ⟨hx, hb, hml, hown, hts⟩ (c_Y8_againstFloor l G K ad S x0 x2 _) (va_cwS 2 hts (wGS t_ (mw (.methodLink RX8 49 yX8_againstFloor) (List.mem_of_getElem? (i := 8) rfl)) (mw (.static yX8_againstFloor) (List.mem_of_getElem? (i := 9) rfl)) (mw (.initialized RX8) (List.mem_of_getElem? (i := 3) rfl)) j_Y8_againstFloor) rfl rfl rfl (by decide +kernel) ⟨Nat.le_of_ble_eq_true rfl, Nat.le_of_ble_eq_true rfl⟩) (cPS hK hTE hP hD ⟨k_x0, hy30⟩) rfl rfl hl.1 rfl (lv_room (Nat.le_of_ble_eq_true rfl)) dX8_againstOnFloor_153 ⟨Nat.le_of_ble_eq_true rfl, Nat.le_of_ble_eq_true rfl⟩) hP hD hS hA (fun r32 u31 H locs hv hP hD hS => ?_)
      have h1 := congrArg Prod.fst hv
      have h2 := (congrArg Prod.snd hv).symm
      dsimp only at h1 h2
      subst h1
      subst h2
      subst hQ
      exact W.iret (v := (f_Y8_againstFloor S x0 x2)) hx hb hr (fun t ht hW => ⟨⟨(f_Y8_againstFloor S x0 x2), S, rfl, (pair_i (hE.trans hX.symm)), by rw [ht]; exact hP, hD⟩, hS.F ht⟩) hS.2.2 dX8_againstOnFloor_156
    rw [if_neg s7] at hE hp
    have s7 := wNe (b := 7) rfl (by decide) s7
    by_cases s8 : x1 = 8
    · rw [if_pos s8] at hE hp
      refine lv_tableIn (off := 156) (tgt := 157) hx hb dX8_againstOnFloor_1 (by rw [s8]; decide) (by rw [s8]; decide) (by rw [s8]; decide) (by decide) ?_
      refine lv_aload_n hx hb dX8_againstOnFloor_157 rfl (lv_at hl 0 rfl) ?_
      refine va_get (D := G) (ci := 0) (v := va_re ad (grC S x0 0)) (C := RX0) (T := TX0) (N := 11) hx hb hts iX0 hown hK hP x0 (at_0 k_x0) rfl 0 (by decide) (hw (.fieldLink RX8 34 "MotionFloor$Assembly" "house" "LMotionFloor$House;") (List.mem_of_getElem? (i := 0) rfl)) (fun _ h9 => h9) rfl dX8_againstOnFloor_158 ?_
      obtain ⟨hy33, hp⟩ := hp
      refine cTop (r := (grC S x0 0)) hy33.1 ?_
      refine va_get (D := G) (ci := 1) (v := .int (giC S ((grC S x0 0).getD 0) 6)) (C := RX2) (T := TX2) (N := 8) hx hb hts iX2 hown hK hP ((grC S x0 0).getD 0) (at_1 hy33.2) rfl 6 (by decide) (hw (.fieldLink RX8 53 "MotionFloor$House" "speaker" "I") (List.mem_of_getElem? (i := 10) rfl)) (fun _ h9 => h9) rfl dX8_againstOnFloor_161 ?_
      refine lv_iconst (v := (-1)) hx hb dX8_againstOnFloor_164 (by decide) ?_
      refine lv_icmp_ne (tgt := 172) hx hb dX8_againstOnFloor_165 (by decide) (fun c34 => ?_) (fun c34 => ?_)
      · rw [if_neg c34] at hE hp
        refine lv_iconst (v := 0) hx hb dX8_againstOnFloor_172 (by decide) ?_
        exact B_Y8_againstOnFloor_173 x1 x2 x3 0 _ _ _ hE hp hP hD hS (lv_sub hl [0, 1, 2, 3] rfl)
      · rw [if_pos c34] at hE hp
        refine lv_iconst (v := 2) hx hb dX8_againstOnFloor_168 (by decide) ?_
        refine lv_goto (tgt := 173) hx hb dX8_againstOnFloor_169 (by decide) ?_
        exact B_Y8_againstOnFloor_173 x1 x2 x3 2 _ _ _ hE hp hP hD hS (lv_sub hl [0, 1, 2, 3] rfl)
    rw [if_neg s8] at hE hp
    have s8 := wNe (b := 8) rfl (by decide) s8
    by_cases s9 : x1 = 9
    · rw [if_pos s9] at hE hp
      refine lv_tableIn (off := 173) (tgt := 174) hx hb dX8_againstOnFloor_1 (by rw [s9]; decide) (by rw [s9]; decide) (by rw [s9]; decide) (by decide) ?_
      refine lv_aload_n hx hb dX8_againstOnFloor_174 rfl (lv_at hl 0 rfl) ?_
      refine lv_iload_n hx hb dX8_againstOnFloor_175 rfl (lv_at hl 2 rfl) ?_
      obtain ⟨hy35, hp⟩ := hp
      refine cGoi (va_runS (As := [.ref (ad x0), .int x2]) (rest := []) ⟨hx, hb, hml, hown, hts⟩ (c_Y8_againstDebate l G K ad S x0 x2 _) (va_cwS 2 hts (wGS t_ (mw (.methodLink RX8 59 yX8_againstDebate) (List.mem_of_getElem? (i := 11) rfl)) (mw (.static yX8_againstDebate) (List.mem_of_getElem? (i := 12) rfl)) (mw (.initialized RX8) (List.mem_of_getElem? (i := 3) rfl)) j_Y8_againstDebate) rfl rfl rfl (by decide +kernel) ⟨Nat.le_of_ble_eq_true rfl, Nat.le_of_ble_eq_true rfl⟩) (cPS hK hTE hP hD ⟨k_x0, hy35⟩) rfl rfl hl.1 rfl (lv_room (Nat.le_of_ble_eq_true rfl)) dX8_againstOnFloor_176 ⟨Nat.le_of_ble_eq_true rfl, Nat.le_of_ble_eq_true rfl⟩) hP hD hS hA (fun r37 u36 H locs hv hP hD hS => ?_)
      have h1 := congrArg Prod.fst hv
      have h2 := (congrArg Prod.snd hv).symm
      dsimp only at h1 h2
      subst h1
      subst h2
      subst hQ
      exact W.iret (v := (f_Y8_againstDebate S x0 x2)) hx hb hr (fun t ht hW => ⟨⟨(f_Y8_againstDebate S x0 x2), S, rfl, (pair_i (hE.trans hX.symm)), by rw [ht]; exact hP, hD⟩, hS.F ht⟩) hS.2.2 dX8_againstOnFloor_179
    rw [if_neg s9] at hE hp
    have s9 := wNe (b := 9) rfl (by decide) s9
    refine lv_tableOut (tgt := 180) hx hb dX8_againstOnFloor_1 (by omega) (by decide) ?_
    refine lv_bipush (v := 11) hx hb dX8_againstOnFloor_180 (by decide) ?_
    subst hQ
    exact W.iret (v := (11 : Int32)) hx hb hr (fun t ht hW => ⟨⟨(11 : Int32), S, rfl, (pair_i (hE.trans hX.symm)), by rw [ht]; exact hP, hD⟩, hS.F ht⟩) hS.2.2 dX8_againstOnFloor_182
  exact B_M a1 a2 a3 _ _ _ hX hp hP hD hS hl
theorem dX8_against_13 : decode cX8_against 13 = .ok (.istore 6, 2) := by decide +kernel
theorem dX8_against_15 : decode cX8_against 15 = .ok (.goto 34, 3) := by decide +kernel
set_option maxRecDepth 100000 in
theorem zc291 : wZ (.static yX8_againstOnFloor) := ⟨wT2 (List.mem_of_getElem? (i := 53) (by decide +kernel)), Or.inl rfl⟩
set_option maxRecDepth 100000 in
theorem zc292 : wZ (.methodLink RX8 9 yX8_againstOnFloor) := ⟨wT2 (List.mem_of_getElem? (i := 52) (by decide +kernel)), Or.inl rfl⟩
set_option maxRecDepth 100000 in
theorem zc293 : wZ (.static yX8_againstOnPaper) := ⟨wT2 (List.mem_of_getElem? (i := 91) (by decide +kernel)), Or.inl rfl⟩
set_option maxRecDepth 100000 in
theorem zc294 : wZ (.methodLink RX8 15 yX8_againstOnPaper) := ⟨wT2 (List.mem_of_getElem? (i := 90) (by decide +kernel)), Or.inl rfl⟩
set_option maxRecDepth 100000 in
theorem zc295 : wZ (.initialized RX3) := ⟨wT1 (List.mem_of_getElem? (i := 6) (by decide +kernel)), Or.inl rfl⟩
set_option maxRecDepth 100000 in
theorem zc296 : wZ (.selects RX3 yX3_isFull yX3_isFull) := ⟨wT2 (List.mem_of_getElem? (i := 192) (by decide +kernel)), Or.inl rfl⟩
set_option maxRecDepth 100000 in
theorem zc297 : wZ (.instanceMethod yX3_isFull) := ⟨wT2 (List.mem_of_getElem? (i := 191) (by decide +kernel)), Or.inl rfl⟩
set_option maxRecDepth 100000 in
theorem zc298 : wZ (.methodLink RX8 28 yX3_isFull) := ⟨wT2 (List.mem_of_getElem? (i := 190) (by decide +kernel)), Or.inl rfl⟩
set_option maxRecDepth 100000 in
theorem zc299 : wZ (.fieldLink RX8 22 "MotionFloor$Assembly" "minutes" "LMotionFloor$Ledger;") := ⟨wT1 (List.mem_of_getElem? (i := 195) (by decide +kernel)), Or.inl rfl⟩
set_option maxRecDepth 100000 in
theorem zc300 : wZ (.static yX8_againstOnMotion) := ⟨wT2 (List.mem_of_getElem? (i := 143) (by decide +kernel)), Or.inl rfl⟩
set_option maxRecDepth 100000 in
theorem zc301 : wZ (.methodLink RX8 19 yX8_againstOnMotion) := ⟨wT2 (List.mem_of_getElem? (i := 142) (by decide +kernel)), Or.inl rfl⟩
set_option maxRecDepth 100000 in
theorem zc302 : wZ (.code yX8_against cX8_against 7 (some .int)) := ⟨wT2 (List.mem_of_getElem? (i := 51) rfl), Or.inl rfl⟩
def b_Y8_against_71 (S : Cst) (x0 : Nat) (x1 : Int32) (x2 : Int32) (x3 : Int32) (x4 : Int32) (x5 : Int32) (x6 : Int32) (y0 : Int32) : Int32 := y0
def q_Y8_against_71 (S : Cst) (x0 : Nat) (x1 : Int32) (x2 : Int32) (x3 : Int32) (x4 : Int32) (x5 : Int32) (x6 : Int32) (y0 : Int32) : Prop := True
def b_Y8_against_69 (S : Cst) (x0 : Nat) (x1 : Int32) (x2 : Int32) (x3 : Int32) (x4 : Int32) (x5 : Int32) (x6 : Int32) : Int32 := (b_Y8_against_71 S x0 x1 x2 x3 x4 x5 x6 x6)
def q_Y8_against_69 (S : Cst) (x0 : Nat) (x1 : Int32) (x2 : Int32) (x3 : Int32) (x4 : Int32) (x5 : Int32) (x6 : Int32) : Prop := (q_Y8_against_71 S x0 x1 x2 x3 x4 x5 x6 x6)
def b_Y8_against_49 (S : Cst) (x0 : Nat) (x1 : Int32) (x2 : Int32) (x3 : Int32) (x4 : Int32) (x5 : Int32) (x6 : Int32) : Int32 := if x6 = 0 then if (f_Y3_isFull S ((grC S x0 4).getD 0)) = 0 then (b_Y8_against_69 S x0 x1 x2 x3 x4 x5 x6) else (b_Y8_against_71 S x0 x1 x2 x3 x4 x5 x6 10) else (b_Y8_against_69 S x0 x1 x2 x3 x4 x5 x6)
def q_Y8_against_49 (S : Cst) (x0 : Nat) (x1 : Int32) (x2 : Int32) (x3 : Int32) (x4 : Int32) (x5 : Int32) (x6 : Int32) : Prop := (if x6 = 0 then (iR S (grC S x0 4) 2) ∧ (p_Y3_isFull S ((grC S x0 4).getD 0)) ∧ (if (f_Y3_isFull S ((grC S x0 4).getD 0)) = 0 then (q_Y8_against_69 S x0 x1 x2 x3 x4 x5 x6) else (q_Y8_against_71 S x0 x1 x2 x3 x4 x5 x6 10)) else (q_Y8_against_69 S x0 x1 x2 x3 x4 x5 x6))
def f_Y8_against (S : Cst) (x0 : Nat) (x1 : Int32) (x2 : Int32) (x3 : Int32) (x4 : Int32) (x5 : Int32) : Int32 := if 9 < x1 then if 14 < x1 then (b_Y8_against_49 S x0 x1 x2 x3 x4 x5 (f_Y8_againstOnMotion S x0 x1 x2 x3)) else (b_Y8_against_49 S x0 x1 x2 x3 x4 x5 (f_Y8_againstOnPaper S x0 x1 x2 x3 x4 x5)) else (b_Y8_against_49 S x0 x1 x2 x3 x4 x5 (f_Y8_againstOnFloor S x0 x1 x2 x3))
def p_Y8_against (S : Cst) (x0 : Nat) (x1 : Int32) (x2 : Int32) (x3 : Int32) (x4 : Int32) (x5 : Int32) : Prop := (if 9 < x1 then (if 14 < x1 then (p_Y8_againstOnMotion S x0 x1 x2 x3) ∧ (q_Y8_against_49 S x0 x1 x2 x3 x4 x5 (f_Y8_againstOnMotion S x0 x1 x2 x3)) else (p_Y8_againstOnPaper S x0 x1 x2 x3 x4 x5) ∧ (q_Y8_against_49 S x0 x1 x2 x3 x4 x5 (f_Y8_againstOnPaper S x0 x1 x2 x3 x4 x5))) else (p_Y8_againstOnFloor S x0 x1 x2 x3) ∧ (q_Y8_against_49 S x0 x1 x2 x3 x4 x5 (f_Y8_againstOnFloor S x0 x1 x2 x3)))
def e_Y8_against : List Cond := [.methodLink RX8 19 yX8_againstOnMotion, .static yX8_againstOnMotion, .initialized RX8, .fieldLink RX8 22 "MotionFloor$Assembly" "minutes" "LMotionFloor$Ledger;", .methodLink RX8 28 yX3_isFull, .instanceMethod yX3_isFull, .selects RX3 yX3_isFull yX3_isFull, .initialized RX3, .methodLink RX8 15 yX8_againstOnPaper, .static yX8_againstOnPaper, .methodLink RX8 9 yX8_againstOnFloor, .static yX8_againstOnFloor]
def v_Y8_against : List Cond := .code yX8_against cX8_against 7 (some .int) :: (e_Y8_against ++ (wsX00 ++ (v_Y8_againstOnMotion ++ (v_Y3_isFull ++ (v_Y8_againstOnPaper ++ (v_Y8_againstOnFloor ++ []))))))
theorem te_Y8_against : GoodIn lw_tbl e_Y8_against := wGc zc301 (wGc zc300 (wGc zc157 (wGc zc299 (wGc zc298 (wGc zc297 (wGc zc296 (wGc zc295 (wGc zc294 (wGc zc293 (wGc zc292 (wGc zc291 (wG0))))))))))))
theorem t_Y8_against : GoodIn lw_tbl v_Y8_against := wGc zc302 (wGa te_Y8_against (wGa zcX0 (wGa t_Y8_againstOnMotion (wGa t_Y3_isFull (wGa t_Y8_againstOnPaper (wGa t_Y8_againstOnFloor (wG0)))))))
set_option maxHeartbeats 4000000 in
set_option maxRecDepth 100000 in
theorem c_Y8_against (l : Launch) (G : va_G) (K : Nat → ClassId) (ad : Nat → Nat) (S : Cst) (x0 : Nat) (a1 : Int32) (a2 : Int32) (a3 : Int32) (a4 : Int32) (a5 : Int32) (sz : Nat) : Met l yX8_against v_Y8_against ({ frames := 5, cells := 0, slots := 0, locals := 117 }) (va_Pc [.ref (ad x0), .int a1, .int a2, .int a3, .int a4, .int a5] (cSt G K ad sz S (iK S x0 0 ∧ p_Y8_against S x0 a1 a2 a3 a4 a5))) (va_Qi (fun (r : Int32) (u : Cst) => (r, u) = (f_Y8_against S x0 a1 a2 a3 a4 a5, S)) (cBt G K ad (va_A (wsC K ad S) sz)) (va_A (wsC K ad S) sz)) 0 0 (va_A (wsC K ad S) sz) := by
  refine Met.ofW (cc := cX8_against) (maxL := 7) (ret := (some .int)) (by decide) rfl ?_
  intro p e s m args below meth c s₁ B hml hv
  obtain ⟨rfl, ⟨hsz, hP, hK, hD0, hTE⟩, hp⟩ := hv
  obtain ⟨k_x0, hp⟩ := hp
  have hx := B.exec
  have hb := B.bytes
  have hr := B.returns
  have hts := atoms_spec (ws := v_Y8_against) B.pre
  have t_ := t_Y8_against
  have mw : ∀ w ∈ e_Y8_against, w ∈ v_Y8_against := fun w h => List.mem_cons_of_mem _ (List.mem_append_left _ h)
  have hw := fun w (h : w ∈ e_Y8_against) => hts w (mw w h)
  have iX0 : ∀ w ∈ wsX00, w ∈ v_Y8_against := fun w h => List.mem_cons_of_mem _ (List.mem_append_right _ (List.mem_append_left _ h))
  have j_Y8_againstOnMotion : ∀ w ∈ v_Y8_againstOnMotion, w ∈ v_Y8_against := fun w h => List.mem_cons_of_mem _ (List.mem_append_right _ (List.mem_append_right _ (List.mem_append_left _ h)))
  have j_Y3_isFull : ∀ w ∈ v_Y3_isFull, w ∈ v_Y8_against := fun w h => List.mem_cons_of_mem _ (List.mem_append_right _ (List.mem_append_right _ (List.mem_append_right _ (List.mem_append_left _ h))))
  have j_Y8_againstOnPaper : ∀ w ∈ v_Y8_againstOnPaper, w ∈ v_Y8_against := fun w h => List.mem_cons_of_mem _ (List.mem_append_right _ (List.mem_append_right _ (List.mem_append_right _ (List.mem_append_right _ (List.mem_append_left _ h)))))
  have j_Y8_againstOnFloor : ∀ w ∈ v_Y8_againstOnFloor, w ∈ v_Y8_against := fun w h => List.mem_cons_of_mem _ (List.mem_append_right _ (List.mem_append_right _ (List.mem_append_right _ (List.mem_append_right _ (List.mem_append_right _ (List.mem_append_left _ h))))))
  have hown : s.vm.findClass RX8 = some m.cls := findClass_of_methodNamed B.named
  have hlocks := B.notSynchronized
  subst hsz
  have hD := hD0.self (sz := s.heap.size)
  generalize hAe : va_A (wsC K ad S) s.heap.size = A at hD ⊢
  have hA : ∀ q : Nat, s.heap.size ≤ q → A q := fun q h => by rw [← hAe]; exact Or.inr h
  have hS : va_S A s.heap s.heap [] := va_S.rf
  have hl : lv_has (lg_sl ([.ref (ad x0), .int a1, .int a2, .int a3, .int a4, .int a5]) ++ List.replicate (7 - (lg_sl ([.ref (ad x0), .int a1, .int a2, .int a3, .int a4, .int a5])).length) Slot.unset).toArray 7 [(0, .ref (ad x0)), (1, .int a1), (2, .int a2), (3, .int a3), (4, .int a4), (5, .int a5)] := by
    exact lv_entry ([.ref (ad x0), .int a1, .int a2, .int a3, .int a4, .int a5]) (n := 7) (Nat.le_of_ble_eq_true rfl)
  rw [lg_entry_eq]
  generalize (lg_sl ([.ref (ad x0), .int a1, .int a2, .int a3, .int a4, .int a5]) ++ List.replicate (7 - (lg_sl ([.ref (ad x0), .int a1, .int a2, .int a3, .int a4, .int a5])).length) Slot.unset).toArray = ls_ at hl ⊢
  refine wGen (fun Q hQ => ?_)
  obtain ⟨X, hX⟩ : ∃ X, f_Y8_against S x0 a1 a2 a3 a4 a5 = X := ⟨_, rfl⟩
  have B_Y8_against_71 : ∀ (x1 : Int32) (x2 : Int32) (x3 : Int32) (x4 : Int32) (x5 : Int32) (x6 : Int32) (y0 : Int32) (H : Heap) (locs : List Loc) (ls_ : Array Slot), b_Y8_against_71 S x0 x1 x2 x3 x4 x5 x6 y0 = X → q_Y8_against_71 S x0 x1 x2 x3 x4 x5 x6 y0 → va_P G vwCl (wsC K ad S) H → va_D A (wsC K ad S) → va_S A s.heap H locs → lv_has ls_ 7 [(0, .ref (ad x0)), (1, .int x1), (2, .int x2), (3, .int x3), (4, .int x4), (5, .int x5), (6, .int x6)] → W p l e ({ frames := 5, cells := 0, slots := 0, locals := 117 } : Room) s m #[Value.ref (ad x0), Value.int a1, Value.int a2, Value.int a3, Value.int a4, Value.int a5] below meth c H locs 0 0 Q (F0 m 71 ls_ [.int y0]) := by
    intro x1 x2 x3 x4 x5 x6 y0 H locs ls_ hE hp hP hD hS hl
    unfold b_Y8_against_71 at hE
    unfold q_Y8_against_71 at hp
    subst hQ
    exact W.iret (v := y0) hx hb hr (fun t ht hW => ⟨⟨y0, S, rfl, (pair_i (hE.trans hX.symm)), by rw [ht]; exact hP, hD⟩, hS.F ht⟩) hS.2.2 dX8_against_71
  have B_Y8_against_69 : ∀ (x1 : Int32) (x2 : Int32) (x3 : Int32) (x4 : Int32) (x5 : Int32) (x6 : Int32) (H : Heap) (locs : List Loc) (ls_ : Array Slot), b_Y8_against_69 S x0 x1 x2 x3 x4 x5 x6 = X → q_Y8_against_69 S x0 x1 x2 x3 x4 x5 x6 → va_P G vwCl (wsC K ad S) H → va_D A (wsC K ad S) → va_S A s.heap H locs → lv_has ls_ 7 [(0, .ref (ad x0)), (1, .int x1), (2, .int x2), (3, .int x3), (4, .int x4), (5, .int x5), (6, .int x6)] → W p l e ({ frames := 5, cells := 0, slots := 0, locals := 117 } : Room) s m #[Value.ref (ad x0), Value.int a1, Value.int a2, Value.int a3, Value.int a4, Value.int a5] below meth c H locs 0 0 Q (F0 m 69 ls_ []) := by
    intro x1 x2 x3 x4 x5 x6 H locs ls_ hE hp hP hD hS hl
    unfold b_Y8_against_69 at hE
    unfold q_Y8_against_69 at hp
    refine lv_iload hx hb dX8_against_69 (lv_at hl 6 rfl) ?_
    exact B_Y8_against_71 x1 x2 x3 x4 x5 x6 x6 _ _ _ hE hp hP hD hS (lv_sub hl [0, 1, 2, 3, 4, 5, 6] rfl)
  have B_Y8_against_49 : ∀ (x1 : Int32) (x2 : Int32) (x3 : Int32) (x4 : Int32) (x5 : Int32) (x6 : Int32) (H : Heap) (locs : List Loc) (ls_ : Array Slot), b_Y8_against_49 S x0 x1 x2 x3 x4 x5 x6 = X → q_Y8_against_49 S x0 x1 x2 x3 x4 x5 x6 → va_P G vwCl (wsC K ad S) H → va_D A (wsC K ad S) → va_S A s.heap H locs → lv_has ls_ 7 [(0, .ref (ad x0)), (1, .int x1), (2, .int x2), (3, .int x3), (4, .int x4), (5, .int x5), (6, .int x6)] → W p l e ({ frames := 5, cells := 0, slots := 0, locals := 117 } : Room) s m #[Value.ref (ad x0), Value.int a1, Value.int a2, Value.int a3, Value.int a4, Value.int a5] below meth c H locs 0 0 Q (F0 m 49 ls_ []) := by
    intro x1 x2 x3 x4 x5 x6 H locs ls_ hE hp hP hD hS hl
    unfold b_Y8_against_49 at hE
    unfold q_Y8_against_49 at hp
    refine lv_iload hx hb dX8_against_49 (lv_at hl 6 rfl) ?_
    refine lv_if_ne (tgt := 69) hx hb dX8_against_51 (by decide) (fun c6 => ?_) (fun c6 => ?_)
    · rw [if_neg c6] at hE hp
      exact B_Y8_against_69 x1 x2 x3 x4 x5 x6 _ _ _ hE hp hP hD hS (lv_sub hl [0, 1, 2, 3, 4, 5, 6] rfl)
    · rw [if_pos c6] at hE hp
      refine lv_aload_n hx hb dX8_against_54 rfl (lv_at hl 0 rfl) ?_
      refine va_get (D := G) (ci := 0) (v := va_re ad (grC S x0 4)) (C := RX0) (T := TX0) (N := 11) hx hb hts iX0 hown hK hP x0 (at_0 k_x0) rfl 4 (by decide) (hw (.fieldLink RX8 22 "MotionFloor$Assembly" "minutes" "LMotionFloor$Ledger;") (List.mem_of_getElem? (i := 3) rfl)) (fun _ h9 => h9) rfl dX8_against_55 ?_
      obtain ⟨hy7, hp⟩ := hp
      refine cTop (r := (grC S x0 4)) hy7.1 ?_
      obtain ⟨hy8, hp⟩ := hp
      refine cGoi (va_runV (As := []) (rest := []) ⟨hx, hb, hml, hown, hts⟩ (c_Y3_isFull l G K ad S ((grC S x0 4).getD 0) _) (cwV 0 hts (wGV t_ (mw (.methodLink RX8 28 yX3_isFull) (List.mem_of_getElem? (i := 4) rfl)) (mw (.instanceMethod yX3_isFull) (List.mem_of_getElem? (i := 5) rfl)) (mw (.selects RX3 yX3_isFull yX3_isFull) (List.mem_of_getElem? (i := 6) rfl)) (mw (.initialized RX3) (List.mem_of_getElem? (i := 7) rfl)) j_Y3_isFull) rfl rfl rfl (by decide +kernel) ⟨Nat.le_of_ble_eq_true rfl, Nat.le_of_ble_eq_true rfl⟩) (cPV hK hTE hP hD 2 rfl (at_2 hy7.2) ⟨hy7.2, hy8⟩) rfl rfl hl.1 rfl (lv_room (Nat.le_of_ble_eq_true rfl)) dX8_against_58 ⟨Nat.le_of_ble_eq_true rfl, Nat.le_of_ble_eq_true rfl⟩) hP hD hS hA (fun r10 u9 H locs hv hP hD hS => ?_)
      have h1 := congrArg Prod.fst hv
      have h2 := (congrArg Prod.snd hv).symm
      dsimp only at h1 h2
      subst h1
      subst h2
      refine lv_if_eq (tgt := 69) hx hb dX8_against_61 (by decide) (fun c11 => ?_) (fun c11 => ?_)
      · rw [if_pos c11] at hE hp
        exact B_Y8_against_69 x1 x2 x3 x4 x5 x6 _ _ _ hE hp hP hD hS (lv_sub hl [0, 1, 2, 3, 4, 5, 6] rfl)
      · rw [if_neg c11] at hE hp
        refine lv_bipush (v := 10) hx hb dX8_against_64 (by decide) ?_
        refine lv_goto (tgt := 71) hx hb dX8_against_66 (by decide) ?_
        exact B_Y8_against_71 x1 x2 x3 x4 x5 x6 10 _ _ _ hE hp hP hD hS (lv_sub hl [0, 1, 2, 3, 4, 5, 6] rfl)
  have B_M : ∀ (x1 : Int32) (x2 : Int32) (x3 : Int32) (x4 : Int32) (x5 : Int32) (H : Heap) (locs : List Loc) (ls_ : Array Slot), f_Y8_against S x0 x1 x2 x3 x4 x5 = X → p_Y8_against S x0 x1 x2 x3 x4 x5 → va_P G vwCl (wsC K ad S) H → va_D A (wsC K ad S) → va_S A s.heap H locs → lv_has ls_ 7 [(0, .ref (ad x0)), (1, .int x1), (2, .int x2), (3, .int x3), (4, .int x4), (5, .int x5)] → W p l e ({ frames := 5, cells := 0, slots := 0, locals := 117 } : Room) s m #[Value.ref (ad x0), Value.int a1, Value.int a2, Value.int a3, Value.int a4, Value.int a5] below meth c H locs 0 0 Q (F0 m 0 ls_ []) := by
    intro x1 x2 x3 x4 x5 H locs ls_ hE hp hP hD hS hl
    unfold f_Y8_against at hE
    unfold p_Y8_against at hp
    refine lv_iload_n hx hb dX8_against_0 rfl (lv_at hl 1 rfl) ?_
    refine lv_bipush (v := 9) hx hb dX8_against_1 (by decide) ?_
    refine lv_icmp_gt (tgt := 18) hx hb dX8_against_3 (by decide) (fun c1 => ?_) (fun c1 => ?_)
    · rw [if_pos c1] at hE hp
      refine lv_iload_n hx hb dX8_against_18 rfl (lv_at hl 1 rfl) ?_
      refine lv_bipush (v := 14) hx hb dX8_against_19 (by decide) ?_
      refine lv_icmp_gt (tgt := 40) hx hb dX8_against_21 (by decide) (fun c2 => ?_) (fun c2 => ?_)
      · rw [if_pos c2] at hE hp
        refine lv_aload_n hx hb dX8_against_40 rfl (lv_at hl 0 rfl) ?_
        refine lv_iload_n hx hb dX8_against_41 rfl (lv_at hl 1 rfl) ?_
        refine lv_iload_n hx hb dX8_against_42 rfl (lv_at hl 2 rfl) ?_
        refine lv_iload_n hx hb dX8_against_43 rfl (lv_at hl 3 rfl) ?_
        obtain ⟨hy3, hp⟩ := hp
        refine cGoi (va_runS (As := [.ref (ad x0), .int x1, .int x2, .int x3]) (rest := []) ⟨hx, hb, hml, hown, hts⟩ (c_Y8_againstOnMotion l G K ad S x0 x1 x2 x3 _) (va_cwS 4 hts (wGS t_ (mw (.methodLink RX8 19 yX8_againstOnMotion) (List.mem_of_getElem? (i := 0) rfl)) (mw (.static yX8_againstOnMotion) (List.mem_of_getElem? (i := 1) rfl)) (mw (.initialized RX8) (List.mem_of_getElem? (i := 2) rfl)) j_Y8_againstOnMotion) rfl rfl rfl (by decide +kernel) ⟨Nat.le_of_ble_eq_true rfl, Nat.le_of_ble_eq_true rfl⟩) (cPS hK hTE hP hD ⟨k_x0, hy3⟩) rfl rfl hl.1 rfl (lv_room (Nat.le_of_ble_eq_true rfl)) dX8_against_44 ⟨Nat.le_of_ble_eq_true rfl, Nat.le_of_ble_eq_true rfl⟩) hP hD hS hA (fun r5 u4 H locs hv hP hD hS => ?_)
        have h1 := congrArg Prod.fst hv
        have h2 := (congrArg Prod.snd hv).symm
        dsimp only at h1 h2
        subst h1
        subst h2
        refine lv_istore (i := 6) (lv' := [(6, .int (f_Y8_againstOnMotion S x0 x1 x2 x3)), (0, .ref (ad x0)), (1, .int x1), (2, .int x2), (3, .int x3), (4, .int x4), (5, .int x5)]) hx hb dX8_against_47 hl (by decide) rfl (fun ls_ hl => ?_)
        exact B_Y8_against_49 x1 x2 x3 x4 x5 (f_Y8_againstOnMotion S x0 x1 x2 x3) _ _ _ hE hp hP hD hS (lv_sub hl [1, 2, 3, 4, 5, 6, 0] rfl)
      · rw [if_neg c2] at hE hp
        refine lv_aload_n hx hb dX8_against_24 rfl (lv_at hl 0 rfl) ?_
        refine lv_iload_n hx hb dX8_against_25 rfl (lv_at hl 1 rfl) ?_
        refine lv_iload_n hx hb dX8_against_26 rfl (lv_at hl 2 rfl) ?_
        refine lv_iload_n hx hb dX8_against_27 rfl (lv_at hl 3 rfl) ?_
        refine lv_iload hx hb dX8_against_28 (lv_at hl 4 rfl) ?_
        refine lv_iload hx hb dX8_against_30 (lv_at hl 5 rfl) ?_
        obtain ⟨hy12, hp⟩ := hp
        refine cGoi (va_runS (As := [.ref (ad x0), .int x1, .int x2, .int x3, .int x4, .int x5]) (rest := []) ⟨hx, hb, hml, hown, hts⟩ (c_Y8_againstOnPaper l G K ad S x0 x1 x2 x3 x4 x5 _) (va_cwS 6 hts (wGS t_ (mw (.methodLink RX8 15 yX8_againstOnPaper) (List.mem_of_getElem? (i := 8) rfl)) (mw (.static yX8_againstOnPaper) (List.mem_of_getElem? (i := 9) rfl)) (mw (.initialized RX8) (List.mem_of_getElem? (i := 2) rfl)) j_Y8_againstOnPaper) rfl rfl rfl (by decide +kernel) ⟨Nat.le_of_ble_eq_true rfl, Nat.le_of_ble_eq_true rfl⟩) (cPS hK hTE hP hD ⟨k_x0, hy12⟩) rfl rfl hl.1 rfl (lv_room (Nat.le_of_ble_eq_true rfl)) dX8_against_32 ⟨Nat.le_of_ble_eq_true rfl, Nat.le_of_ble_eq_true rfl⟩) hP hD hS hA (fun r14 u13 H locs hv hP hD hS => ?_)
        have h1 := congrArg Prod.fst hv
        have h2 := (congrArg Prod.snd hv).symm
        dsimp only at h1 h2
        subst h1
        subst h2
        refine lv_istore (i := 6) (lv' := [(6, .int (f_Y8_againstOnPaper S x0 x1 x2 x3 x4 x5)), (0, .ref (ad x0)), (1, .int x1), (2, .int x2), (3, .int x3), (4, .int x4), (5, .int x5)]) hx hb dX8_against_35 hl (by decide) rfl (fun ls_ hl => ?_)
        refine lv_goto (tgt := 49) hx hb dX8_against_37 (by decide) ?_
        exact B_Y8_against_49 x1 x2 x3 x4 x5 (f_Y8_againstOnPaper S x0 x1 x2 x3 x4 x5) _ _ _ hE hp hP hD hS (lv_sub hl [1, 2, 3, 4, 5, 6, 0] rfl)
    · rw [if_neg c1] at hE hp
      refine lv_aload_n hx hb dX8_against_6 rfl (lv_at hl 0 rfl) ?_
      refine lv_iload_n hx hb dX8_against_7 rfl (lv_at hl 1 rfl) ?_
      refine lv_iload_n hx hb dX8_against_8 rfl (lv_at hl 2 rfl) ?_
      refine lv_iload_n hx hb dX8_against_9 rfl (lv_at hl 3 rfl) ?_
      obtain ⟨hy15, hp⟩ := hp
      refine cGoi (va_runS (As := [.ref (ad x0), .int x1, .int x2, .int x3]) (rest := []) ⟨hx, hb, hml, hown, hts⟩ (c_Y8_againstOnFloor l G K ad S x0 x1 x2 x3 _) (va_cwS 4 hts (wGS t_ (mw (.methodLink RX8 9 yX8_againstOnFloor) (List.mem_of_getElem? (i := 10) rfl)) (mw (.static yX8_againstOnFloor) (List.mem_of_getElem? (i := 11) rfl)) (mw (.initialized RX8) (List.mem_of_getElem? (i := 2) rfl)) j_Y8_againstOnFloor) rfl rfl rfl (by decide +kernel) ⟨Nat.le_of_ble_eq_true rfl, Nat.le_of_ble_eq_true rfl⟩) (cPS hK hTE hP hD ⟨k_x0, hy15⟩) rfl rfl hl.1 rfl (lv_room (Nat.le_of_ble_eq_true rfl)) dX8_against_10 ⟨Nat.le_of_ble_eq_true rfl, Nat.le_of_ble_eq_true rfl⟩) hP hD hS hA (fun r17 u16 H locs hv hP hD hS => ?_)
      have h1 := congrArg Prod.fst hv
      have h2 := (congrArg Prod.snd hv).symm
      dsimp only at h1 h2
      subst h1
      subst h2
      refine lv_istore (i := 6) (lv' := [(6, .int (f_Y8_againstOnFloor S x0 x1 x2 x3)), (0, .ref (ad x0)), (1, .int x1), (2, .int x2), (3, .int x3), (4, .int x4), (5, .int x5)]) hx hb dX8_against_13 hl (by decide) rfl (fun ls_ hl => ?_)
      refine lv_goto (tgt := 49) hx hb dX8_against_15 (by decide) ?_
      exact B_Y8_against_49 x1 x2 x3 x4 x5 (f_Y8_againstOnFloor S x0 x1 x2 x3) _ _ _ hE hp hP hD hS (lv_sub hl [1, 2, 3, 4, 5, 6, 0] rfl)
  exact B_M a1 a2 a3 a4 a5 _ _ _ hX hp hP hD hS hl
theorem dX0_enact_12 : decode cX0_enact 12 = .ok (.putfield 73, 3) := by decide +kernel
theorem dX0_enact_15 : decode cX0_enact 15 = .ok (.aload_n 0, 1) := by decide +kernel
theorem dX0_enact_16 : decode cX0_enact 16 = .ok (.getfield 73, 3) := by decide +kernel
theorem dX0_enact_19 : decode cX0_enact 19 = .ok (.ifCond .eq 9, 3) := by decide +kernel
theorem dX0_enact_28 : decode cX0_enact 28 = .ok (.aload_n 0, 1) := by decide +kernel
theorem dX0_enact_29 : decode cX0_enact 29 = .ok (.iload_n 1, 1) := by decide +kernel
theorem dX0_enact_30 : decode cX0_enact 30 = .ok (.iload_n 2, 1) := by decide +kernel
theorem dX0_enact_31 : decode cX0_enact 31 = .ok (.iload_n 3, 1) := by decide +kernel
theorem dX0_enact_32 : decode cX0_enact 32 = .ok (.iload 4, 2) := by decide +kernel
theorem dX0_enact_34 : decode cX0_enact 34 = .ok (.iload 5, 2) := by decide +kernel
theorem dX0_enact_36 : decode cX0_enact 36 = .ok (.invokestatic 161, 3) := by decide +kernel
theorem dX1_perform_0 : decode cX1_perform 0 = .ok (.aload_n 0, 1) := by decide +kernel
theorem dX1_perform_1 : decode cX1_perform 1 = .ok (.getfield 9, 3) := by decide +kernel
theorem dX1_perform_4 : decode cX1_perform 4 = .ok (.invokevirtual 15, 3) := by decide +kernel
theorem dX1_perform_7 : decode cX1_perform 7 = .ok (.astore 6, 2) := by decide +kernel
theorem dX1_perform_9 : decode cX1_perform 9 = .ok (.iload_n 1, 1) := by decide +kernel
theorem dX1_perform_10 : decode cX1_perform 10 = .ok (.tableswitch 292 1 22 #[102, 111, 120, 130, 139, 149, 159, 170, 178, 184, 190, 197, 208, 214, 220, 226, 233, 250, 266, 226, 271, 287], 102) := by decide +kernel
theorem dX1_perform_112 : decode cX1_perform 112 = .ok (.aload_n 0, 1) := by decide +kernel
theorem dX1_perform_113 : decode cX1_perform 113 = .ok (.getfield 21, 3) := by decide +kernel
theorem dX1_perform_116 : decode cX1_perform 116 = .ok (.iload_n 2, 1) := by decide +kernel
theorem dX1_perform_117 : decode cX1_perform 117 = .ok (.invokevirtual 25, 3) := by decide +kernel
set_option maxRecDepth 100000 in
theorem zc303 : wZ (.methodLink RX2 53 yX2_has) := ⟨wT2 (List.mem_of_getElem? (i := 202) (by decide +kernel)), Or.inl rfl⟩
set_option maxRecDepth 100000 in
theorem zc304 : wZ (.code yX2_arrive cX2_arrive 2 (some .int)) := ⟨wT2 (List.mem_of_getElem? (i := 201) rfl), Or.inl rfl⟩
def b_Y2_arrive_34 (S : Cst) (x0 : Nat) (x1 : Int32) : Int32 × Cst := ((giC S x0 2), S)
def q_Y2_arrive_34 (S : Cst) (x0 : Nat) (x1 : Int32) : Prop := True
def f_Y2_arrive (S : Cst) (x0 : Nat) (x1 : Int32) : Int32 × Cst := if (f_Y2_has S x0 x1) = 0 then (b_Y2_arrive_34 S x0 x1) else if (giC S ((grC S x0 1).getD 0) x1.toNatClampNeg) = 0 then (b_Y2_arrive_34 (siC (siC S ((grC S x0 1).getD 0) x1.toNatClampNeg (vp_nar .boolean (1 : Int32))) x0 2 ((giC (siC S ((grC S x0 1).getD 0) x1.toNatClampNeg (vp_nar .boolean (1 : Int32))) x0 2) + 1)) x0 x1) else (b_Y2_arrive_34 S x0 x1)
def p_Y2_arrive (S : Cst) (x0 : Nat) (x1 : Int32) : Prop := (p_Y2_has S x0 x1) ∧ (if (f_Y2_has S x0 x1) = 0 then (q_Y2_arrive_34 S x0 x1) else (iR S (grC S x0 1) 21) ∧ (vp_in x1 (lnC S ((grC S x0 1).getD 0))) ∧ (if (giC S ((grC S x0 1).getD 0) x1.toNatClampNeg) = 0 then (iR S (grC S x0 1) 21) ∧ (vp_in x1 (lnC S ((grC S x0 1).getD 0))) ∧ (q_Y2_arrive_34 (siC (siC S ((grC S x0 1).getD 0) x1.toNatClampNeg (vp_nar .boolean (1 : Int32))) x0 2 ((giC (siC S ((grC S x0 1).getD 0) x1.toNatClampNeg (vp_nar .boolean (1 : Int32))) x0 2) + 1)) x0 x1) else (q_Y2_arrive_34 S x0 x1)))
def e_Y2_arrive : List Cond := [.methodLink RX2 53 yX2_has, .instanceMethod yX2_has, .selects RX2 yX2_has yX2_has, .initialized RX2, .fieldLink RX2 41 "MotionFloor$House" "present" "I", .fieldLink RX2 9 "MotionFloor$House" "there" "[Z"]
def v_Y2_arrive : List Cond := .code yX2_arrive cX2_arrive 2 (some .int) :: (e_Y2_arrive ++ (wsX20 ++ (v_Y2_has ++ [])))
theorem te_Y2_arrive : GoodIn lw_tbl e_Y2_arrive := wGc zc303 (wGc zc150 (wGc zc149 (wGc zc77 (wGc zc69 (wGc zc70 (wG0))))))
theorem t_Y2_arrive : GoodIn lw_tbl v_Y2_arrive := wGc zc304 (wGa te_Y2_arrive (wGa zcX2 (wGa t_Y2_has (wG0))))
set_option maxHeartbeats 4000000 in
set_option maxRecDepth 100000 in
theorem c_Y2_arrive (l : Launch) (G : va_G) (K : Nat → ClassId) (ad : Nat → Nat) (S0 : Cst) (x0 : Nat) (a1 : Int32) (sz : Nat) : Met l yX2_arrive v_Y2_arrive ({ frames := 1, cells := 0, slots := 0, locals := 21 }) (va_Pc [.ref (ad x0), .int a1] (cSt G K ad sz S0 (iK S0 x0 1 ∧ p_Y2_arrive S0 x0 a1))) (va_Qi (fun (r : Int32) (u : Cst) => (r, u) = f_Y2_arrive S0 x0 a1 ∧ eK S0 u) (cBt G K ad (va_A (wsC K ad S0) sz)) (va_A (wsC K ad S0) sz)) 0 0 (va_A (wsC K ad S0) sz) := by
  refine Met.ofW (cc := cX2_arrive) (maxL := 2) (ret := (some .int)) (by decide) rfl ?_
  intro p e s m args below meth c s₁ B hml hv
  obtain ⟨rfl, ⟨hsz, hP, hK, hD0, hTE⟩, hp⟩ := hv
  obtain ⟨k_x0, hp⟩ := hp
  have hx := B.exec
  have hb := B.bytes
  have hr := B.returns
  have hts := atoms_spec (ws := v_Y2_arrive) B.pre
  have t_ := t_Y2_arrive
  have mw : ∀ w ∈ e_Y2_arrive, w ∈ v_Y2_arrive := fun w h => List.mem_cons_of_mem _ (List.mem_append_left _ h)
  have hw := fun w (h : w ∈ e_Y2_arrive) => hts w (mw w h)
  have iX2 : ∀ w ∈ wsX20, w ∈ v_Y2_arrive := fun w h => List.mem_cons_of_mem _ (List.mem_append_right _ (List.mem_append_left _ h))
  have j_Y2_has : ∀ w ∈ v_Y2_has, w ∈ v_Y2_arrive := fun w h => List.mem_cons_of_mem _ (List.mem_append_right _ (List.mem_append_right _ (List.mem_append_left _ h)))
  have hown : s.vm.findClass RX2 = some m.cls := findClass_of_methodNamed B.named
  have hlocks := B.notSynchronized
  subst hsz
  have hD := hD0.self (sz := s.heap.size)
  generalize hAe : va_A (wsC K ad S0) s.heap.size = A at hD ⊢
  have hA : ∀ q : Nat, s.heap.size ≤ q → A q := fun q h => by rw [← hAe]; exact Or.inr h
  have hS : va_S A s.heap s.heap [] := va_S.rf
  have hl : lv_has (lg_sl ([.ref (ad x0), .int a1]) ++ List.replicate (2 - (lg_sl ([.ref (ad x0), .int a1])).length) Slot.unset).toArray 2 [(0, .ref (ad x0)), (1, .int a1)] := by
    exact lv_entry ([.ref (ad x0), .int a1]) (n := 2) (Nat.le_of_ble_eq_true rfl)
  rw [lg_entry_eq]
  generalize (lg_sl ([.ref (ad x0), .int a1]) ++ List.replicate (2 - (lg_sl ([.ref (ad x0), .int a1])).length) Slot.unset).toArray = ls_ at hl ⊢
  refine wGen (fun Q hQ => ?_)
  obtain ⟨X, hX⟩ : ∃ X, f_Y2_arrive S0 x0 a1 = X := ⟨_, rfl⟩
  have B_Y2_arrive_34 : ∀ (S : Cst) (x1 : Int32) (H : Heap) (locs : List Loc) (ls_ : Array Slot), b_Y2_arrive_34 S x0 x1 = X → q_Y2_arrive_34 S x0 x1 → eK S0 S → va_P G vwCl (wsC K ad S) H → va_D A (wsC K ad S) → va_S A s.heap H locs → lv_has ls_ 2 [(0, .ref (ad x0)), (1, .int x1)] → W p l e ({ frames := 1, cells := 0, slots := 0, locals := 21 } : Room) s m #[Value.ref (ad x0), Value.int a1] below meth c H locs 0 0 Q (F0 m 34 ls_ []) := by
    intro S x1 H locs ls_ hE hp hZ hP hD hS hl
    unfold b_Y2_arrive_34 at hE
    unfold q_Y2_arrive_34 at hp
    refine lv_aload_n hx hb dX2_arrive_34 rfl (lv_at hl 0 rfl) ?_
    refine va_get (D := G) (ci := 1) (v := .int (giC S x0 2)) (C := RX2) (T := TX2) (N := 8) hx hb hts iX2 hown hK hP x0 (at_1 (k_x0.e hZ)) rfl 2 (by decide) (hw (.fieldLink RX2 41 "MotionFloor$House" "present" "I") (List.mem_of_getElem? (i := 4) rfl)) (fun _ h9 => h9) rfl dX2_arrive_35 ?_
    subst hQ
    exact W.iret (v := (giC S x0 2)) hx hb hr (fun t ht hW => ⟨⟨(giC S x0 2), S, rfl, ⟨hE.trans hX.symm, hZ⟩, by rw [ht]; exact hP, hD⟩, hS.F ht⟩) hS.2.2 dX2_arrive_38
  have B_M : ∀ (S : Cst) (x1 : Int32) (H : Heap) (locs : List Loc) (ls_ : Array Slot), f_Y2_arrive S x0 x1 = X → p_Y2_arrive S x0 x1 → eK S0 S → va_P G vwCl (wsC K ad S) H → va_D A (wsC K ad S) → va_S A s.heap H locs → lv_has ls_ 2 [(0, .ref (ad x0)), (1, .int x1)] → W p l e ({ frames := 1, cells := 0, slots := 0, locals := 21 } : Room) s m #[Value.ref (ad x0), Value.int a1] below meth c H locs 0 0 Q (F0 m 0 ls_ []) := by
    intro S x1 H locs ls_ hE hp hZ hP hD hS hl
    unfold f_Y2_arrive at hE
    unfold p_Y2_arrive at hp
    refine lv_aload_n hx hb dX2_arrive_0 rfl (lv_at hl 0 rfl) ?_
    refine lv_iload_n hx hb dX2_arrive_1 rfl (lv_at hl 1 rfl) ?_
    obtain ⟨hy1, hp⟩ := hp
    refine cGoi (va_runV (As := [.int x1]) (rest := []) ⟨hx, hb, hml, hown, hts⟩ (c_Y2_has l G K ad S x0 x1 _) (cwV 1 hts (wGV t_ (mw (.methodLink RX2 53 yX2_has) (List.mem_of_getElem? (i := 0) rfl)) (mw (.instanceMethod yX2_has) (List.mem_of_getElem? (i := 1) rfl)) (mw (.selects RX2 yX2_has yX2_has) (List.mem_of_getElem? (i := 2) rfl)) (mw (.initialized RX2) (List.mem_of_getElem? (i := 3) rfl)) j_Y2_has) rfl rfl rfl (by decide +kernel) ⟨Nat.le_of_ble_eq_true rfl, Nat.le_of_ble_eq_true rfl⟩) (cPV hK hTE hP hD 1 rfl (at_1 (k_x0.e hZ)) ⟨(k_x0.e hZ), hy1⟩) rfl rfl hl.1 rfl (lv_room (Nat.le_of_ble_eq_true rfl)) dX2_arrive_2 ⟨Nat.le_of_ble_eq_true rfl, Nat.le_of_ble_eq_true rfl⟩) hP hD hS hA (fun r3 u2 H locs hv hP hD hS => ?_)
    have h1 := congrArg Prod.fst hv
    have h2 := (congrArg Prod.snd hv).symm
    dsimp only at h1 h2
    subst h1
    subst h2
    refine lv_if_eq (tgt := 34) hx hb dX2_arrive_5 (by decide) (fun c4 => ?_) (fun c4 => ?_)
    · rw [if_pos c4] at hE hp
      exact B_Y2_arrive_34 S x1 _ _ _ hE hp hZ hP hD hS (lv_sub hl [0, 1] rfl)
    · rw [if_neg c4] at hE hp
      refine lv_aload_n hx hb dX2_arrive_8 rfl (lv_at hl 0 rfl) ?_
      refine va_get (D := G) (ci := 1) (v := va_re ad (grC S x0 1)) (C := RX2) (T := TX2) (N := 8) hx hb hts iX2 hown hK hP x0 (at_1 (k_x0.e hZ)) rfl 1 (by decide) (hw (.fieldLink RX2 9 "MotionFloor$House" "there" "[Z") (List.mem_of_getElem? (i := 5) rfl)) (fun _ h9 => h9) rfl dX2_arrive_9 ?_
      refine lv_iload_n hx hb dX2_arrive_12 rfl (lv_at hl 1 rfl) ?_
      obtain ⟨hy5, hp⟩ := hp
      refine cTop2 (r := (grC S x0 1)) hy5.1 ?_
      obtain ⟨hy6, hp⟩ := hp
      refine va_zald hx hb hK hP ((grC S x0 1).getD 0) 1 (at_21 hy5.2) rfl hy6 dX2_arrive_13 ?_
      refine lv_if_ne (tgt := 34) hx hb dX2_arrive_14 (by decide) (fun c7 => ?_) (fun c7 => ?_)
      · rw [if_neg c7] at hE hp
        exact B_Y2_arrive_34 S x1 _ _ _ hE hp hZ hP hD hS (lv_sub hl [0, 1] rfl)
      · rw [if_pos c7] at hE hp
        refine lv_aload_n hx hb dX2_arrive_17 rfl (lv_at hl 0 rfl) ?_
        refine va_get (D := G) (ci := 1) (v := va_re ad (grC S x0 1)) (C := RX2) (T := TX2) (N := 8) hx hb hts iX2 hown hK hP x0 (at_1 (k_x0.e hZ)) rfl 1 (by decide) (hw (.fieldLink RX2 9 "MotionFloor$House" "there" "[Z") (List.mem_of_getElem? (i := 5) rfl)) (fun _ h9 => h9) rfl dX2_arrive_18 ?_
        refine lv_iload_n hx hb dX2_arrive_21 rfl (lv_at hl 1 rfl) ?_
        refine lv_iconst (v := 1) hx hb dX2_arrive_22 (by decide) ?_
        obtain ⟨hy8, hp⟩ := hp
        refine cTop3 (r := (grC S x0 1)) hy8.1 ?_
        obtain ⟨hy9, hp⟩ := hp
        refine va_zast hx hb hK hP hD hS ((grC S x0 1).getD 0) 1 (at_21 hy8.2) rfl hy9 dX2_arrive_23 (fun H locs hP hD hS => ?_)
        rw [sa_21 hy8.2] at hP hD
        have hZ := hZ.tr (eK.si S ((grC S x0 1).getD 0) x1.toNatClampNeg (vp_nar .boolean (1 : Int32)))
        refine lv_aload_n hx hb dX2_arrive_24 rfl (lv_at hl 0 rfl) ?_
        refine lv_dup hx hb dX2_arrive_25 rfl ?_
        refine va_get (D := G) (ci := 1) (v := .int (giC (siC S ((grC S x0 1).getD 0) x1.toNatClampNeg (vp_nar .boolean (1 : Int32))) x0 2)) (C := RX2) (T := TX2) (N := 8) hx hb hts iX2 hown hK hP x0 (at_1 (k_x0.e hZ)) rfl 2 (by decide) (hw (.fieldLink RX2 41 "MotionFloor$House" "present" "I") (List.mem_of_getElem? (i := 4) rfl)) (fun _ h9 => h9) rfl dX2_arrive_26 ?_
        refine lv_iconst (v := 1) hx hb dX2_arrive_29 (by decide) ?_
        refine lv_iadd hx hb dX2_arrive_30 ?_
        refine va_put (D := G) (ci := 1) (v := .int ((giC (siC S ((grC S x0 1).getD 0) x1.toNatClampNeg (vp_nar .boolean (1 : Int32))) x0 2) + 1)) (ty := .int) (C := RX2) (T := TX2) (N := 8) hx hb hts iX2 tyX2 tyX2_ok nmX2 hown hK hP hD hS x0 (at_1 (k_x0.e hZ)) rfl 2 (by decide) (hw (.fieldLink RX2 41 "MotionFloor$House" "present" "I") (List.mem_of_getElem? (i := 4) rfl)) (fun _ h9 => h9) rfl (by decide +kernel) rfl rfl (Nat.le_of_ble_eq_true rfl) dX2_arrive_31 (fun H locs hP hD hS => ?_)
        rw [st_1_2 (k_x0.e hZ)] at hP hD
        have hZ := hZ.tr (eK.si (siC S ((grC S x0 1).getD 0) x1.toNatClampNeg (vp_nar .boolean (1 : Int32))) x0 2 ((giC (siC S ((grC S x0 1).getD 0) x1.toNatClampNeg (vp_nar .boolean (1 : Int32))) x0 2) + 1))
        exact B_Y2_arrive_34 (siC (siC S ((grC S x0 1).getD 0) x1.toNatClampNeg (vp_nar .boolean (1 : Int32))) x0 2 ((giC (siC S ((grC S x0 1).getD 0) x1.toNatClampNeg (vp_nar .boolean (1 : Int32))) x0 2) + 1)) x1 _ _ _ hE hp hZ hP hD hS (lv_sub hl [0, 1] rfl)
  exact B_M S0 a1 _ _ _ hX hp (eK.rf S0) hP hD hS hl
theorem dX1_perform_120 : decode cX1_perform 120 = .ok (.ireturn, 1) := by decide +kernel
theorem dX1_perform_121 : decode cX1_perform 121 = .ok (.aload_n 0, 1) := by decide +kernel
theorem dX1_perform_122 : decode cX1_perform 122 = .ok (.getfield 21, 3) := by decide +kernel
theorem dX1_perform_125 : decode cX1_perform 125 = .ok (.iload_n 2, 1) := by decide +kernel
theorem dX1_perform_126 : decode cX1_perform 126 = .ok (.invokevirtual 31, 3) := by decide +kernel
set_option maxRecDepth 100000 in
theorem zc305 : wZ (.methodLink RX2 64 yX2_hasFloor) := ⟨wT2 (List.mem_of_getElem? (i := 212) (by decide +kernel)), Or.inl rfl⟩
set_option maxRecDepth 100000 in
theorem zc306 : wZ (.code yX2_silence cX2_silence 2 none) := ⟨wT2 (List.mem_of_getElem? (i := 211) rfl), Or.inl rfl⟩
def b_Y2_silence_13 (S : Cst) (x0 : Nat) (x1 : Int32) : Int32 × Cst := (0, S)
def q_Y2_silence_13 (S : Cst) (x0 : Nat) (x1 : Int32) : Prop := True
def f_Y2_silence (S : Cst) (x0 : Nat) (x1 : Int32) : Int32 × Cst := if (f_Y2_hasFloor S x0 x1) = 0 then (b_Y2_silence_13 S x0 x1) else (b_Y2_silence_13 (siC S x0 6 ((-1) : Int32)) x0 x1)
def p_Y2_silence (S : Cst) (x0 : Nat) (x1 : Int32) : Prop := (p_Y2_hasFloor S x0 x1) ∧ (if (f_Y2_hasFloor S x0 x1) = 0 then (q_Y2_silence_13 S x0 x1) else (q_Y2_silence_13 (siC S x0 6 ((-1) : Int32)) x0 x1))
def e_Y2_silence : List Cond := [.methodLink RX2 64 yX2_hasFloor, .instanceMethod yX2_hasFloor, .selects RX2 yX2_hasFloor yX2_hasFloor, .initialized RX2, .fieldLink RX2 44 "MotionFloor$House" "speaker" "I"]
def v_Y2_silence : List Cond := .code yX2_silence cX2_silence 2 none :: (e_Y2_silence ++ (wsX20 ++ (v_Y2_hasFloor ++ [])))
theorem te_Y2_silence : GoodIn lw_tbl e_Y2_silence := wGc zc305 (wGc zc222 (wGc zc221 (wGc zc77 (wGc zc68 (wG0)))))
theorem t_Y2_silence : GoodIn lw_tbl v_Y2_silence := wGc zc306 (wGa te_Y2_silence (wGa zcX2 (wGa t_Y2_hasFloor (wG0))))
set_option maxHeartbeats 4000000 in
set_option maxRecDepth 100000 in
theorem c_Y2_silence (l : Launch) (G : va_G) (K : Nat → ClassId) (ad : Nat → Nat) (S0 : Cst) (x0 : Nat) (a1 : Int32) (sz : Nat) : Met l yX2_silence v_Y2_silence ({ frames := 1, cells := 0, slots := 0, locals := 21 }) (va_Pc [.ref (ad x0), .int a1] (cSt G K ad sz S0 (iK S0 x0 1 ∧ p_Y2_silence S0 x0 a1))) (va_Qv (fun u : Cst => (0, u) = f_Y2_silence S0 x0 a1 ∧ eK S0 u) (cBt G K ad (va_A (wsC K ad S0) sz)) (va_A (wsC K ad S0) sz)) 0 0 (va_A (wsC K ad S0) sz) := by
  refine Met.ofW (cc := cX2_silence) (maxL := 2) (ret := none) (by decide) rfl ?_
  intro p e s m args below meth c s₁ B hml hv
  obtain ⟨rfl, ⟨hsz, hP, hK, hD0, hTE⟩, hp⟩ := hv
  obtain ⟨k_x0, hp⟩ := hp
  have hx := B.exec
  have hb := B.bytes
  have hr := B.returns
  have hts := atoms_spec (ws := v_Y2_silence) B.pre
  have t_ := t_Y2_silence
  have mw : ∀ w ∈ e_Y2_silence, w ∈ v_Y2_silence := fun w h => List.mem_cons_of_mem _ (List.mem_append_left _ h)
  have hw := fun w (h : w ∈ e_Y2_silence) => hts w (mw w h)
  have iX2 : ∀ w ∈ wsX20, w ∈ v_Y2_silence := fun w h => List.mem_cons_of_mem _ (List.mem_append_right _ (List.mem_append_left _ h))
  have j_Y2_hasFloor : ∀ w ∈ v_Y2_hasFloor, w ∈ v_Y2_silence := fun w h => List.mem_cons_of_mem _ (List.mem_append_right _ (List.mem_append_right _ (List.mem_append_left _ h)))
  have hown : s.vm.findClass RX2 = some m.cls := findClass_of_methodNamed B.named
  have hlocks := B.notSynchronized
  subst hsz
  have hD := hD0.self (sz := s.heap.size)
  generalize hAe : va_A (wsC K ad S0) s.heap.size = A at hD ⊢
  have hA : ∀ q : Nat, s.heap.size ≤ q → A q := fun q h => by rw [← hAe]; exact Or.inr h
  have hS : va_S A s.heap s.heap [] := va_S.rf
  have hl : lv_has (lg_sl ([.ref (ad x0), .int a1]) ++ List.replicate (2 - (lg_sl ([.ref (ad x0), .int a1])).length) Slot.unset).toArray 2 [(0, .ref (ad x0)), (1, .int a1)] := by
    exact lv_entry ([.ref (ad x0), .int a1]) (n := 2) (Nat.le_of_ble_eq_true rfl)
  rw [lg_entry_eq]
  generalize (lg_sl ([.ref (ad x0), .int a1]) ++ List.replicate (2 - (lg_sl ([.ref (ad x0), .int a1])).length) Slot.unset).toArray = ls_ at hl ⊢
  refine wGen (fun Q hQ => ?_)
  obtain ⟨X, hX⟩ : ∃ X, f_Y2_silence S0 x0 a1 = X := ⟨_, rfl⟩
  have B_Y2_silence_13 : ∀ (S : Cst) (x1 : Int32) (H : Heap) (locs : List Loc) (ls_ : Array Slot), b_Y2_silence_13 S x0 x1 = X → q_Y2_silence_13 S x0 x1 → eK S0 S → va_P G vwCl (wsC K ad S) H → va_D A (wsC K ad S) → va_S A s.heap H locs → lv_has ls_ 2 [(0, .ref (ad x0)), (1, .int x1)] → W p l e ({ frames := 1, cells := 0, slots := 0, locals := 21 } : Room) s m #[Value.ref (ad x0), Value.int a1] below meth c H locs 0 0 Q (F0 m 13 ls_ []) := by
    intro S x1 H locs ls_ hE hp hZ hP hD hS hl
    unfold b_Y2_silence_13 at hE
    unfold q_Y2_silence_13 at hp
    subst hQ
    exact W.vret hx hb hr (fun t ht hW => ⟨⟨S, rfl, ⟨hE.trans hX.symm, hZ⟩, by rw [ht]; exact hP, hD⟩, hS.F ht⟩) hS.2.2 dX2_silence_13
  have B_M : ∀ (S : Cst) (x1 : Int32) (H : Heap) (locs : List Loc) (ls_ : Array Slot), f_Y2_silence S x0 x1 = X → p_Y2_silence S x0 x1 → eK S0 S → va_P G vwCl (wsC K ad S) H → va_D A (wsC K ad S) → va_S A s.heap H locs → lv_has ls_ 2 [(0, .ref (ad x0)), (1, .int x1)] → W p l e ({ frames := 1, cells := 0, slots := 0, locals := 21 } : Room) s m #[Value.ref (ad x0), Value.int a1] below meth c H locs 0 0 Q (F0 m 0 ls_ []) := by
    intro S x1 H locs ls_ hE hp hZ hP hD hS hl
    unfold f_Y2_silence at hE
    unfold p_Y2_silence at hp
    refine lv_aload_n hx hb dX2_silence_0 rfl (lv_at hl 0 rfl) ?_
    refine lv_iload_n hx hb dX2_silence_1 rfl (lv_at hl 1 rfl) ?_
    obtain ⟨hy1, hp⟩ := hp
    refine cGoi (va_runV (As := [.int x1]) (rest := []) ⟨hx, hb, hml, hown, hts⟩ (c_Y2_hasFloor l G K ad S x0 x1 _) (cwV 1 hts (wGV t_ (mw (.methodLink RX2 64 yX2_hasFloor) (List.mem_of_getElem? (i := 0) rfl)) (mw (.instanceMethod yX2_hasFloor) (List.mem_of_getElem? (i := 1) rfl)) (mw (.selects RX2 yX2_hasFloor yX2_hasFloor) (List.mem_of_getElem? (i := 2) rfl)) (mw (.initialized RX2) (List.mem_of_getElem? (i := 3) rfl)) j_Y2_hasFloor) rfl rfl rfl (by decide +kernel) ⟨Nat.le_of_ble_eq_true rfl, Nat.le_of_ble_eq_true rfl⟩) (cPV hK hTE hP hD 1 rfl (at_1 (k_x0.e hZ)) ⟨(k_x0.e hZ), hy1⟩) rfl rfl hl.1 rfl (lv_room (Nat.le_of_ble_eq_true rfl)) dX2_silence_2 ⟨Nat.le_of_ble_eq_true rfl, Nat.le_of_ble_eq_true rfl⟩) hP hD hS hA (fun r3 u2 H locs hv hP hD hS => ?_)
    have h1 := congrArg Prod.fst hv
    have h2 := (congrArg Prod.snd hv).symm
    dsimp only at h1 h2
    subst h1
    subst h2
    refine lv_if_eq (tgt := 13) hx hb dX2_silence_5 (by decide) (fun c4 => ?_) (fun c4 => ?_)
    · rw [if_pos c4] at hE hp
      exact B_Y2_silence_13 S x1 _ _ _ hE hp hZ hP hD hS (lv_sub hl [0, 1] rfl)
    · rw [if_neg c4] at hE hp
      refine lv_aload_n hx hb dX2_silence_8 rfl (lv_at hl 0 rfl) ?_
      refine lv_iconst (v := (-1)) hx hb dX2_silence_9 (by decide) ?_
      refine va_put (D := G) (ci := 1) (v := .int (-1)) (ty := .int) (C := RX2) (T := TX2) (N := 8) hx hb hts iX2 tyX2 tyX2_ok nmX2 hown hK hP hD hS x0 (at_1 (k_x0.e hZ)) rfl 6 (by decide) (hw (.fieldLink RX2 44 "MotionFloor$House" "speaker" "I") (List.mem_of_getElem? (i := 4) rfl)) (fun _ h9 => h9) rfl (by decide +kernel) rfl rfl (Nat.le_of_ble_eq_true rfl) dX2_silence_10 (fun H locs hP hD hS => ?_)
      rw [st_1_6 (k_x0.e hZ)] at hP hD
      have hZ := hZ.tr (eK.si S x0 6 ((-1) : Int32))
      exact B_Y2_silence_13 (siC S x0 6 ((-1) : Int32)) x1 _ _ _ hE hp hZ hP hD hS (lv_sub hl [0, 1] rfl)
  exact B_M S0 a1 _ _ _ hX hp (eK.rf S0) hP hD hS hl
set_option maxRecDepth 100000 in
theorem zc307 : wZ (.selects RX2 yX2_silence yX2_silence) := ⟨wT2 (List.mem_of_getElem? (i := 210) (by decide +kernel)), Or.inl rfl⟩
set_option maxRecDepth 100000 in
theorem zc308 : wZ (.instanceMethod yX2_silence) := ⟨wT2 (List.mem_of_getElem? (i := 209) (by decide +kernel)), Or.inl rfl⟩
set_option maxRecDepth 100000 in
theorem zc309 : wZ (.methodLink RX2 60 yX2_silence) := ⟨wT2 (List.mem_of_getElem? (i := 208) (by decide +kernel)), Or.inl rfl⟩
set_option maxRecDepth 100000 in
theorem zc310 : wZ (.methodLink RX2 57 yX2_isThere) := ⟨wT2 (List.mem_of_getElem? (i := 207) (by decide +kernel)), Or.inl rfl⟩
set_option maxRecDepth 100000 in
theorem zc311 : wZ (.code yX2_leave cX2_leave 2 (some .int)) := ⟨wT2 (List.mem_of_getElem? (i := 206) rfl), Or.inl rfl⟩
def b_Y2_leave_30a (S : Cst) (x0 : Nat) (x1 : Int32) : Int32 × Cst := ((giC S x0 2), S)
def q_Y2_leave_30a (S : Cst) (x0 : Nat) (x1 : Int32) : Prop := True
def b_Y2_leave_25 (S : Cst) (x0 : Nat) (x1 : Int32) : Int32 × Cst := (b_Y2_leave_30a ((f_Y2_silence S x0 x1).2) x0 x1)
def q_Y2_leave_25 (S : Cst) (x0 : Nat) (x1 : Int32) : Prop := (p_Y2_silence S x0 x1) ∧ (q_Y2_leave_30a ((f_Y2_silence S x0 x1).2) x0 x1)
def f_Y2_leave (S : Cst) (x0 : Nat) (x1 : Int32) : Int32 × Cst := if (f_Y2_isThere S x0 x1) = 0 then (b_Y2_leave_25 S x0 x1) else (b_Y2_leave_25 (siC (siC S ((grC S x0 1).getD 0) x1.toNatClampNeg (vp_nar .boolean (0 : Int32))) x0 2 ((giC (siC S ((grC S x0 1).getD 0) x1.toNatClampNeg (vp_nar .boolean (0 : Int32))) x0 2) - 1)) x0 x1)
def p_Y2_leave (S : Cst) (x0 : Nat) (x1 : Int32) : Prop := (p_Y2_isThere S x0 x1) ∧ (if (f_Y2_isThere S x0 x1) = 0 then (q_Y2_leave_25 S x0 x1) else (iR S (grC S x0 1) 21) ∧ (vp_in x1 (lnC S ((grC S x0 1).getD 0))) ∧ (q_Y2_leave_25 (siC (siC S ((grC S x0 1).getD 0) x1.toNatClampNeg (vp_nar .boolean (0 : Int32))) x0 2 ((giC (siC S ((grC S x0 1).getD 0) x1.toNatClampNeg (vp_nar .boolean (0 : Int32))) x0 2) - 1)) x0 x1))
def e_Y2_leave : List Cond := [.methodLink RX2 57 yX2_isThere, .instanceMethod yX2_isThere, .selects RX2 yX2_isThere yX2_isThere, .initialized RX2, .methodLink RX2 60 yX2_silence, .instanceMethod yX2_silence, .selects RX2 yX2_silence yX2_silence, .fieldLink RX2 41 "MotionFloor$House" "present" "I", .fieldLink RX2 9 "MotionFloor$House" "there" "[Z"]
def v_Y2_leave : List Cond := .code yX2_leave cX2_leave 2 (some .int) :: (e_Y2_leave ++ (wsX20 ++ (v_Y2_isThere ++ (v_Y2_silence ++ []))))
theorem te_Y2_leave : GoodIn lw_tbl e_Y2_leave := wGc zc310 (wGc zc147 (wGc zc146 (wGc zc77 (wGc zc309 (wGc zc308 (wGc zc307 (wGc zc69 (wGc zc70 (wG0)))))))))
theorem t_Y2_leave : GoodIn lw_tbl v_Y2_leave := wGc zc311 (wGa te_Y2_leave (wGa zcX2 (wGa t_Y2_isThere (wGa t_Y2_silence (wG0)))))
set_option maxHeartbeats 4000000 in
set_option maxRecDepth 100000 in
theorem c_Y2_leave (l : Launch) (G : va_G) (K : Nat → ClassId) (ad : Nat → Nat) (S0 : Cst) (x0 : Nat) (a1 : Int32) (sz : Nat) : Met l yX2_leave v_Y2_leave ({ frames := 2, cells := 0, slots := 0, locals := 42 }) (va_Pc [.ref (ad x0), .int a1] (cSt G K ad sz S0 (iK S0 x0 1 ∧ p_Y2_leave S0 x0 a1))) (va_Qi (fun (r : Int32) (u : Cst) => (r, u) = f_Y2_leave S0 x0 a1 ∧ eK S0 u) (cBt G K ad (va_A (wsC K ad S0) sz)) (va_A (wsC K ad S0) sz)) 0 0 (va_A (wsC K ad S0) sz) := by
  refine Met.ofW (cc := cX2_leave) (maxL := 2) (ret := (some .int)) (by decide) rfl ?_
  intro p e s m args below meth c s₁ B hml hv
  obtain ⟨rfl, ⟨hsz, hP, hK, hD0, hTE⟩, hp⟩ := hv
  obtain ⟨k_x0, hp⟩ := hp
  have hx := B.exec
  have hb := B.bytes
  have hr := B.returns
  have hts := atoms_spec (ws := v_Y2_leave) B.pre
  have t_ := t_Y2_leave
  have mw : ∀ w ∈ e_Y2_leave, w ∈ v_Y2_leave := fun w h => List.mem_cons_of_mem _ (List.mem_append_left _ h)
  have hw := fun w (h : w ∈ e_Y2_leave) => hts w (mw w h)
  have iX2 : ∀ w ∈ wsX20, w ∈ v_Y2_leave := fun w h => List.mem_cons_of_mem _ (List.mem_append_right _ (List.mem_append_left _ h))
  have j_Y2_isThere : ∀ w ∈ v_Y2_isThere, w ∈ v_Y2_leave := fun w h => List.mem_cons_of_mem _ (List.mem_append_right _ (List.mem_append_right _ (List.mem_append_left _ h)))
  have j_Y2_silence : ∀ w ∈ v_Y2_silence, w ∈ v_Y2_leave := fun w h => List.mem_cons_of_mem _ (List.mem_append_right _ (List.mem_append_right _ (List.mem_append_right _ (List.mem_append_left _ h))))
  have hown : s.vm.findClass RX2 = some m.cls := findClass_of_methodNamed B.named
  have hlocks := B.notSynchronized
  subst hsz
  have hD := hD0.self (sz := s.heap.size)
  generalize hAe : va_A (wsC K ad S0) s.heap.size = A at hD ⊢
  have hA : ∀ q : Nat, s.heap.size ≤ q → A q := fun q h => by rw [← hAe]; exact Or.inr h
  have hS : va_S A s.heap s.heap [] := va_S.rf
  have hl : lv_has (lg_sl ([.ref (ad x0), .int a1]) ++ List.replicate (2 - (lg_sl ([.ref (ad x0), .int a1])).length) Slot.unset).toArray 2 [(0, .ref (ad x0)), (1, .int a1)] := by
    exact lv_entry ([.ref (ad x0), .int a1]) (n := 2) (Nat.le_of_ble_eq_true rfl)
  rw [lg_entry_eq]
  generalize (lg_sl ([.ref (ad x0), .int a1]) ++ List.replicate (2 - (lg_sl ([.ref (ad x0), .int a1])).length) Slot.unset).toArray = ls_ at hl ⊢
  refine wGen (fun Q hQ => ?_)
  obtain ⟨X, hX⟩ : ∃ X, f_Y2_leave S0 x0 a1 = X := ⟨_, rfl⟩
  have B_Y2_leave_30a : ∀ (S : Cst) (x1 : Int32) (H : Heap) (locs : List Loc) (ls_ : Array Slot), b_Y2_leave_30a S x0 x1 = X → q_Y2_leave_30a S x0 x1 → eK S0 S → va_P G vwCl (wsC K ad S) H → va_D A (wsC K ad S) → va_S A s.heap H locs → lv_has ls_ 2 [(0, .ref (ad x0)), (1, .int x1)] → W p l e ({ frames := 2, cells := 0, slots := 0, locals := 42 } : Room) s m #[Value.ref (ad x0), Value.int a1] below meth c H locs 0 0 Q (F0 m 30 ls_ []) := by
    intro S x1 H locs ls_ hE hp hZ hP hD hS hl
    unfold b_Y2_leave_30a at hE
    unfold q_Y2_leave_30a at hp
    refine lv_aload_n hx hb dX2_leave_30 rfl (lv_at hl 0 rfl) ?_
    refine va_get (D := G) (ci := 1) (v := .int (giC S x0 2)) (C := RX2) (T := TX2) (N := 8) hx hb hts iX2 hown hK hP x0 (at_1 (k_x0.e hZ)) rfl 2 (by decide) (hw (.fieldLink RX2 41 "MotionFloor$House" "present" "I") (List.mem_of_getElem? (i := 7) rfl)) (fun _ h9 => h9) rfl dX2_leave_31 ?_
    subst hQ
    exact W.iret (v := (giC S x0 2)) hx hb hr (fun t ht hW => ⟨⟨(giC S x0 2), S, rfl, ⟨hE.trans hX.symm, hZ⟩, by rw [ht]; exact hP, hD⟩, hS.F ht⟩) hS.2.2 dX2_leave_34
  have B_Y2_leave_25 : ∀ (S : Cst) (x1 : Int32) (H : Heap) (locs : List Loc) (ls_ : Array Slot), b_Y2_leave_25 S x0 x1 = X → q_Y2_leave_25 S x0 x1 → eK S0 S → va_P G vwCl (wsC K ad S) H → va_D A (wsC K ad S) → va_S A s.heap H locs → lv_has ls_ 2 [(0, .ref (ad x0)), (1, .int x1)] → W p l e ({ frames := 2, cells := 0, slots := 0, locals := 42 } : Room) s m #[Value.ref (ad x0), Value.int a1] below meth c H locs 0 0 Q (F0 m 25 ls_ []) := by
    intro S x1 H locs ls_ hE hp hZ hP hD hS hl
    unfold b_Y2_leave_25 at hE
    unfold q_Y2_leave_25 at hp
    refine lv_aload_n hx hb dX2_leave_25 rfl (lv_at hl 0 rfl) ?_
    refine lv_iload_n hx hb dX2_leave_26 rfl (lv_at hl 1 rfl) ?_
    obtain ⟨hy5, hp⟩ := hp
    refine cGov (va_runV (As := [.int x1]) (rest := []) ⟨hx, hb, hml, hown, hts⟩ (c_Y2_silence l G K ad S x0 x1 _) (cwV 1 hts (wGV t_ (mw (.methodLink RX2 60 yX2_silence) (List.mem_of_getElem? (i := 4) rfl)) (mw (.instanceMethod yX2_silence) (List.mem_of_getElem? (i := 5) rfl)) (mw (.selects RX2 yX2_silence yX2_silence) (List.mem_of_getElem? (i := 6) rfl)) (mw (.initialized RX2) (List.mem_of_getElem? (i := 3) rfl)) j_Y2_silence) rfl rfl rfl (by decide +kernel) ⟨Nat.le_of_ble_eq_true rfl, Nat.le_of_ble_eq_true rfl⟩) (cPV hK hTE hP hD 1 rfl (at_1 (k_x0.e hZ)) ⟨(k_x0.e hZ), hy5⟩) rfl rfl hl.1 rfl (lv_room (Nat.le_of_ble_eq_true rfl)) dX2_leave_27 ⟨Nat.le_of_ble_eq_true rfl, Nat.le_of_ble_eq_true rfl⟩) hP hD hS hA (fun u6 H locs hv hP hD hS => ?_)
    obtain ⟨hv, hz⟩ := hv
    have hZ := hZ.tr hz
    rw [← hv] at hE hp
    dsimp only at hE hp
    exact B_Y2_leave_30a u6 x1 _ _ _ hE hp hZ hP hD hS (lv_sub hl [0, 1] rfl)
  have B_M : ∀ (S : Cst) (x1 : Int32) (H : Heap) (locs : List Loc) (ls_ : Array Slot), f_Y2_leave S x0 x1 = X → p_Y2_leave S x0 x1 → eK S0 S → va_P G vwCl (wsC K ad S) H → va_D A (wsC K ad S) → va_S A s.heap H locs → lv_has ls_ 2 [(0, .ref (ad x0)), (1, .int x1)] → W p l e ({ frames := 2, cells := 0, slots := 0, locals := 42 } : Room) s m #[Value.ref (ad x0), Value.int a1] below meth c H locs 0 0 Q (F0 m 0 ls_ []) := by
    intro S x1 H locs ls_ hE hp hZ hP hD hS hl
    unfold f_Y2_leave at hE
    unfold p_Y2_leave at hp
    refine lv_aload_n hx hb dX2_leave_0 rfl (lv_at hl 0 rfl) ?_
    refine lv_iload_n hx hb dX2_leave_1 rfl (lv_at hl 1 rfl) ?_
    obtain ⟨hy1, hp⟩ := hp
    refine cGoi (va_runV (As := [.int x1]) (rest := []) ⟨hx, hb, hml, hown, hts⟩ (c_Y2_isThere l G K ad S x0 x1 _) (cwV 1 hts (wGV t_ (mw (.methodLink RX2 57 yX2_isThere) (List.mem_of_getElem? (i := 0) rfl)) (mw (.instanceMethod yX2_isThere) (List.mem_of_getElem? (i := 1) rfl)) (mw (.selects RX2 yX2_isThere yX2_isThere) (List.mem_of_getElem? (i := 2) rfl)) (mw (.initialized RX2) (List.mem_of_getElem? (i := 3) rfl)) j_Y2_isThere) rfl rfl rfl (by decide +kernel) ⟨Nat.le_of_ble_eq_true rfl, Nat.le_of_ble_eq_true rfl⟩) (cPV hK hTE hP hD 1 rfl (at_1 (k_x0.e hZ)) ⟨(k_x0.e hZ), hy1⟩) rfl rfl hl.1 rfl (lv_room (Nat.le_of_ble_eq_true rfl)) dX2_leave_2 ⟨Nat.le_of_ble_eq_true rfl, Nat.le_of_ble_eq_true rfl⟩) hP hD hS hA (fun r3 u2 H locs hv hP hD hS => ?_)
    have h1 := congrArg Prod.fst hv
    have h2 := (congrArg Prod.snd hv).symm
    dsimp only at h1 h2
    subst h1
    subst h2
    refine lv_if_eq (tgt := 25) hx hb dX2_leave_5 (by decide) (fun c4 => ?_) (fun c4 => ?_)
    · rw [if_pos c4] at hE hp
      exact B_Y2_leave_25 S x1 _ _ _ hE hp hZ hP hD hS (lv_sub hl [0, 1] rfl)
    · rw [if_neg c4] at hE hp
      refine lv_aload_n hx hb dX2_leave_8 rfl (lv_at hl 0 rfl) ?_
      refine va_get (D := G) (ci := 1) (v := va_re ad (grC S x0 1)) (C := RX2) (T := TX2) (N := 8) hx hb hts iX2 hown hK hP x0 (at_1 (k_x0.e hZ)) rfl 1 (by decide) (hw (.fieldLink RX2 9 "MotionFloor$House" "there" "[Z") (List.mem_of_getElem? (i := 8) rfl)) (fun _ h9 => h9) rfl dX2_leave_9 ?_
      refine lv_iload_n hx hb dX2_leave_12 rfl (lv_at hl 1 rfl) ?_
      refine lv_iconst (v := 0) hx hb dX2_leave_13 (by decide) ?_
      obtain ⟨hy8, hp⟩ := hp
      refine cTop3 (r := (grC S x0 1)) hy8.1 ?_
      obtain ⟨hy9, hp⟩ := hp
      refine va_zast hx hb hK hP hD hS ((grC S x0 1).getD 0) 1 (at_21 hy8.2) rfl hy9 dX2_leave_14 (fun H locs hP hD hS => ?_)
      rw [sa_21 hy8.2] at hP hD
      have hZ := hZ.tr (eK.si S ((grC S x0 1).getD 0) x1.toNatClampNeg (vp_nar .boolean (0 : Int32)))
      refine lv_aload_n hx hb dX2_leave_15 rfl (lv_at hl 0 rfl) ?_
      refine lv_dup hx hb dX2_leave_16 rfl ?_
      refine va_get (D := G) (ci := 1) (v := .int (giC (siC S ((grC S x0 1).getD 0) x1.toNatClampNeg (vp_nar .boolean (0 : Int32))) x0 2)) (C := RX2) (T := TX2) (N := 8) hx hb hts iX2 hown hK hP x0 (at_1 (k_x0.e hZ)) rfl 2 (by decide) (hw (.fieldLink RX2 41 "MotionFloor$House" "present" "I") (List.mem_of_getElem? (i := 7) rfl)) (fun _ h9 => h9) rfl dX2_leave_17 ?_
      refine lv_iconst (v := 1) hx hb dX2_leave_20 (by decide) ?_
      refine lv_isub hx hb dX2_leave_21 ?_
      refine va_put (D := G) (ci := 1) (v := .int ((giC (siC S ((grC S x0 1).getD 0) x1.toNatClampNeg (vp_nar .boolean (0 : Int32))) x0 2) - 1)) (ty := .int) (C := RX2) (T := TX2) (N := 8) hx hb hts iX2 tyX2 tyX2_ok nmX2 hown hK hP hD hS x0 (at_1 (k_x0.e hZ)) rfl 2 (by decide) (hw (.fieldLink RX2 41 "MotionFloor$House" "present" "I") (List.mem_of_getElem? (i := 7) rfl)) (fun _ h9 => h9) rfl (by decide +kernel) rfl rfl (Nat.le_of_ble_eq_true rfl) dX2_leave_22 (fun H locs hP hD hS => ?_)
      rw [st_1_2 (k_x0.e hZ)] at hP hD
      have hZ := hZ.tr (eK.si (siC S ((grC S x0 1).getD 0) x1.toNatClampNeg (vp_nar .boolean (0 : Int32))) x0 2 ((giC (siC S ((grC S x0 1).getD 0) x1.toNatClampNeg (vp_nar .boolean (0 : Int32))) x0 2) - 1))
      exact B_Y2_leave_25 (siC (siC S ((grC S x0 1).getD 0) x1.toNatClampNeg (vp_nar .boolean (0 : Int32))) x0 2 ((giC (siC S ((grC S x0 1).getD 0) x1.toNatClampNeg (vp_nar .boolean (0 : Int32))) x0 2) - 1)) x1 _ _ _ hE hp hZ hP hD hS (lv_sub hl [0, 1] rfl)
  exact B_M S0 a1 _ _ _ hX hp (eK.rf S0) hP hD hS hl
theorem dX1_perform_129 : decode cX1_perform 129 = .ok (.ireturn, 1) := by decide +kernel
theorem dX1_perform_130 : decode cX1_perform 130 = .ok (.aload_n 0, 1) := by decide +kernel
theorem dX1_perform_131 : decode cX1_perform 131 = .ok (.getfield 21, 3) := by decide +kernel
theorem dX1_perform_134 : decode cX1_perform 134 = .ok (.iload_n 2, 1) := by decide +kernel
theorem dX1_perform_135 : decode cX1_perform 135 = .ok (.putfield 34, 3) := by decide +kernel
theorem dX1_perform_138 : decode cX1_perform 138 = .ok (.iload_n 2, 1) := by decide +kernel
theorem dX1_perform_139 : decode cX1_perform 139 = .ok (.ireturn, 1) := by decide +kernel
theorem dX1_perform_140 : decode cX1_perform 140 = .ok (.aload_n 0, 1) := by decide +kernel
theorem dX1_perform_141 : decode cX1_perform 141 = .ok (.getfield 21, 3) := by decide +kernel
theorem dX1_perform_144 : decode cX1_perform 144 = .ok (.iload_n 2, 1) := by decide +kernel
theorem dX1_perform_145 : decode cX1_perform 145 = .ok (.invokevirtual 38, 3) := by decide +kernel
set_option maxRecDepth 100000 in
theorem zc312 : wZ (.code yX2_takeChair cX2_takeChair 2 (some .int)) := ⟨wT2 (List.mem_of_getElem? (i := 216) rfl), Or.inl rfl⟩
def b_Y2_takeChair_10a (S : Cst) (x0 : Nat) (x1 : Int32) : Int32 × Cst := (x1, S)
def q_Y2_takeChair_10a (S : Cst) (x0 : Nat) (x1 : Int32) : Prop := True
def f_Y2_takeChair (S : Cst) (x0 : Nat) (x1 : Int32) : Int32 × Cst := (b_Y2_takeChair_10a ((f_Y2_silence (siC S x0 3 x1) x0 x1).2) x0 x1)
def p_Y2_takeChair (S : Cst) (x0 : Nat) (x1 : Int32) : Prop := (p_Y2_silence (siC S x0 3 x1) x0 x1) ∧ (q_Y2_takeChair_10a ((f_Y2_silence (siC S x0 3 x1) x0 x1).2) x0 x1)
def e_Y2_takeChair : List Cond := [.fieldLink RX2 29 "MotionFloor$House" "chair" "I", .methodLink RX2 60 yX2_silence, .instanceMethod yX2_silence, .selects RX2 yX2_silence yX2_silence, .initialized RX2]
def v_Y2_takeChair : List Cond := .code yX2_takeChair cX2_takeChair 2 (some .int) :: (e_Y2_takeChair ++ (wsX20 ++ (v_Y2_silence ++ [])))
theorem te_Y2_takeChair : GoodIn lw_tbl e_Y2_takeChair := wGc zc81 (wGc zc309 (wGc zc308 (wGc zc307 (wGc zc77 (wG0)))))
theorem t_Y2_takeChair : GoodIn lw_tbl v_Y2_takeChair := wGc zc312 (wGa te_Y2_takeChair (wGa zcX2 (wGa t_Y2_silence (wG0))))
set_option maxHeartbeats 4000000 in
set_option maxRecDepth 100000 in
theorem c_Y2_takeChair (l : Launch) (G : va_G) (K : Nat → ClassId) (ad : Nat → Nat) (S0 : Cst) (x0 : Nat) (a1 : Int32) (sz : Nat) : Met l yX2_takeChair v_Y2_takeChair ({ frames := 2, cells := 0, slots := 0, locals := 42 }) (va_Pc [.ref (ad x0), .int a1] (cSt G K ad sz S0 (iK S0 x0 1 ∧ p_Y2_takeChair S0 x0 a1))) (va_Qi (fun (r : Int32) (u : Cst) => (r, u) = f_Y2_takeChair S0 x0 a1 ∧ eK S0 u) (cBt G K ad (va_A (wsC K ad S0) sz)) (va_A (wsC K ad S0) sz)) 0 0 (va_A (wsC K ad S0) sz) := by
  refine Met.ofW (cc := cX2_takeChair) (maxL := 2) (ret := (some .int)) (by decide) rfl ?_
  intro p e s m args below meth c s₁ B hml hv
  obtain ⟨rfl, ⟨hsz, hP, hK, hD0, hTE⟩, hp⟩ := hv
  obtain ⟨k_x0, hp⟩ := hp
  have hx := B.exec
  have hb := B.bytes
  have hr := B.returns
  have hts := atoms_spec (ws := v_Y2_takeChair) B.pre
  have t_ := t_Y2_takeChair
  have mw : ∀ w ∈ e_Y2_takeChair, w ∈ v_Y2_takeChair := fun w h => List.mem_cons_of_mem _ (List.mem_append_left _ h)
  have hw := fun w (h : w ∈ e_Y2_takeChair) => hts w (mw w h)
  have iX2 : ∀ w ∈ wsX20, w ∈ v_Y2_takeChair := fun w h => List.mem_cons_of_mem _ (List.mem_append_right _ (List.mem_append_left _ h))
  have j_Y2_silence : ∀ w ∈ v_Y2_silence, w ∈ v_Y2_takeChair := fun w h => List.mem_cons_of_mem _ (List.mem_append_right _ (List.mem_append_right _ (List.mem_append_left _ h)))
  have hown : s.vm.findClass RX2 = some m.cls := findClass_of_methodNamed B.named
  have hlocks := B.notSynchronized
  subst hsz
  have hD := hD0.self (sz := s.heap.size)
  generalize hAe : va_A (wsC K ad S0) s.heap.size = A at hD ⊢
  have hA : ∀ q : Nat, s.heap.size ≤ q → A q := fun q h => by rw [← hAe]; exact Or.inr h
  have hS : va_S A s.heap s.heap [] := va_S.rf
  have hl : lv_has (lg_sl ([.ref (ad x0), .int a1]) ++ List.replicate (2 - (lg_sl ([.ref (ad x0), .int a1])).length) Slot.unset).toArray 2 [(0, .ref (ad x0)), (1, .int a1)] := by
    exact lv_entry ([.ref (ad x0), .int a1]) (n := 2) (Nat.le_of_ble_eq_true rfl)
  rw [lg_entry_eq]
  generalize (lg_sl ([.ref (ad x0), .int a1]) ++ List.replicate (2 - (lg_sl ([.ref (ad x0), .int a1])).length) Slot.unset).toArray = ls_ at hl ⊢
  refine wGen (fun Q hQ => ?_)
  obtain ⟨X, hX⟩ : ∃ X, f_Y2_takeChair S0 x0 a1 = X := ⟨_, rfl⟩
  have B_Y2_takeChair_10a : ∀ (S : Cst) (x1 : Int32) (H : Heap) (locs : List Loc) (ls_ : Array Slot), b_Y2_takeChair_10a S x0 x1 = X → q_Y2_takeChair_10a S x0 x1 → eK S0 S → va_P G vwCl (wsC K ad S) H → va_D A (wsC K ad S) → va_S A s.heap H locs → lv_has ls_ 2 [(0, .ref (ad x0)), (1, .int x1)] → W p l e ({ frames := 2, cells := 0, slots := 0, locals := 42 } : Room) s m #[Value.ref (ad x0), Value.int a1] below meth c H locs 0 0 Q (F0 m 10 ls_ []) := by
    intro S x1 H locs ls_ hE hp hZ hP hD hS hl
    unfold b_Y2_takeChair_10a at hE
    unfold q_Y2_takeChair_10a at hp
    refine lv_iload_n hx hb dX2_takeChair_10 rfl (lv_at hl 1 rfl) ?_
    subst hQ
    exact W.iret (v := x1) hx hb hr (fun t ht hW => ⟨⟨x1, S, rfl, ⟨hE.trans hX.symm, hZ⟩, by rw [ht]; exact hP, hD⟩, hS.F ht⟩) hS.2.2 dX2_takeChair_11
  have B_M : ∀ (S : Cst) (x1 : Int32) (H : Heap) (locs : List Loc) (ls_ : Array Slot), f_Y2_takeChair S x0 x1 = X → p_Y2_takeChair S x0 x1 → eK S0 S → va_P G vwCl (wsC K ad S) H → va_D A (wsC K ad S) → va_S A s.heap H locs → lv_has ls_ 2 [(0, .ref (ad x0)), (1, .int x1)] → W p l e ({ frames := 2, cells := 0, slots := 0, locals := 42 } : Room) s m #[Value.ref (ad x0), Value.int a1] below meth c H locs 0 0 Q (F0 m 0 ls_ []) := by
    intro S x1 H locs ls_ hE hp hZ hP hD hS hl
    unfold f_Y2_takeChair at hE
    unfold p_Y2_takeChair at hp
    refine lv_aload_n hx hb dX2_takeChair_0 rfl (lv_at hl 0 rfl) ?_
    refine lv_iload_n hx hb dX2_takeChair_1 rfl (lv_at hl 1 rfl) ?_
    refine va_put (D := G) (ci := 1) (v := .int x1) (ty := .int) (C := RX2) (T := TX2) (N := 8) hx hb hts iX2 tyX2 tyX2_ok nmX2 hown hK hP hD hS x0 (at_1 (k_x0.e hZ)) rfl 3 (by decide) (hw (.fieldLink RX2 29 "MotionFloor$House" "chair" "I") (List.mem_of_getElem? (i := 0) rfl)) (fun _ h9 => h9) rfl (by decide +kernel) rfl rfl (Nat.le_of_ble_eq_true rfl) dX2_takeChair_2 (fun H locs hP hD hS => ?_)
    rw [st_1_3 (k_x0.e hZ)] at hP hD
    have hZ := hZ.tr (eK.si S x0 3 x1)
    refine lv_aload_n hx hb dX2_takeChair_5 rfl (lv_at hl 0 rfl) ?_
    refine lv_iload_n hx hb dX2_takeChair_6 rfl (lv_at hl 1 rfl) ?_
    obtain ⟨hy1, hp⟩ := hp
    refine cGov (va_runV (As := [.int x1]) (rest := []) ⟨hx, hb, hml, hown, hts⟩ (c_Y2_silence l G K ad (siC S x0 3 x1) x0 x1 _) (cwV 1 hts (wGV t_ (mw (.methodLink RX2 60 yX2_silence) (List.mem_of_getElem? (i := 1) rfl)) (mw (.instanceMethod yX2_silence) (List.mem_of_getElem? (i := 2) rfl)) (mw (.selects RX2 yX2_silence yX2_silence) (List.mem_of_getElem? (i := 3) rfl)) (mw (.initialized RX2) (List.mem_of_getElem? (i := 4) rfl)) j_Y2_silence) rfl rfl rfl (by decide +kernel) ⟨Nat.le_of_ble_eq_true rfl, Nat.le_of_ble_eq_true rfl⟩) (cPV hK hTE hP hD 1 rfl (at_1 (k_x0.e hZ)) ⟨(k_x0.e hZ), hy1⟩) rfl rfl hl.1 rfl (lv_room (Nat.le_of_ble_eq_true rfl)) dX2_takeChair_7 ⟨Nat.le_of_ble_eq_true rfl, Nat.le_of_ble_eq_true rfl⟩) hP hD hS hA (fun u2 H locs hv hP hD hS => ?_)
    obtain ⟨hv, hz⟩ := hv
    have hZ := hZ.tr hz
    rw [← hv] at hE hp
    dsimp only at hE hp
    exact B_Y2_takeChair_10a u2 x1 _ _ _ hE hp hZ hP hD hS (lv_sub hl [0, 1] rfl)
  exact B_M S0 a1 _ _ _ hX hp (eK.rf S0) hP hD hS hl
theorem dX1_perform_148 : decode cX1_perform 148 = .ok (.ireturn, 1) := by decide +kernel
theorem dX1_perform_149 : decode cX1_perform 149 = .ok (.aload_n 0, 1) := by decide +kernel
theorem dX1_perform_150 : decode cX1_perform 150 = .ok (.getfield 21, 3) := by decide +kernel
theorem dX1_perform_153 : decode cX1_perform 153 = .ok (.iload_n 2, 1) := by decide +kernel
theorem dX1_perform_154 : decode cX1_perform 154 = .ok (.iload_n 3, 1) := by decide +kernel
theorem dX1_perform_155 : decode cX1_perform 155 = .ok (.invokevirtual 41, 3) := by decide +kernel
set_option maxRecDepth 100000 in
theorem zc313 : wZ (.code yX2_replaceMajority cX2_replaceMajority 4 (some .int)) := ⟨wT2 (List.mem_of_getElem? (i := 220) rfl), Or.inl rfl⟩
def b_Y2_replaceMajority_14 (S : Cst) (x0 : Nat) (x1 : Int32) (x2 : Int32) : Int32 × Cst := ((0 : Int32), S)
def q_Y2_replaceMajority_14 (S : Cst) (x0 : Nat) (x1 : Int32) (x2 : Int32) : Prop := True
def f_Y2_replaceMajority (S : Cst) (x0 : Nat) (x1 : Int32) (x2 : Int32) : Int32 × Cst := if x1 < 1 then (b_Y2_replaceMajority_14 S x0 x1 x2) else if x1 < (Int32.ofNat (lnC S ((grC S x0 7).getD 0))) then ((giC S ((grC S x0 7).getD 0) x1.toNatClampNeg), (siC S ((grC S x0 7).getD 0) x1.toNatClampNeg x2)) else (b_Y2_replaceMajority_14 S x0 x1 x2)
def p_Y2_replaceMajority (S : Cst) (x0 : Nat) (x1 : Int32) (x2 : Int32) : Prop := (if x1 < 1 then (q_Y2_replaceMajority_14 S x0 x1 x2) else (iR S (grC S x0 7) 20) ∧ (if x1 < (Int32.ofNat (lnC S ((grC S x0 7).getD 0))) then (iR S (grC S x0 7) 20) ∧ (vp_in x1 (lnC S ((grC S x0 7).getD 0))) ∧ (iR S (grC S x0 7) 20) ∧ (vp_in x1 (lnC S ((grC S x0 7).getD 0))) ∧ True else (q_Y2_replaceMajority_14 S x0 x1 x2)))
def e_Y2_replaceMajority : List Cond := [.fieldLink RX2 15 "MotionFloor$House" "majorities" "[I"]
def v_Y2_replaceMajority : List Cond := .code yX2_replaceMajority cX2_replaceMajority 4 (some .int) :: (e_Y2_replaceMajority ++ (wsX20 ++ []))
theorem te_Y2_replaceMajority : GoodIn lw_tbl e_Y2_replaceMajority := wGc zc76 (wG0)
theorem t_Y2_replaceMajority : GoodIn lw_tbl v_Y2_replaceMajority := wGc zc313 (wGa te_Y2_replaceMajority (wGa zcX2 (wG0)))
set_option maxHeartbeats 4000000 in
set_option maxRecDepth 100000 in
theorem c_Y2_replaceMajority (l : Launch) (G : va_G) (K : Nat → ClassId) (ad : Nat → Nat) (S0 : Cst) (x0 : Nat) (a1 : Int32) (a2 : Int32) (sz : Nat) : Met l yX2_replaceMajority v_Y2_replaceMajority ({ frames := 0, cells := 0, slots := 0, locals := 0 }) (va_Pc [.ref (ad x0), .int a1, .int a2] (cSt G K ad sz S0 (iK S0 x0 1 ∧ p_Y2_replaceMajority S0 x0 a1 a2))) (va_Qi (fun (r : Int32) (u : Cst) => (r, u) = f_Y2_replaceMajority S0 x0 a1 a2 ∧ eK S0 u) (cBt G K ad (va_A (wsC K ad S0) sz)) (va_A (wsC K ad S0) sz)) 0 0 (va_A (wsC K ad S0) sz) := by
  refine Met.ofW (cc := cX2_replaceMajority) (maxL := 4) (ret := (some .int)) (by decide) rfl ?_
  intro p e s m args below meth c s₁ B hml hv
  obtain ⟨rfl, ⟨hsz, hP, hK, hD0, hTE⟩, hp⟩ := hv
  obtain ⟨k_x0, hp⟩ := hp
  have hx := B.exec
  have hb := B.bytes
  have hr := B.returns
  have hts := atoms_spec (ws := v_Y2_replaceMajority) B.pre
  have t_ := t_Y2_replaceMajority
  have mw : ∀ w ∈ e_Y2_replaceMajority, w ∈ v_Y2_replaceMajority := fun w h => List.mem_cons_of_mem _ (List.mem_append_left _ h)
  have hw := fun w (h : w ∈ e_Y2_replaceMajority) => hts w (mw w h)
  have iX2 : ∀ w ∈ wsX20, w ∈ v_Y2_replaceMajority := fun w h => List.mem_cons_of_mem _ (List.mem_append_right _ (List.mem_append_left _ h))
  have hown : s.vm.findClass RX2 = some m.cls := findClass_of_methodNamed B.named
  have hlocks := B.notSynchronized
  subst hsz
  have hD := hD0.self (sz := s.heap.size)
  generalize hAe : va_A (wsC K ad S0) s.heap.size = A at hD ⊢
  have hA : ∀ q : Nat, s.heap.size ≤ q → A q := fun q h => by rw [← hAe]; exact Or.inr h
  have hS : va_S A s.heap s.heap [] := va_S.rf
  have hl : lv_has (lg_sl ([.ref (ad x0), .int a1, .int a2]) ++ List.replicate (4 - (lg_sl ([.ref (ad x0), .int a1, .int a2])).length) Slot.unset).toArray 4 [(0, .ref (ad x0)), (1, .int a1), (2, .int a2)] := by
    exact lv_entry ([.ref (ad x0), .int a1, .int a2]) (n := 4) (Nat.le_of_ble_eq_true rfl)
  rw [lg_entry_eq]
  generalize (lg_sl ([.ref (ad x0), .int a1, .int a2]) ++ List.replicate (4 - (lg_sl ([.ref (ad x0), .int a1, .int a2])).length) Slot.unset).toArray = ls_ at hl ⊢
  refine wGen (fun Q hQ => ?_)
  obtain ⟨X, hX⟩ : ∃ X, f_Y2_replaceMajority S0 x0 a1 a2 = X := ⟨_, rfl⟩
  have B_Y2_replaceMajority_14 : ∀ (S : Cst) (x1 : Int32) (x2 : Int32) (H : Heap) (locs : List Loc) (ls_ : Array Slot), b_Y2_replaceMajority_14 S x0 x1 x2 = X → q_Y2_replaceMajority_14 S x0 x1 x2 → eK S0 S → va_P G vwCl (wsC K ad S) H → va_D A (wsC K ad S) → va_S A s.heap H locs → lv_has ls_ 4 [(0, .ref (ad x0)), (1, .int x1), (2, .int x2)] → W p l e ({ frames := 0, cells := 0, slots := 0, locals := 0 } : Room) s m #[Value.ref (ad x0), Value.int a1, Value.int a2] below meth c H locs 0 0 Q (F0 m 14 ls_ []) := by
    intro S x1 x2 H locs ls_ hE hp hZ hP hD hS hl
    unfold b_Y2_replaceMajority_14 at hE
    unfold q_Y2_replaceMajority_14 at hp
    refine lv_iconst (v := 0) hx hb dX2_replaceMajority_14 (by decide) ?_
    subst hQ
    exact W.iret (v := (0 : Int32)) hx hb hr (fun t ht hW => ⟨⟨(0 : Int32), S, rfl, ⟨hE.trans hX.symm, hZ⟩, by rw [ht]; exact hP, hD⟩, hS.F ht⟩) hS.2.2 dX2_replaceMajority_15
  have B_M : ∀ (S : Cst) (x1 : Int32) (x2 : Int32) (H : Heap) (locs : List Loc) (ls_ : Array Slot), f_Y2_replaceMajority S x0 x1 x2 = X → p_Y2_replaceMajority S x0 x1 x2 → eK S0 S → va_P G vwCl (wsC K ad S) H → va_D A (wsC K ad S) → va_S A s.heap H locs → lv_has ls_ 4 [(0, .ref (ad x0)), (1, .int x1), (2, .int x2)] → W p l e ({ frames := 0, cells := 0, slots := 0, locals := 0 } : Room) s m #[Value.ref (ad x0), Value.int a1, Value.int a2] below meth c H locs 0 0 Q (F0 m 0 ls_ []) := by
    intro S x1 x2 H locs ls_ hE hp hZ hP hD hS hl
    unfold f_Y2_replaceMajority at hE
    unfold p_Y2_replaceMajority at hp
    refine lv_iload_n hx hb dX2_replaceMajority_0 rfl (lv_at hl 1 rfl) ?_
    refine lv_iconst (v := 1) hx hb dX2_replaceMajority_1 (by decide) ?_
    refine lv_icmp_lt (tgt := 14) hx hb dX2_replaceMajority_2 (by decide) (fun c1 => ?_) (fun c1 => ?_)
    · rw [if_pos c1] at hE hp
      exact B_Y2_replaceMajority_14 S x1 x2 _ _ _ hE hp hZ hP hD hS (lv_sub hl [0, 1, 2] rfl)
    · rw [if_neg c1] at hE hp
      refine lv_iload_n hx hb dX2_replaceMajority_5 rfl (lv_at hl 1 rfl) ?_
      refine lv_aload_n hx hb dX2_replaceMajority_6 rfl (lv_at hl 0 rfl) ?_
      refine va_get (D := G) (ci := 1) (v := va_re ad (grC S x0 7)) (C := RX2) (T := TX2) (N := 8) hx hb hts iX2 hown hK hP x0 (at_1 (k_x0.e hZ)) rfl 7 (by decide) (hw (.fieldLink RX2 15 "MotionFloor$House" "majorities" "[I") (List.mem_of_getElem? (i := 0) rfl)) (fun _ h9 => h9) rfl dX2_replaceMajority_7 ?_
      obtain ⟨hy2, hp⟩ := hp
      refine cTop (r := (grC S x0 7)) hy2.1 ?_
      refine va_alen (v := (Int32.ofNat (lnC S ((grC S x0 7).getD 0)))) hx hb hK hP ((grC S x0 7).getD 0) 0 (at_20 hy2.2) rfl rfl dX2_replaceMajority_10 ?_
      refine lv_icmp_lt (tgt := 16) hx hb dX2_replaceMajority_11 (by decide) (fun c3 => ?_) (fun c3 => ?_)
      · rw [if_pos c3] at hE hp
        refine lv_aload_n hx hb dX2_replaceMajority_16 rfl (lv_at hl 0 rfl) ?_
        refine va_get (D := G) (ci := 1) (v := va_re ad (grC S x0 7)) (C := RX2) (T := TX2) (N := 8) hx hb hts iX2 hown hK hP x0 (at_1 (k_x0.e hZ)) rfl 7 (by decide) (hw (.fieldLink RX2 15 "MotionFloor$House" "majorities" "[I") (List.mem_of_getElem? (i := 0) rfl)) (fun _ h9 => h9) rfl dX2_replaceMajority_17 ?_
        refine lv_iload_n hx hb dX2_replaceMajority_20 rfl (lv_at hl 1 rfl) ?_
        obtain ⟨hy4, hp⟩ := hp
        refine cTop2 (r := (grC S x0 7)) hy4.1 ?_
        obtain ⟨hy5, hp⟩ := hp
        refine va_iald hx hb hK hP ((grC S x0 7).getD 0) 0 (at_20 hy4.2) rfl hy5 dX2_replaceMajority_21 ?_
        refine lv_istore_n (i := 3) (lv' := [(3, .int (giC S ((grC S x0 7).getD 0) x1.toNatClampNeg)), (0, .ref (ad x0)), (1, .int x1), (2, .int x2)]) hx hb dX2_replaceMajority_22 rfl hl (by decide) rfl (fun ls_ hl => ?_)
        refine lv_aload_n hx hb dX2_replaceMajority_23 rfl (lv_at hl 1 rfl) ?_
        refine va_get (D := G) (ci := 1) (v := va_re ad (grC S x0 7)) (C := RX2) (T := TX2) (N := 8) hx hb hts iX2 hown hK hP x0 (at_1 (k_x0.e hZ)) rfl 7 (by decide) (hw (.fieldLink RX2 15 "MotionFloor$House" "majorities" "[I") (List.mem_of_getElem? (i := 0) rfl)) (fun _ h9 => h9) rfl dX2_replaceMajority_24 ?_
        refine lv_iload_n hx hb dX2_replaceMajority_27 rfl (lv_at hl 2 rfl) ?_
        refine lv_iload_n hx hb dX2_replaceMajority_28 rfl (lv_at hl 3 rfl) ?_
        obtain ⟨hy6, hp⟩ := hp
        refine cTop3 (r := (grC S x0 7)) hy6.1 ?_
        obtain ⟨hy7, hp⟩ := hp
        refine va_iast hx hb hK hP hD hS ((grC S x0 7).getD 0) 0 (at_20 hy6.2) rfl hy7 dX2_replaceMajority_29 (fun H locs hP hD hS => ?_)
        rw [sa_20 hy6.2] at hP hD
        have hZ := hZ.tr (eK.si S ((grC S x0 7).getD 0) x1.toNatClampNeg x2)
        refine lv_iload_n hx hb dX2_replaceMajority_30 rfl (lv_at hl 0 rfl) ?_
        subst hQ
        exact W.iret (v := (giC S ((grC S x0 7).getD 0) x1.toNatClampNeg)) hx hb hr (fun t ht hW => ⟨⟨(giC S ((grC S x0 7).getD 0) x1.toNatClampNeg), (siC S ((grC S x0 7).getD 0) x1.toNatClampNeg x2), rfl, ⟨hE.trans hX.symm, hZ⟩, by rw [ht]; exact hP, hD⟩, hS.F ht⟩) hS.2.2 dX2_replaceMajority_31
      · rw [if_neg c3] at hE hp
        exact B_Y2_replaceMajority_14 S x1 x2 _ _ _ hE hp hZ hP hD hS (lv_sub hl [0, 1, 2] rfl)
  exact B_M S0 a1 a2 _ _ _ hX hp (eK.rf S0) hP hD hS hl
theorem dX1_giveFloor_0 : decode cX1_giveFloor 0 = .ok (.aload_n 0, 1) := by decide +kernel
theorem dX1_giveFloor_1 : decode cX1_giveFloor 1 = .ok (.iload_n 2, 1) := by decide +kernel
theorem dX1_giveFloor_2 : decode cX1_giveFloor 2 = .ok (.putfield 112, 3) := by decide +kernel
theorem dX1_giveFloor_5 : decode cX1_giveFloor 5 = .ok (.aload_n 1, 1) := by decide +kernel
theorem dX1_giveFloor_6 : decode cX1_giveFloor 6 = .ok (.ifnonnull 5, 3) := by decide +kernel
theorem dX1_giveFloor_9 : decode cX1_giveFloor 9 = .ok (.iconst 0, 1) := by decide +kernel
theorem dX1_giveFloor_10 : decode cX1_giveFloor 10 = .ok (.ireturn, 1) := by decide +kernel
theorem dX1_giveFloor_11 : decode cX1_giveFloor 11 = .ok (.aload_n 1, 1) := by decide +kernel
theorem dX1_giveFloor_12 : decode cX1_giveFloor 12 = .ok (.dup, 1) := by decide +kernel
theorem dX1_giveFloor_13 : decode cX1_giveFloor 13 = .ok (.getfield 115, 3) := by decide +kernel
theorem dX1_giveFloor_16 : decode cX1_giveFloor 16 = .ok (.iconst 1, 1) := by decide +kernel
theorem dX1_giveFloor_17 : decode cX1_giveFloor 17 = .ok (.iadd, 1) := by decide +kernel
theorem dX1_giveFloor_18 : decode cX1_giveFloor 18 = .ok (.putfield 115, 3) := by decide +kernel
theorem dX1_giveFloor_21 : decode cX1_giveFloor 21 = .ok (.aload_n 1, 1) := by decide +kernel
theorem dX1_giveFloor_22 : decode cX1_giveFloor 22 = .ok (.getfield 115, 3) := by decide +kernel
theorem dX1_giveFloor_25 : decode cX1_giveFloor 25 = .ok (.ireturn, 1) := by decide +kernel
theorem dX1_perform_158 : decode cX1_perform 158 = .ok (.ireturn, 1) := by decide +kernel
theorem dX1_perform_159 : decode cX1_perform 159 = .ok (.aload_n 0, 1) := by decide +kernel
theorem dX1_perform_160 : decode cX1_perform 160 = .ok (.getfield 21, 3) := by decide +kernel
theorem dX1_perform_163 : decode cX1_perform 163 = .ok (.iload_n 2, 1) := by decide +kernel
theorem dX1_perform_164 : decode cX1_perform 164 = .ok (.putfield 45, 3) := by decide +kernel
theorem dX1_perform_167 : decode cX1_perform 167 = .ok (.iload_n 2, 1) := by decide +kernel
theorem dX1_perform_168 : decode cX1_perform 168 = .ok (.ireturn, 1) := by decide +kernel
theorem dX1_perform_169 : decode cX1_perform 169 = .ok (.aload_n 0, 1) := by decide +kernel
theorem dX1_perform_170 : decode cX1_perform 170 = .ok (.getfield 21, 3) := by decide +kernel
theorem dX1_perform_173 : decode cX1_perform 173 = .ok (.aload 6, 2) := by decide +kernel
theorem dX1_perform_175 : decode cX1_perform 175 = .ok (.iload_n 2, 1) := by decide +kernel
theorem dX1_perform_176 : decode cX1_perform 176 = .ok (.invokestatic 48, 3) := by decide +kernel
set_option maxRecDepth 100000 in
theorem zc314 : wZ (.fieldLink RX1 115 "MotionFloor$Motion" "floors" "I") := ⟨wT3 (List.mem_of_getElem? (i := 28) (by decide +kernel)), Or.inl rfl⟩
set_option maxRecDepth 100000 in
theorem zc315 : wZ (.fieldLink RX1 112 "MotionFloor$House" "speaker" "I") := ⟨wT1 (List.mem_of_getElem? (i := 54) (by decide +kernel)), Or.inl rfl⟩
set_option maxRecDepth 100000 in
theorem zc316 : wZ (.code yX1_giveFloor cX1_giveFloor 3 (some .int)) := ⟨wT2 (List.mem_of_getElem? (i := 223) rfl), Or.inl rfl⟩
def f_Y1_giveFloor (S : Cst) (x0 : Nat) (x1 : Option Nat) (x2 : Int32) : Int32 × Cst := if x1 = none then ((0 : Int32), (siC S x0 6 x2)) else ((giC (siC (siC S x0 6 x2) (x1.getD 0) 5 ((giC (siC S x0 6 x2) (x1.getD 0) 5) + 1)) (x1.getD 0) 5), (siC (siC S x0 6 x2) (x1.getD 0) 5 ((giC (siC S x0 6 x2) (x1.getD 0) 5) + 1)))
def p_Y1_giveFloor (S : Cst) (x0 : Nat) (x1 : Option Nat) (x2 : Int32) : Prop := (if x1 = none then True else (iR (siC S x0 6 x2) x1 3) ∧ (iR (siC S x0 6 x2) x1 3) ∧ (iR (siC (siC S x0 6 x2) (x1.getD 0) 5 ((giC (siC S x0 6 x2) (x1.getD 0) 5) + 1)) x1 3) ∧ True)
def e_Y1_giveFloor : List Cond := [.fieldLink RX1 112 "MotionFloor$House" "speaker" "I", .fieldLink RX1 115 "MotionFloor$Motion" "floors" "I"]
def v_Y1_giveFloor : List Cond := .code yX1_giveFloor cX1_giveFloor 3 (some .int) :: (e_Y1_giveFloor ++ (wsX20 ++ (wsX40 ++ [])))
theorem te_Y1_giveFloor : GoodIn lw_tbl e_Y1_giveFloor := wGc zc315 (wGc zc314 (wG0))
theorem t_Y1_giveFloor : GoodIn lw_tbl v_Y1_giveFloor := wGc zc316 (wGa te_Y1_giveFloor (wGa zcX2 (wGa zcX4 (wG0))))
set_option maxHeartbeats 4000000 in
set_option maxRecDepth 100000 in
theorem c_Y1_giveFloor (l : Launch) (G : va_G) (K : Nat → ClassId) (ad : Nat → Nat) (S0 : Cst) (x0 : Nat) (a1 : Option Nat) (a2 : Int32) (sz : Nat) : Met l yX1_giveFloor v_Y1_giveFloor ({ frames := 0, cells := 0, slots := 0, locals := 0 }) (va_Pc [.ref (ad x0), va_re ad a1, .int a2] (cSt G K ad sz S0 (iK S0 x0 1 ∧ p_Y1_giveFloor S0 x0 a1 a2))) (va_Qi (fun (r : Int32) (u : Cst) => (r, u) = f_Y1_giveFloor S0 x0 a1 a2 ∧ eK S0 u) (cBt G K ad (va_A (wsC K ad S0) sz)) (va_A (wsC K ad S0) sz)) 0 0 (va_A (wsC K ad S0) sz) := by
  refine Met.ofW (cc := cX1_giveFloor) (maxL := 3) (ret := (some .int)) (by decide) rfl ?_
  intro p e s m args below meth c s₁ B hml hv
  obtain ⟨rfl, ⟨hsz, hP, hK, hD0, hTE⟩, hp⟩ := hv
  obtain ⟨k_x0, hp⟩ := hp
  have hx := B.exec
  have hb := B.bytes
  have hr := B.returns
  have hts := atoms_spec (ws := v_Y1_giveFloor) B.pre
  have t_ := t_Y1_giveFloor
  have mw : ∀ w ∈ e_Y1_giveFloor, w ∈ v_Y1_giveFloor := fun w h => List.mem_cons_of_mem _ (List.mem_append_left _ h)
  have hw := fun w (h : w ∈ e_Y1_giveFloor) => hts w (mw w h)
  have iX2 : ∀ w ∈ wsX20, w ∈ v_Y1_giveFloor := fun w h => List.mem_cons_of_mem _ (List.mem_append_right _ (List.mem_append_left _ h))
  have iX4 : ∀ w ∈ wsX40, w ∈ v_Y1_giveFloor := fun w h => List.mem_cons_of_mem _ (List.mem_append_right _ (List.mem_append_right _ (List.mem_append_left _ h)))
  have hown : s.vm.findClass RX1 = some m.cls := findClass_of_methodNamed B.named
  have hlocks := B.notSynchronized
  subst hsz
  have hD := hD0.self (sz := s.heap.size)
  generalize hAe : va_A (wsC K ad S0) s.heap.size = A at hD ⊢
  have hA : ∀ q : Nat, s.heap.size ≤ q → A q := fun q h => by rw [← hAe]; exact Or.inr h
  have hS : va_S A s.heap s.heap [] := va_S.rf
  have hl : lv_has (lg_sl ([.ref (ad x0), va_re ad a1, .int a2]) ++ List.replicate (3 - (lg_sl ([.ref (ad x0), va_re ad a1, .int a2])).length) Slot.unset).toArray 3 [(0, .ref (ad x0)), (1, va_re ad a1), (2, .int a2)] := by
    cases a1 <;> exact lv_entry _ (n := 3) (Nat.le_of_ble_eq_true rfl)
  rw [lg_entry_eq]
  generalize (lg_sl ([.ref (ad x0), va_re ad a1, .int a2]) ++ List.replicate (3 - (lg_sl ([.ref (ad x0), va_re ad a1, .int a2])).length) Slot.unset).toArray = ls_ at hl ⊢
  refine wGen (fun Q hQ => ?_)
  obtain ⟨X, hX⟩ : ∃ X, f_Y1_giveFloor S0 x0 a1 a2 = X := ⟨_, rfl⟩
  have B_M : ∀ (S : Cst) (x1 : Option Nat) (x2 : Int32) (H : Heap) (locs : List Loc) (ls_ : Array Slot), f_Y1_giveFloor S x0 x1 x2 = X → p_Y1_giveFloor S x0 x1 x2 → eK S0 S → va_P G vwCl (wsC K ad S) H → va_D A (wsC K ad S) → va_S A s.heap H locs → lv_has ls_ 3 [(0, .ref (ad x0)), (1, va_re ad x1), (2, .int x2)] → W p l e ({ frames := 0, cells := 0, slots := 0, locals := 0 } : Room) s m #[Value.ref (ad x0), va_re ad a1, Value.int a2] below meth c H locs 0 0 Q (F0 m 0 ls_ []) := by
    intro S x1 x2 H locs ls_ hE hp hZ hP hD hS hl
    unfold f_Y1_giveFloor at hE
    unfold p_Y1_giveFloor at hp
    refine lv_aload_n hx hb dX1_giveFloor_0 rfl (lv_at hl 0 rfl) ?_
    refine lv_iload_n hx hb dX1_giveFloor_1 rfl (lv_at hl 2 rfl) ?_
    refine va_put (D := G) (ci := 1) (v := .int x2) (ty := .int) (C := RX2) (T := TX2) (N := 8) hx hb hts iX2 tyX2 tyX2_ok nmX2 hown hK hP hD hS x0 (at_1 (k_x0.e hZ)) rfl 6 (by decide) (hw (.fieldLink RX1 112 "MotionFloor$House" "speaker" "I") (List.mem_of_getElem? (i := 0) rfl)) (fun _ h9 => h9) rfl (by decide +kernel) rfl rfl (Nat.le_of_ble_eq_true rfl) dX1_giveFloor_2 (fun H locs hP hD hS => ?_)
    rw [st_1_6 (k_x0.e hZ)] at hP hD
    have hZ := hZ.tr (eK.si S x0 6 x2)
    refine cAload_n (ad := ad) (r := x1) hx hb dX1_giveFloor_5 rfl (lv_at hl 1 rfl) ?_
    refine cIfnonnull (ad := ad) (r := x1) (tgt := 11) hx hb dX1_giveFloor_6 (by decide) (fun c1 => ?_) (fun c1 => ?_)
    · rw [if_pos c1] at hE hp
      refine lv_iconst (v := 0) hx hb dX1_giveFloor_9 (by decide) ?_
      subst hQ
      exact W.iret (v := (0 : Int32)) hx hb hr (fun t ht hW => ⟨⟨(0 : Int32), (siC S x0 6 x2), rfl, ⟨hE.trans hX.symm, hZ⟩, by rw [ht]; exact hP, hD⟩, hS.F ht⟩) hS.2.2 dX1_giveFloor_10
    · rw [if_neg c1] at hE hp
      refine cAload_n (ad := ad) (r := x1) hx hb dX1_giveFloor_11 rfl (lv_at hl 1 rfl) ?_
      refine lv_dup hx hb dX1_giveFloor_12 (re_cat ad _) ?_
      obtain ⟨hy2, hp⟩ := hp
      refine cTop (r := x1) hy2.1 ?_
      refine va_get (D := G) (ci := 3) (v := .int (giC (siC S x0 6 x2) (x1.getD 0) 5)) (C := RX4) (T := TX4) (N := 16) hx hb hts iX4 hown hK hP (x1.getD 0) (at_3 hy2.2) rfl 5 (by decide) (hw (.fieldLink RX1 115 "MotionFloor$Motion" "floors" "I") (List.mem_of_getElem? (i := 1) rfl)) (fun _ h9 => h9) rfl dX1_giveFloor_13 ?_
      refine lv_iconst (v := 1) hx hb dX1_giveFloor_16 (by decide) ?_
      refine lv_iadd hx hb dX1_giveFloor_17 ?_
      obtain ⟨hy3, hp⟩ := hp
      refine cTop2 (r := x1) hy3.1 ?_
      refine va_put (D := G) (ci := 3) (v := .int ((giC (siC S x0 6 x2) (x1.getD 0) 5) + 1)) (ty := .int) (C := RX4) (T := TX4) (N := 16) hx hb hts iX4 tyX4 tyX4_ok nmX4 hown hK hP hD hS (x1.getD 0) (at_3 hy3.2) rfl 5 (by decide) (hw (.fieldLink RX1 115 "MotionFloor$Motion" "floors" "I") (List.mem_of_getElem? (i := 1) rfl)) (fun _ h9 => h9) rfl (by decide +kernel) rfl rfl (Nat.le_of_ble_eq_true rfl) dX1_giveFloor_18 (fun H locs hP hD hS => ?_)
      rw [st_3_5 hy3.2] at hP hD
      have hZ := hZ.tr (eK.si (siC S x0 6 x2) (x1.getD 0) 5 ((giC (siC S x0 6 x2) (x1.getD 0) 5) + 1))
      refine cAload_n (ad := ad) (r := x1) hx hb dX1_giveFloor_21 rfl (lv_at hl 1 rfl) ?_
      obtain ⟨hy4, hp⟩ := hp
      refine cTop (r := x1) hy4.1 ?_
      refine va_get (D := G) (ci := 3) (v := .int (giC (siC (siC S x0 6 x2) (x1.getD 0) 5 ((giC (siC S x0 6 x2) (x1.getD 0) 5) + 1)) (x1.getD 0) 5)) (C := RX4) (T := TX4) (N := 16) hx hb hts iX4 hown hK hP (x1.getD 0) (at_3 hy4.2) rfl 5 (by decide) (hw (.fieldLink RX1 115 "MotionFloor$Motion" "floors" "I") (List.mem_of_getElem? (i := 1) rfl)) (fun _ h9 => h9) rfl dX1_giveFloor_22 ?_
      subst hQ
      exact W.iret (v := (giC (siC (siC S x0 6 x2) (x1.getD 0) 5 ((giC (siC S x0 6 x2) (x1.getD 0) 5) + 1)) (x1.getD 0) 5)) hx hb hr (fun t ht hW => ⟨⟨(giC (siC (siC S x0 6 x2) (x1.getD 0) 5 ((giC (siC S x0 6 x2) (x1.getD 0) 5) + 1)) (x1.getD 0) 5), (siC (siC S x0 6 x2) (x1.getD 0) 5 ((giC (siC S x0 6 x2) (x1.getD 0) 5) + 1)), rfl, ⟨hE.trans hX.symm, hZ⟩, by rw [ht]; exact hP, hD⟩, hS.F ht⟩) hS.2.2 dX1_giveFloor_25
  exact B_M S0 a1 a2 _ _ _ hX hp (eK.rf S0) hP hD hS hl
