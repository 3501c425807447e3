theorem gdX0_become_0 : ckS (List.drop 0 cX0_become.data.toList) 0 [(0, .aload_n 0, 1), (1, .invokevirtual 59, 3), (4, .aload_n 0, 1), (5, .getfield 12, 3), (8, .aload_n 1, 1), (9, .getfield 12, 3), (12, .invokevirtual 76, 3), (15, .aload_n 0, 1), (16, .aload_n 1, 1), (17, .getfield 21, 3), (20, .aload_n 0, 1), (21, .getfield 21, 3), (24, .invokevirtual 80, 3), (27, .aload_n 0, 1), (28, .getfield 28, 3), (31, .aload_n 1, 1), (32, .getfield 28, 3), (35, .getfield 84, 3), (38, .putfield 84, 3), (41, .aload_n 0, 1), (42, .aload_n 1, 1), (43, .getfield 28, 3), (46, .getfield 87, 3), (49, .aload_n 0, 1), (50, .getfield 28, 3), (53, .getfield 87, 3), (56, .invokevirtual 80, 3), (59, .iconst 0, 1), (60, .istore_n 2, 1), (61, .iload_n 2, 1), (62, .bipush 8, 2), (64, .if_icmp .ge 49, 3), (113, .aload_n 0, 1), (114, .getfield 41, 3), (117, .aload_n 1, 1), (118, .getfield 41, 3), (121, .invokevirtual 90, 3)] = true := by decide +kernel
theorem dX0_become_0 : decode cX0_become 0 = .ok (.aload_n 0, 1) := ckS_g gdX0_become_0 0 rfl
theorem dX0_become_1 : decode cX0_become 1 = .ok (.invokevirtual 59, 3) := ckS_g gdX0_become_0 1 rfl
theorem dX0_become_4 : decode cX0_become 4 = .ok (.aload_n 0, 1) := ckS_g gdX0_become_0 2 rfl
theorem dX0_become_5 : decode cX0_become 5 = .ok (.getfield 12, 3) := ckS_g gdX0_become_0 3 rfl
theorem dX0_become_8 : decode cX0_become 8 = .ok (.aload_n 1, 1) := ckS_g gdX0_become_0 4 rfl
theorem dX0_become_9 : decode cX0_become 9 = .ok (.getfield 12, 3) := ckS_g gdX0_become_0 5 rfl
theorem dX0_become_12 : decode cX0_become 12 = .ok (.invokevirtual 76, 3) := ckS_g gdX0_become_0 6 rfl
theorem dX0_become_15 : decode cX0_become 15 = .ok (.aload_n 0, 1) := ckS_g gdX0_become_0 7 rfl
theorem dX0_become_16 : decode cX0_become 16 = .ok (.aload_n 1, 1) := ckS_g gdX0_become_0 8 rfl
theorem dX0_become_17 : decode cX0_become 17 = .ok (.getfield 21, 3) := ckS_g gdX0_become_0 9 rfl
theorem dX0_become_20 : decode cX0_become 20 = .ok (.aload_n 0, 1) := ckS_g gdX0_become_0 10 rfl
theorem dX0_become_21 : decode cX0_become 21 = .ok (.getfield 21, 3) := ckS_g gdX0_become_0 11 rfl
theorem dX0_become_24 : decode cX0_become 24 = .ok (.invokevirtual 80, 3) := ckS_g gdX0_become_0 12 rfl
theorem dX0_become_27 : decode cX0_become 27 = .ok (.aload_n 0, 1) := ckS_g gdX0_become_0 13 rfl
theorem dX0_become_28 : decode cX0_become 28 = .ok (.getfield 28, 3) := ckS_g gdX0_become_0 14 rfl
theorem dX0_become_31 : decode cX0_become 31 = .ok (.aload_n 1, 1) := ckS_g gdX0_become_0 15 rfl
theorem dX0_become_32 : decode cX0_become 32 = .ok (.getfield 28, 3) := ckS_g gdX0_become_0 16 rfl
theorem dX0_become_35 : decode cX0_become 35 = .ok (.getfield 84, 3) := ckS_g gdX0_become_0 17 rfl
theorem dX0_become_38 : decode cX0_become 38 = .ok (.putfield 84, 3) := ckS_g gdX0_become_0 18 rfl
theorem dX0_become_41 : decode cX0_become 41 = .ok (.aload_n 0, 1) := ckS_g gdX0_become_0 19 rfl
theorem dX0_become_42 : decode cX0_become 42 = .ok (.aload_n 1, 1) := ckS_g gdX0_become_0 20 rfl
theorem dX0_become_43 : decode cX0_become 43 = .ok (.getfield 28, 3) := ckS_g gdX0_become_0 21 rfl
theorem dX0_become_46 : decode cX0_become 46 = .ok (.getfield 87, 3) := ckS_g gdX0_become_0 22 rfl
theorem dX0_become_49 : decode cX0_become 49 = .ok (.aload_n 0, 1) := ckS_g gdX0_become_0 23 rfl
theorem dX0_become_50 : decode cX0_become 50 = .ok (.getfield 28, 3) := ckS_g gdX0_become_0 24 rfl
theorem dX0_become_53 : decode cX0_become 53 = .ok (.getfield 87, 3) := ckS_g gdX0_become_0 25 rfl
theorem dX0_become_56 : decode cX0_become 56 = .ok (.invokevirtual 80, 3) := ckS_g gdX0_become_0 26 rfl
theorem dX0_become_59 : decode cX0_become 59 = .ok (.iconst 0, 1) := ckS_g gdX0_become_0 27 rfl
theorem dX0_become_60 : decode cX0_become 60 = .ok (.istore_n 2, 1) := ckS_g gdX0_become_0 28 rfl
theorem dX0_become_61 : decode cX0_become 61 = .ok (.iload_n 2, 1) := ckS_g gdX0_become_0 29 rfl
theorem dX0_become_62 : decode cX0_become 62 = .ok (.bipush 8, 2) := ckS_g gdX0_become_0 30 rfl
theorem dX0_become_64 : decode cX0_become 64 = .ok (.if_icmp .ge 49, 3) := ckS_g gdX0_become_0 31 rfl
theorem dX0_become_113 : decode cX0_become 113 = .ok (.aload_n 0, 1) := ckS_g gdX0_become_0 32 rfl
theorem dX0_become_114 : decode cX0_become 114 = .ok (.getfield 41, 3) := ckS_g gdX0_become_0 33 rfl
theorem dX0_become_117 : decode cX0_become 117 = .ok (.aload_n 1, 1) := ckS_g gdX0_become_0 34 rfl
theorem dX0_become_118 : decode cX0_become 118 = .ok (.getfield 41, 3) := ckS_g gdX0_become_0 35 rfl
theorem dX0_become_121 : decode cX0_become 121 = .ok (.invokevirtual 90, 3) := ckS_g gdX0_become_0 36 rfl
theorem gdX3_become_0 : ckS (List.drop 0 cX3_become.data.toList) 0 [(0, .aload_n 1, 1), (1, .getfield 28, 3), (4, .aload_n 0, 1), (5, .getfield 21, 3), (8, .invokestatic 39, 3), (11, .istore_n 2, 1), (12, .aload_n 0, 1), (13, .iload_n 2, 1), (14, .invokevirtual 35, 3), (17, .iload_n 2, 1), (18, .aload_n 0, 1), (19, .getfield 15, 3), (22, .imul, 1), (23, .aload_n 0, 1), (24, .getfield 24, 3), (27, .arraylength, 1), (28, .if_icmp .gt 36, 3), (31, .iload_n 2, 1), (32, .aload_n 0, 1), (33, .getfield 15, 3), (36, .imul, 1), (37, .aload_n 1, 1), (38, .getfield 24, 3), (41, .arraylength, 1), (42, .if_icmp .gt 22, 3), (45, .aload_n 1, 1), (46, .getfield 24, 3), (49, .iconst 0, 1), (50, .aload_n 0, 1), (51, .getfield 24, 3), (54, .iconst 0, 1), (55, .iload_n 2, 1), (56, .aload_n 0, 1), (57, .getfield 15, 3), (60, .imul, 1), (61, .invokestatic 42, 3), (64, .aload_n 0, 1), (65, .iload_n 2, 1), (66, .putfield 28, 3), (69, .return_, 1)] = true := by decide +kernel
theorem dX3_become_0 : decode cX3_become 0 = .ok (.aload_n 1, 1) := ckS_g gdX3_become_0 0 rfl
theorem dX3_become_1 : decode cX3_become 1 = .ok (.getfield 28, 3) := ckS_g gdX3_become_0 1 rfl
theorem dX3_become_4 : decode cX3_become 4 = .ok (.aload_n 0, 1) := ckS_g gdX3_become_0 2 rfl
theorem dX3_become_5 : decode cX3_become 5 = .ok (.getfield 21, 3) := ckS_g gdX3_become_0 3 rfl
theorem dX3_become_8 : decode cX3_become 8 = .ok (.invokestatic 39, 3) := ckS_g gdX3_become_0 4 rfl
theorem dX3_become_11 : decode cX3_become 11 = .ok (.istore_n 2, 1) := ckS_g gdX3_become_0 5 rfl
theorem dX3_become_12 : decode cX3_become 12 = .ok (.aload_n 0, 1) := ckS_g gdX3_become_0 6 rfl
theorem dX3_become_13 : decode cX3_become 13 = .ok (.iload_n 2, 1) := ckS_g gdX3_become_0 7 rfl
theorem dX3_become_14 : decode cX3_become 14 = .ok (.invokevirtual 35, 3) := ckS_g gdX3_become_0 8 rfl
theorem dX3_become_17 : decode cX3_become 17 = .ok (.iload_n 2, 1) := ckS_g gdX3_become_0 9 rfl
theorem dX3_become_18 : decode cX3_become 18 = .ok (.aload_n 0, 1) := ckS_g gdX3_become_0 10 rfl
theorem dX3_become_19 : decode cX3_become 19 = .ok (.getfield 15, 3) := ckS_g gdX3_become_0 11 rfl
theorem dX3_become_22 : decode cX3_become 22 = .ok (.imul, 1) := ckS_g gdX3_become_0 12 rfl
theorem dX3_become_23 : decode cX3_become 23 = .ok (.aload_n 0, 1) := ckS_g gdX3_become_0 13 rfl
theorem dX3_become_24 : decode cX3_become 24 = .ok (.getfield 24, 3) := ckS_g gdX3_become_0 14 rfl
theorem dX3_become_27 : decode cX3_become 27 = .ok (.arraylength, 1) := ckS_g gdX3_become_0 15 rfl
theorem dX3_become_28 : decode cX3_become 28 = .ok (.if_icmp .gt 36, 3) := ckS_g gdX3_become_0 16 rfl
theorem dX3_become_31 : decode cX3_become 31 = .ok (.iload_n 2, 1) := ckS_g gdX3_become_0 17 rfl
theorem dX3_become_32 : decode cX3_become 32 = .ok (.aload_n 0, 1) := ckS_g gdX3_become_0 18 rfl
theorem dX3_become_33 : decode cX3_become 33 = .ok (.getfield 15, 3) := ckS_g gdX3_become_0 19 rfl
theorem dX3_become_36 : decode cX3_become 36 = .ok (.imul, 1) := ckS_g gdX3_become_0 20 rfl
theorem dX3_become_37 : decode cX3_become 37 = .ok (.aload_n 1, 1) := ckS_g gdX3_become_0 21 rfl
theorem dX3_become_38 : decode cX3_become 38 = .ok (.getfield 24, 3) := ckS_g gdX3_become_0 22 rfl
theorem dX3_become_41 : decode cX3_become 41 = .ok (.arraylength, 1) := ckS_g gdX3_become_0 23 rfl
theorem dX3_become_42 : decode cX3_become 42 = .ok (.if_icmp .gt 22, 3) := ckS_g gdX3_become_0 24 rfl
theorem dX3_become_45 : decode cX3_become 45 = .ok (.aload_n 1, 1) := ckS_g gdX3_become_0 25 rfl
theorem dX3_become_46 : decode cX3_become 46 = .ok (.getfield 24, 3) := ckS_g gdX3_become_0 26 rfl
theorem dX3_become_49 : decode cX3_become 49 = .ok (.iconst 0, 1) := ckS_g gdX3_become_0 27 rfl
theorem dX3_become_50 : decode cX3_become 50 = .ok (.aload_n 0, 1) := ckS_g gdX3_become_0 28 rfl
theorem dX3_become_51 : decode cX3_become 51 = .ok (.getfield 24, 3) := ckS_g gdX3_become_0 29 rfl
theorem dX3_become_54 : decode cX3_become 54 = .ok (.iconst 0, 1) := ckS_g gdX3_become_0 30 rfl
theorem dX3_become_55 : decode cX3_become 55 = .ok (.iload_n 2, 1) := ckS_g gdX3_become_0 31 rfl
theorem dX3_become_56 : decode cX3_become 56 = .ok (.aload_n 0, 1) := ckS_g gdX3_become_0 32 rfl
theorem dX3_become_57 : decode cX3_become 57 = .ok (.getfield 15, 3) := ckS_g gdX3_become_0 33 rfl
theorem dX3_become_60 : decode cX3_become 60 = .ok (.imul, 1) := ckS_g gdX3_become_0 34 rfl
theorem dX3_become_61 : decode cX3_become 61 = .ok (.invokestatic 42, 3) := ckS_g gdX3_become_0 35 rfl
theorem dX3_become_64 : decode cX3_become 64 = .ok (.aload_n 0, 1) := ckS_g gdX3_become_0 36 rfl
theorem dX3_become_65 : decode cX3_become 65 = .ok (.iload_n 2, 1) := ckS_g gdX3_become_0 37 rfl
theorem dX3_become_66 : decode cX3_become 66 = .ok (.putfield 28, 3) := ckS_g gdX3_become_0 38 rfl
theorem dX3_become_69 : decode cX3_become 69 = .ok (.return_, 1) := ckS_g gdX3_become_0 39 rfl
set_option maxRecDepth 100000 in
theorem zc606 : wZ (.methodLink RX3 42 arraycopyName) := ⟨wT5 (List.mem_of_getElem? (i := 15) (by decide +kernel)), Or.inl rfl⟩
set_option maxRecDepth 100000 in
theorem zc607 : wZ (.code yX3_become cX3_become 3 none) := ⟨wT5 (List.mem_of_getElem? (i := 14) rfl), Or.inl rfl⟩
def b_Y3_become_64 (S : Cst) (x0 : Nat) (x1 : Nat) (x2 : Int32) : Int32 × Cst := (0, (siC S x0 3 x2))
def q_Y3_become_64 (S : Cst) (x0 : Nat) (x1 : Nat) (lc : Nat) (ls : Nat) (x2 : Int32) : Prop := True
def b_Y3_become_17a (S : Cst) (x0 : Nat) (x1 : Nat) (x2 : Int32) : Int32 × Cst := if (Int32.ofNat (lnC S ((grC S x0 2).getD 0))) < (x2 * (giC S x0 0)) then (b_Y3_become_64 S x0 x1 x2) else if (Int32.ofNat (lnC S ((grC S x1 2).getD 0))) < (x2 * (giC S x0 0)) then (b_Y3_become_64 S x0 x1 x2) else (b_Y3_become_64 (sfC S ((grC S x0 2).getD 0) (va_cpy (giC S ((grC S x1 2).getD 0)) (giC S ((grC S x0 2).getD 0)) (0 : Int32).toNatClampNeg (0 : Int32).toNatClampNeg (x2 * (giC S x0 0)).toNatClampNeg)) x0 x1 x2)
def q_Y3_become_17a (S : Cst) (x0 : Nat) (x1 : Nat) (lc : Nat) (ls : Nat) (x2 : Int32) : Prop := (iR S (grC S x0 2) 20) ∧ (if (Int32.ofNat (lnC S ((grC S x0 2).getD 0))) < (x2 * (giC S x0 0)) then (q_Y3_become_64 S x0 x1 lc ls x2) else (iR S (grC S x1 2) 20) ∧ (if (Int32.ofNat (lnC S ((grC S x1 2).getD 0))) < (x2 * (giC S x0 0)) then (q_Y3_become_64 S x0 x1 lc ls x2) else (iR S (grC S x1 2) 20) ∧ (iR S (grC S x0 2) 20) ∧ ((¬ (0 : Int32) < 0 ∧ ¬ (0 : Int32) < 0 ∧ ¬ (x2 * (giC S x0 0)) < 0) ∧ (0 : Int32).toNatClampNeg + (x2 * (giC S x0 0)).toNatClampNeg ≤ lnC S ((grC S x1 2).getD 0) ∧ (0 : Int32).toNatClampNeg + (x2 * (giC S x0 0)).toNatClampNeg ≤ lnC S ((grC S x0 2).getD 0)) ∧ (q_Y3_become_64 (sfC S ((grC S x0 2).getD 0) (va_cpy (giC S ((grC S x1 2).getD 0)) (giC S ((grC S x0 2).getD 0)) (0 : Int32).toNatClampNeg (0 : Int32).toNatClampNeg (x2 * (giC S x0 0)).toNatClampNeg)) x0 x1 lc ls x2)))
def f_Y3_become (S : Cst) (x0 : Nat) (x1 : Nat) : Int32 × Cst := (b_Y3_become_17a ((f_Y3_makeRoom S x0 (if (giC S x0 1) < (giC S x1 3) then (giC S x0 1) else (giC S x1 3))).2) x0 x1 (if (giC S x0 1) < (giC S x1 3) then (giC S x0 1) else (giC S x1 3)))
def p_Y3_become (S : Cst) (x0 : Nat) (x1 : Nat) (lc : Nat) (ls : Nat) : Prop := ((S.1 ≤ (f_Y3_makeRoom S x0 (if (giC S x0 1) < (giC S x1 3) then (giC S x0 1) else (giC S x1 3))).2.1 ∧ (f_Y3_makeRoom S x0 (if (giC S x0 1) < (giC S x1 3) then (giC S x0 1) else (giC S x1 3))).2.1 ≤ lc) ∧ (S.2.1 ≤ (f_Y3_makeRoom S x0 (if (giC S x0 1) < (giC S x1 3) then (giC S x0 1) else (giC S x1 3))).2.2.1 ∧ (f_Y3_makeRoom S x0 (if (giC S x0 1) < (giC S x1 3) then (giC S x0 1) else (giC S x1 3))).2.2.1 ≤ ls)) ∧ (p_Y3_makeRoom S x0 (f_Y3_makeRoom S x0 (if (giC S x0 1) < (giC S x1 3) then (giC S x0 1) else (giC S x1 3))).2.1 (f_Y3_makeRoom S x0 (if (giC S x0 1) < (giC S x1 3) then (giC S x0 1) else (giC S x1 3))).2.2.1 (if (giC S x0 1) < (giC S x1 3) then (giC S x0 1) else (giC S x1 3))) ∧ (q_Y3_become_17a ((f_Y3_makeRoom S x0 (if (giC S x0 1) < (giC S x1 3) then (giC S x0 1) else (giC S x1 3))).2) x0 x1 lc ls (if (giC S x0 1) < (giC S x1 3) then (giC S x0 1) else (giC S x1 3)))
def e_Y3_become : List Cond := [.fieldLink RX3 28 "MotionFloor$Ledger" "size" "I", .fieldLink RX3 21 "MotionFloor$Ledger" "most" "I", .methodLink RX3 39 Lib.Math.min.name, .static Lib.Math.min.name, .initialized "java/lang/Math", .code Lib.Math.min.name Lib.Math.min.code 2 (some .int), .methodLink RX3 35 yX3_makeRoom, .instanceMethod yX3_makeRoom, .selects RX3 yX3_makeRoom yX3_makeRoom, .initialized RX3, .fieldLink RX3 15 "MotionFloor$Ledger" "columns" "I", .fieldLink RX3 24 "MotionFloor$Ledger" "cells" "[I", .methodLink RX3 42 arraycopyName, .native arraycopyName, .static arraycopyName, .initialized "java/lang/System"]
def v_Y3_become : List Cond := .code yX3_become cX3_become 3 none :: (e_Y3_become ++ (wsX30 ++ (v_Y3_makeRoom ++ [])))
theorem te_Y3_become : GoodIn lw_tbl e_Y3_become := wGc zc239 (wGc zc238 (wGc zc575 (wGc zc273 (wGc zc272 (wGc zc271 (wGc zc580 (wGc zc579 (wGc zc578 (wGc zc480 (wGc zc242 (wGc zc241 (wGc zc606 (wGc zc207 (wGc zc206 (wGc zc205 (wG0))))))))))))))))
theorem t_Y3_become : GoodIn lw_tbl v_Y3_become := wGc zc607 (wGa te_Y3_become (wGa zcX3 (wGa t_Y3_makeRoom (wG0))))
set_option maxHeartbeats 4000000 in
set_option maxRecDepth 100000 in
theorem c_Y3_become (l : Launch) (G : va_G) (K : Nat → ClassId) (ad0 : Nat → Nat) (S0 : Cst) (x0 : Nat) (x1 : Nat) (lc : Nat) (ls : Nat)  (sz : Nat) : Met l yX3_become v_Y3_become ({ frames := 3, cells := lc - S0.1, slots := ls - S0.2.1, locals := 104 }) (va_Pc [.ref (ad0 x0), .ref (ad0 x1)] (cSt G K ad0 sz S0 ((S0.1 ≤ lc ∧ S0.2.1 ≤ ls) ∧ iK S0 x0 2 ∧ iK S0 x1 2 ∧ p_Y3_become S0 x0 x1 lc ls))) (va_Qv (fun (u : Cst × (Nat → Nat)) => (0, u.1) = f_Y3_become S0 x0 x1 ∧ eN S0 u.1 ∧ (∀ q, q < S0.1 → u.2 q = ad0 q)) (fun u t => cBt G K u.2 (va_A (wsC K ad0 S0) sz) u.1 t) (va_A (wsC K ad0 S0) sz)) (lc - S0.1) (ls - S0.2.1) (va_A (wsC K ad0 S0) sz) := by
  refine Met.ofW (cc := cX3_become) (maxL := 3) (ret := none) (by decide) rfl ?_
  intro p e s m args below meth c s₁ B hml hv
  obtain ⟨rfl, ⟨hsz, hP, hK, hD0, hTE⟩, hp⟩ := hv
  obtain ⟨k_l, hp⟩ := hp
  obtain ⟨k_x0, hp⟩ := hp
  obtain ⟨k_x1, hp⟩ := hp
  have hx := B.exec
  have hb := B.bytes
  have hr := B.returns
  have hts := atoms_spec (ws := v_Y3_become) B.pre
  have t_ := t_Y3_become
  have mw : ∀ w ∈ e_Y3_become, w ∈ v_Y3_become := fun w h => List.mem_cons_of_mem _ (List.mem_append_left _ h)
  have hw := fun w (h : w ∈ e_Y3_become) => hts w (mw w h)
  have iX3 : ∀ w ∈ wsX30, w ∈ v_Y3_become := fun w h => List.mem_cons_of_mem _ (List.mem_append_right _ (List.mem_append_left _ h))
  have j_Y3_makeRoom : ∀ w ∈ v_Y3_makeRoom, w ∈ v_Y3_become := fun w h => List.mem_cons_of_mem _ (List.mem_append_right _ (List.mem_append_right _ (List.mem_append_left _ h)))
  have hown : s.vm.findClass RX3 = some m.cls := findClass_of_methodNamed B.named
  have hlocks := B.notSynchronized
  subst hsz
  have hD := hD0.self (sz := s.heap.size)
  generalize hAe : va_A (wsC K ad0 S0) s.heap.size = A at hD ⊢
  have hA : ∀ q : Nat, s.heap.size ≤ q → A q := fun q h => by rw [← hAe]; exact Or.inr h
  have hS : va_S A s.heap s.heap [] := va_S.rf
  have hl : lv_has (lg_sl ([.ref (ad0 x0), .ref (ad0 x1)]) ++ List.replicate (3 - (lg_sl ([.ref (ad0 x0), .ref (ad0 x1)])).length) Slot.unset).toArray 3 [(0, .ref (ad0 x0)), (1, .ref (ad0 x1))] := by
    exact lv_entry ([.ref (ad0 x0), .ref (ad0 x1)]) (n := 3) (Nat.le_of_ble_eq_true rfl)
  rw [lg_entry_eq]
  generalize (lg_sl ([.ref (ad0 x0), .ref (ad0 x1)]) ++ List.replicate (3 - (lg_sl ([.ref (ad0 x0), .ref (ad0 x1)])).length) Slot.unset).toArray = ls_ at hl ⊢
  refine wGen (fun Q hQ => ?_)
  obtain ⟨X, hX⟩ : ∃ X, f_Y3_become S0 x0 x1 = X := ⟨_, rfl⟩
  have B_Y3_become_64 : ∀ (S : Cst) (ad : Nat → Nat) (x2 : Int32) (H : Heap) (locs : List Loc) (ls_ : Array Slot), b_Y3_become_64 S x0 x1 x2 = X → q_Y3_become_64 S x0 x1 lc ls x2 → nH S0 ad0 lc ls S ad → va_P G vwCl (wsC K ad S) H → va_D A (wsC K ad S) → va_S A s.heap H locs → lv_has ls_ 3 [(0, .ref (ad x0)), (1, .ref (ad x1)), (2, .int x2)] → W p l e ({ frames := 3, cells := lc - S0.1, slots := ls - S0.2.1, locals := 104 } : Room) s m #[Value.ref (ad0 x0), Value.ref (ad0 x1)] below meth c H locs (S.1 - S0.1) (S.2.1 - S0.2.1) Q (F0 m 64 ls_ []) := by
    intro S ad x2 H locs ls_ hE hp hZ hP hD hS hl
    unfold b_Y3_become_64 at hE
    unfold q_Y3_become_64 at hp
    refine lv_aload_n hx hb dX3_become_64 rfl (lv_at hl 0 rfl) ?_
    refine lv_iload_n hx hb dX3_become_65 rfl (lv_at hl 2 rfl) ?_
    refine va_put (D := G) (ci := 2) (v := .int x2) (ty := .int) (C := RX3) (T := TX3) (N := 4) hx hb hts iX3 tyX3 tyX3_ok nmX3 hown hK hP hD hS x0 (at_2 (k_x0.n hZ.1)) rfl 3 (by decide) (hw (.fieldLink RX3 28 "MotionFloor$Ledger" "size" "I") (List.mem_of_getElem? (i := 0) rfl)) (fun _ h9 => h9) rfl (by decide +kernel) rfl rfl (Nat.le_of_ble_eq_true rfl) dX3_become_66 (fun H locs hP hD hS => ?_)
    rw [st_2_3 (k_x0.n hZ.1)] at hP hD
    have hZ := hZ.k (eK.si S x0 3 x2)
    refine W.widen (k := lc - S0.1) (n := ls - S0.2.1) (show S.1 - S0.1 ≤ lc - S0.1 from Nat.sub_le_sub_right hZ.2.2.1 _) (show S.2.1 - S0.2.1 ≤ ls - S0.2.1 from Nat.sub_le_sub_right hZ.2.2.2 _) ?_
    subst hQ
    exact W.vret hx hb hr (fun t ht hW => ⟨⟨((siC S x0 3 x2), ad), rfl, ⟨hE.trans hX.symm, hZ.1, hZ.2.1⟩, by rw [ht]; exact hP, hD⟩, hS.F ht⟩) hS.2.2 dX3_become_69
  have B_Y3_become_17a : ∀ (S : Cst) (ad : Nat → Nat) (x2 : Int32) (H : Heap) (locs : List Loc) (ls_ : Array Slot), b_Y3_become_17a S x0 x1 x2 = X → q_Y3_become_17a S x0 x1 lc ls x2 → nH S0 ad0 lc ls S ad → va_P G vwCl (wsC K ad S) H → va_D A (wsC K ad S) → va_S A s.heap H locs → lv_has ls_ 3 [(0, .ref (ad x0)), (1, .ref (ad x1)), (2, .int x2)] → W p l e ({ frames := 3, cells := lc - S0.1, slots := ls - S0.2.1, locals := 104 } : Room) s m #[Value.ref (ad0 x0), Value.ref (ad0 x1)] below meth c H locs (S.1 - S0.1) (S.2.1 - S0.2.1) Q (F0 m 17 ls_ []) := by
    intro S ad x2 H locs ls_ hE hp hZ hP hD hS hl
    unfold b_Y3_become_17a at hE
    unfold q_Y3_become_17a at hp
    refine lv_iload_n hx hb dX3_become_17 rfl (lv_at hl 2 rfl) ?_
    refine lv_aload_n hx hb dX3_become_18 rfl (lv_at hl 0 rfl) ?_
    refine va_get (D := G) (ci := 2) (v := .int (giC S x0 0)) (C := RX3) (T := TX3) (N := 4) hx hb hts iX3 hown hK hP x0 (at_2 (k_x0.n hZ.1)) rfl 0 (by decide) (hw (.fieldLink RX3 15 "MotionFloor$Ledger" "columns" "I") (List.mem_of_getElem? (i := 10) rfl)) (fun _ h9 => h9) rfl dX3_become_19 ?_
    refine lv_imul hx hb dX3_become_22 ?_
    refine lv_aload_n hx hb dX3_become_23 rfl (lv_at hl 0 rfl) ?_
    refine va_get (D := G) (ci := 2) (v := va_re ad (grC S x0 2)) (C := RX3) (T := TX3) (N := 4) hx hb hts iX3 hown hK hP x0 (at_2 (k_x0.n hZ.1)) rfl 2 (by decide) (hw (.fieldLink RX3 24 "MotionFloor$Ledger" "cells" "[I") (List.mem_of_getElem? (i := 11) rfl)) (fun _ h9 => h9) rfl dX3_become_24 ?_
    obtain ⟨hy5, hp⟩ := hp
    refine cTop (r := (grC S x0 2)) hy5.1 ?_
    refine va_alen (v := (Int32.ofNat (lnC S ((grC S x0 2).getD 0)))) hx hb hK hP ((grC S x0 2).getD 0) 0 (at_20 hy5.2) rfl rfl dX3_become_27 ?_
    refine lv_icmp_gt (tgt := 64) hx hb dX3_become_28 (by decide) (fun c6 => ?_) (fun c6 => ?_)
    · rw [if_pos c6] at hE hp
      exact B_Y3_become_64 S ad x2 _ _ _ hE hp hZ hP hD hS (lv_sub hl [0, 1, 2] rfl)
    · rw [if_neg c6] at hE hp
      refine lv_iload_n hx hb dX3_become_31 rfl (lv_at hl 2 rfl) ?_
      refine lv_aload_n hx hb dX3_become_32 rfl (lv_at hl 0 rfl) ?_
      refine va_get (D := G) (ci := 2) (v := .int (giC S x0 0)) (C := RX3) (T := TX3) (N := 4) hx hb hts iX3 hown hK hP x0 (at_2 (k_x0.n hZ.1)) rfl 0 (by decide) (hw (.fieldLink RX3 15 "MotionFloor$Ledger" "columns" "I") (List.mem_of_getElem? (i := 10) rfl)) (fun _ h9 => h9) rfl dX3_become_33 ?_
      refine lv_imul hx hb dX3_become_36 ?_
      refine lv_aload_n hx hb dX3_become_37 rfl (lv_at hl 1 rfl) ?_
      refine va_get (D := G) (ci := 2) (v := va_re ad (grC S x1 2)) (C := RX3) (T := TX3) (N := 4) hx hb hts iX3 hown hK hP x1 (at_2 (k_x1.n hZ.1)) rfl 2 (by decide) (hw (.fieldLink RX3 24 "MotionFloor$Ledger" "cells" "[I") (List.mem_of_getElem? (i := 11) rfl)) (fun _ h9 => h9) rfl dX3_become_38 ?_
      obtain ⟨hy7, hp⟩ := hp
      refine cTop (r := (grC S x1 2)) hy7.1 ?_
      refine va_alen (v := (Int32.ofNat (lnC S ((grC S x1 2).getD 0)))) hx hb hK hP ((grC S x1 2).getD 0) 0 (at_20 hy7.2) rfl rfl dX3_become_41 ?_
      refine lv_icmp_gt (tgt := 64) hx hb dX3_become_42 (by decide) (fun c8 => ?_) (fun c8 => ?_)
      · rw [if_pos c8] at hE hp
        exact B_Y3_become_64 S ad x2 _ _ _ hE hp hZ hP hD hS (lv_sub hl [0, 1, 2] rfl)
      · rw [if_neg c8] at hE hp
        refine lv_aload_n hx hb dX3_become_45 rfl (lv_at hl 1 rfl) ?_
        refine va_get (D := G) (ci := 2) (v := va_re ad (grC S x1 2)) (C := RX3) (T := TX3) (N := 4) hx hb hts iX3 hown hK hP x1 (at_2 (k_x1.n hZ.1)) rfl 2 (by decide) (hw (.fieldLink RX3 24 "MotionFloor$Ledger" "cells" "[I") (List.mem_of_getElem? (i := 11) rfl)) (fun _ h9 => h9) rfl dX3_become_46 ?_
        refine lv_iconst (v := 0) hx hb dX3_become_49 (by decide) ?_
        refine lv_aload_n hx hb dX3_become_50 rfl (lv_at hl 0 rfl) ?_
        refine va_get (D := G) (ci := 2) (v := va_re ad (grC S x0 2)) (C := RX3) (T := TX3) (N := 4) hx hb hts iX3 hown hK hP x0 (at_2 (k_x0.n hZ.1)) rfl 2 (by decide) (hw (.fieldLink RX3 24 "MotionFloor$Ledger" "cells" "[I") (List.mem_of_getElem? (i := 11) rfl)) (fun _ h9 => h9) rfl dX3_become_51 ?_
        refine lv_iconst (v := 0) hx hb dX3_become_54 (by decide) ?_
        refine lv_iload_n hx hb dX3_become_55 rfl (lv_at hl 2 rfl) ?_
        refine lv_aload_n hx hb dX3_become_56 rfl (lv_at hl 0 rfl) ?_
        refine va_get (D := G) (ci := 2) (v := .int (giC S x0 0)) (C := RX3) (T := TX3) (N := 4) hx hb hts iX3 hown hK hP x0 (at_2 (k_x0.n hZ.1)) rfl 0 (by decide) (hw (.fieldLink RX3 15 "MotionFloor$Ledger" "columns" "I") (List.mem_of_getElem? (i := 10) rfl)) (fun _ h9 => h9) rfl dX3_become_57 ?_
        refine lv_imul hx hb dX3_become_60 ?_
        obtain ⟨hy9, hp⟩ := hp
        refine cTop5 (r := (grC S x1 2)) hy9.1 ?_
        obtain ⟨hy10, hp⟩ := hp
        refine cTop3 (r := (grC S x0 2)) hy10.1 ?_
        obtain ⟨hy11, hp⟩ := hp
        refine va_copyi hx hb (by rw [hml]; exact hl.1.symm) hown (hw (.methodLink RX3 42 arraycopyName) (List.mem_of_getElem? (i := 12) rfl)) (hw (.native arraycopyName) (List.mem_of_getElem? (i := 13) rfl)) (hw (.static arraycopyName) (List.mem_of_getElem? (i := 14) rfl)) (hw (.initialized "java/lang/System") (List.mem_of_getElem? (i := 15) rfl)) hK hP hD hS ((grC S x1 2).getD 0) ((grC S x0 2).getD 0) 0 0 (at_20 hy9.2) (at_20 hy10.2) rfl rfl rfl hy11.1.1 hy11.1.2.1 hy11.1.2.2 hy11.2.1 hy11.2.2 (fun i hi => rfl) (Nat.le_of_ble_eq_true rfl) (Nat.le_of_ble_eq_true rfl) dX3_become_61 (fun H locs hP hD hS => ?_)
        rw [sf_20 hy10.2] at hP hD
        have hZ := hZ.k (eK.sf S ((grC S x0 2).getD 0) (va_cpy (giC S ((grC S x1 2).getD 0)) (giC S ((grC S x0 2).getD 0)) (0 : Int32).toNatClampNeg (0 : Int32).toNatClampNeg (x2 * (giC S x0 0)).toNatClampNeg))
        exact B_Y3_become_64 (sfC S ((grC S x0 2).getD 0) (va_cpy (giC S ((grC S x1 2).getD 0)) (giC S ((grC S x0 2).getD 0)) (0 : Int32).toNatClampNeg (0 : Int32).toNatClampNeg (x2 * (giC S x0 0)).toNatClampNeg)) ad x2 _ _ _ hE hp hZ hP hD hS (lv_sub hl [0, 1, 2] rfl)
  have B_M : ∀ (S : Cst) (ad : Nat → Nat) (H : Heap) (locs : List Loc) (ls_ : Array Slot), f_Y3_become S x0 x1 = X → p_Y3_become S x0 x1 lc ls → nH S0 ad0 lc ls S ad → va_P G vwCl (wsC K ad S) H → va_D A (wsC K ad S) → va_S A s.heap H locs → lv_has ls_ 3 [(0, .ref (ad x0)), (1, .ref (ad x1))] → W p l e ({ frames := 3, cells := lc - S0.1, slots := ls - S0.2.1, locals := 104 } : Room) s m #[Value.ref (ad0 x0), Value.ref (ad0 x1)] below meth c H locs (S.1 - S0.1) (S.2.1 - S0.2.1) Q (F0 m 0 ls_ []) := by
    intro S ad H locs ls_ hE hp hZ hP hD hS hl
    unfold f_Y3_become at hE
    unfold p_Y3_become at hp
    refine lv_aload_n hx hb dX3_become_0 rfl (lv_at hl 1 rfl) ?_
    refine va_get (D := G) (ci := 2) (v := .int (giC S x1 3)) (C := RX3) (T := TX3) (N := 4) hx hb hts iX3 hown hK hP x1 (at_2 (k_x1.n hZ.1)) rfl 3 (by decide) (hw (.fieldLink RX3 28 "MotionFloor$Ledger" "size" "I") (List.mem_of_getElem? (i := 0) rfl)) (fun _ h9 => h9) rfl dX3_become_1 ?_
    refine lv_aload_n hx hb dX3_become_4 rfl (lv_at hl 0 rfl) ?_
    refine va_get (D := G) (ci := 2) (v := .int (giC S x0 1)) (C := RX3) (T := TX3) (N := 4) hx hb hts iX3 hown hK hP x0 (at_2 (k_x0.n hZ.1)) rfl 1 (by decide) (hw (.fieldLink RX3 21 "MotionFloor$Ledger" "most" "I") (List.mem_of_getElem? (i := 1) rfl)) (fun _ h9 => h9) rfl dX3_become_5 ?_
    refine va_mmin hx hb (by rw [hml]; exact hl.1.symm) hown (hw (.methodLink RX3 39 Lib.Math.min.name) (List.mem_of_getElem? (i := 2) rfl)) (hw (.static Lib.Math.min.name) (List.mem_of_getElem? (i := 3) rfl)) (hw (.initialized "java/lang/Math") (List.mem_of_getElem? (i := 4) rfl)) (hw (.code Lib.Math.min.name Lib.Math.min.code 2 (some .int)) (List.mem_of_getElem? (i := 5) rfl)) (Nat.le_of_ble_eq_true rfl) (Nat.le_of_ble_eq_true rfl) (show S.1 - S0.1 ≤ lc - S0.1 from Nat.sub_le_sub_right hZ.2.2.1 _) (show S.2.1 - S0.2.1 ≤ ls - S0.2.1 from Nat.sub_le_sub_right hZ.2.2.2 _) dX3_become_8 ?_
    refine lv_istore_n (i := 2) (lv' := [(2, .int (if (giC S x0 1) < (giC S x1 3) then (giC S x0 1) else (giC S x1 3))), (0, .ref (ad x0)), (1, .ref (ad x1))]) hx hb dX3_become_11 rfl hl (by decide) rfl (fun ls_ hl => ?_)
    refine lv_aload_n hx hb dX3_become_12 rfl (lv_at hl 1 rfl) ?_
    refine lv_iload_n hx hb dX3_become_13 rfl (lv_at hl 0 rfl) ?_
    obtain ⟨hy1, hp⟩ := hp
    obtain ⟨hy2, hp⟩ := hp
    refine cNov (va_runV (As := [.int (if (giC S x0 1) < (giC S x1 3) then (giC S x0 1) else (giC S x1 3))]) (rest := []) ⟨hx, hb, hml, hown, hts⟩ (c_Y3_makeRoom l G K ad S x0 (f_Y3_makeRoom S x0 (if (giC S x0 1) < (giC S x1 3) then (giC S x0 1) else (giC S x1 3))).2.1 (f_Y3_makeRoom S x0 (if (giC S x0 1) < (giC S x1 3) then (giC S x0 1) else (giC S x1 3))).2.2.1 (if (giC S x0 1) < (giC S x1 3) then (giC S x0 1) else (giC S x1 3)) _) (cwV 1 hts (wGV t_ (mw (.methodLink RX3 35 yX3_makeRoom) (List.mem_of_getElem? (i := 6) rfl)) (mw (.instanceMethod yX3_makeRoom) (List.mem_of_getElem? (i := 7) rfl)) (mw (.selects RX3 yX3_makeRoom yX3_makeRoom) (List.mem_of_getElem? (i := 8) rfl)) (mw (.initialized RX3) (List.mem_of_getElem? (i := 9) rfl)) j_Y3_makeRoom) rfl rfl rfl (by decide +kernel) ⟨Nat.le_of_ble_eq_true rfl, Nat.le_of_ble_eq_true rfl⟩) (cPV hK hTE hP hD 2 rfl (at_2 (k_x0.n hZ.1)) ⟨⟨hy1.1.1, hy1.2.1⟩, (k_x0.n hZ.1), hy2⟩) rfl rfl hl.1 rfl (lv_room (Nat.le_of_ble_eq_true rfl)) dX3_become_14 ⟨by show _ ≤ lc - S0.1; have := hZ.1.1.1; have := hy1.1; omega, by show _ ≤ ls - S0.2.1; have := hZ.1.1.2; have := hy1.2; omega⟩) hP hD hS hA (fun u3 H locs hv hP hD hS => ?_)
    obtain ⟨hv, hz, ha⟩ := hv
    have e1 : (f_Y3_makeRoom S x0 (if (giC S x0 1) < (giC S x1 3) then (giC S x0 1) else (giC S x1 3))).2.1 = u3.1.1 := by rw [← hv]
    have e2 : (f_Y3_makeRoom S x0 (if (giC S x0 1) < (giC S x1 3) then (giC S x0 1) else (giC S x1 3))).2.2.1 = u3.1.2.1 := by rw [← hv]
    refine cCells (cells' := u3.1.1 - S0.1) (slots' := u3.1.2.1 - S0.2.1) (by have := hZ.1.1.1; have := hy1.1; omega) (by have := hZ.1.1.2; have := hy1.2; omega) ?_
    rw [← ha x0 (k_x0.n hZ.1).1] at hl
    rw [← ha x1 (k_x1.n hZ.1).1] at hl
    have hZ := hZ.n hz ha (by rw [← e1]; exact hy1.1.2) (by rw [← e2]; exact hy1.2.2)
    rw [← hv] at hE hp
    dsimp only at hE hp
    exact B_Y3_become_17a u3.1 u3.2 (if (giC S x0 1) < (giC S x1 3) then (giC S x0 1) else (giC S x1 3)) _ _ _ hE hp hZ hP hD hS (lv_sub hl [1, 2, 0] rfl)
  exact cCells (Nat.sub_self _).symm (Nat.sub_self _).symm (B_M S0 ad0 _ _ _ hX hp (nH.rf S0 ad0 k_l) hP hD hS hl)
theorem gdX0_become_67 : ckS (List.drop 67 cX0_become.data.toList) 67 [(67, .aload_n 0, 1), (68, .getfield 32, 3), (71, .iload_n 2, 1), (72, .aaload, 1), (73, .aload_n 1, 1), (74, .getfield 32, 3), (77, .iload_n 2, 1), (78, .aaload, 1), (79, .getfield 84, 3), (82, .putfield 84, 3), (85, .aload_n 0, 1), (86, .aload_n 1, 1), (87, .getfield 32, 3), (90, .iload_n 2, 1), (91, .aaload, 1), (92, .getfield 87, 3), (95, .aload_n 0, 1), (96, .getfield 32, 3), (99, .iload_n 2, 1), (100, .aaload, 1), (101, .getfield 87, 3), (104, .invokevirtual 80, 3), (107, .iinc 2 1, 3), (110, .goto (-49), 3), (124, .aload_n 0, 1), (125, .getfield 45, 3), (128, .aload_n 1, 1), (129, .getfield 45, 3), (132, .invokevirtual 90, 3), (135, .aload_n 0, 1), (136, .getfield 51, 3), (139, .aload_n 1, 1), (140, .getfield 51, 3), (143, .invokevirtual 93, 3), (146, .aload_n 0, 1), (147, .aload_n 1, 1), (148, .getfield 67, 3), (151, .putfield 67, 3), (154, .aload_n 0, 1), (155, .aload_n 1, 1)] = true := by decide +kernel
theorem dX0_become_67 : decode cX0_become 67 = .ok (.aload_n 0, 1) := ckS_g gdX0_become_67 0 rfl
theorem dX0_become_68 : decode cX0_become 68 = .ok (.getfield 32, 3) := ckS_g gdX0_become_67 1 rfl
theorem dX0_become_71 : decode cX0_become 71 = .ok (.iload_n 2, 1) := ckS_g gdX0_become_67 2 rfl
theorem dX0_become_72 : decode cX0_become 72 = .ok (.aaload, 1) := ckS_g gdX0_become_67 3 rfl
theorem dX0_become_73 : decode cX0_become 73 = .ok (.aload_n 1, 1) := ckS_g gdX0_become_67 4 rfl
theorem dX0_become_74 : decode cX0_become 74 = .ok (.getfield 32, 3) := ckS_g gdX0_become_67 5 rfl
theorem dX0_become_77 : decode cX0_become 77 = .ok (.iload_n 2, 1) := ckS_g gdX0_become_67 6 rfl
theorem dX0_become_78 : decode cX0_become 78 = .ok (.aaload, 1) := ckS_g gdX0_become_67 7 rfl
theorem dX0_become_79 : decode cX0_become 79 = .ok (.getfield 84, 3) := ckS_g gdX0_become_67 8 rfl
theorem dX0_become_82 : decode cX0_become 82 = .ok (.putfield 84, 3) := ckS_g gdX0_become_67 9 rfl
theorem dX0_become_85 : decode cX0_become 85 = .ok (.aload_n 0, 1) := ckS_g gdX0_become_67 10 rfl
theorem dX0_become_86 : decode cX0_become 86 = .ok (.aload_n 1, 1) := ckS_g gdX0_become_67 11 rfl
theorem dX0_become_87 : decode cX0_become 87 = .ok (.getfield 32, 3) := ckS_g gdX0_become_67 12 rfl
theorem dX0_become_90 : decode cX0_become 90 = .ok (.iload_n 2, 1) := ckS_g gdX0_become_67 13 rfl
theorem dX0_become_91 : decode cX0_become 91 = .ok (.aaload, 1) := ckS_g gdX0_become_67 14 rfl
theorem dX0_become_92 : decode cX0_become 92 = .ok (.getfield 87, 3) := ckS_g gdX0_become_67 15 rfl
theorem dX0_become_95 : decode cX0_become 95 = .ok (.aload_n 0, 1) := ckS_g gdX0_become_67 16 rfl
theorem dX0_become_96 : decode cX0_become 96 = .ok (.getfield 32, 3) := ckS_g gdX0_become_67 17 rfl
theorem dX0_become_99 : decode cX0_become 99 = .ok (.iload_n 2, 1) := ckS_g gdX0_become_67 18 rfl
theorem dX0_become_100 : decode cX0_become 100 = .ok (.aaload, 1) := ckS_g gdX0_become_67 19 rfl
theorem dX0_become_101 : decode cX0_become 101 = .ok (.getfield 87, 3) := ckS_g gdX0_become_67 20 rfl
theorem dX0_become_104 : decode cX0_become 104 = .ok (.invokevirtual 80, 3) := ckS_g gdX0_become_67 21 rfl
theorem dX0_become_107 : decode cX0_become 107 = .ok (.iinc 2 1, 3) := ckS_g gdX0_become_67 22 rfl
theorem dX0_become_110 : decode cX0_become 110 = .ok (.goto (-49), 3) := ckS_g gdX0_become_67 23 rfl
theorem dX0_become_124 : decode cX0_become 124 = .ok (.aload_n 0, 1) := ckS_g gdX0_become_67 24 rfl
theorem dX0_become_125 : decode cX0_become 125 = .ok (.getfield 45, 3) := ckS_g gdX0_become_67 25 rfl
theorem dX0_become_128 : decode cX0_become 128 = .ok (.aload_n 1, 1) := ckS_g gdX0_become_67 26 rfl
theorem dX0_become_129 : decode cX0_become 129 = .ok (.getfield 45, 3) := ckS_g gdX0_become_67 27 rfl
theorem dX0_become_132 : decode cX0_become 132 = .ok (.invokevirtual 90, 3) := ckS_g gdX0_become_67 28 rfl
theorem dX0_become_135 : decode cX0_become 135 = .ok (.aload_n 0, 1) := ckS_g gdX0_become_67 29 rfl
theorem dX0_become_136 : decode cX0_become 136 = .ok (.getfield 51, 3) := ckS_g gdX0_become_67 30 rfl
theorem dX0_become_139 : decode cX0_become 139 = .ok (.aload_n 1, 1) := ckS_g gdX0_become_67 31 rfl
theorem dX0_become_140 : decode cX0_become 140 = .ok (.getfield 51, 3) := ckS_g gdX0_become_67 32 rfl
theorem dX0_become_143 : decode cX0_become 143 = .ok (.invokevirtual 93, 3) := ckS_g gdX0_become_67 33 rfl
theorem dX0_become_146 : decode cX0_become 146 = .ok (.aload_n 0, 1) := ckS_g gdX0_become_67 34 rfl
theorem dX0_become_147 : decode cX0_become 147 = .ok (.aload_n 1, 1) := ckS_g gdX0_become_67 35 rfl
theorem dX0_become_148 : decode cX0_become 148 = .ok (.getfield 67, 3) := ckS_g gdX0_become_67 36 rfl
theorem dX0_become_151 : decode cX0_become 151 = .ok (.putfield 67, 3) := ckS_g gdX0_become_67 37 rfl
theorem dX0_become_154 : decode cX0_become 154 = .ok (.aload_n 0, 1) := ckS_g gdX0_become_67 38 rfl
theorem dX0_become_155 : decode cX0_become 155 = .ok (.aload_n 1, 1) := ckS_g gdX0_become_67 39 rfl
theorem gdX0_become_156 : ckS (List.drop 156 cX0_become.data.toList) 156 [(156, .getfield 70, 3), (159, .putfield 70, 3), (162, .aload_n 0, 1), (163, .iconst 0, 1), (164, .putfield 73, 3), (167, .return_, 1)] = true := by decide +kernel
theorem dX0_become_156 : decode cX0_become 156 = .ok (.getfield 70, 3) := ckS_g gdX0_become_156 0 rfl
theorem dX0_become_159 : decode cX0_become 159 = .ok (.putfield 70, 3) := ckS_g gdX0_become_156 1 rfl
theorem dX0_become_162 : decode cX0_become 162 = .ok (.aload_n 0, 1) := ckS_g gdX0_become_156 2 rfl
theorem dX0_become_163 : decode cX0_become 163 = .ok (.iconst 0, 1) := ckS_g gdX0_become_156 3 rfl
theorem dX0_become_164 : decode cX0_become 164 = .ok (.putfield 73, 3) := ckS_g gdX0_become_156 4 rfl
theorem dX0_become_167 : decode cX0_become 167 = .ok (.return_, 1) := ckS_g gdX0_become_156 5 rfl
set_option maxRecDepth 100000 in
theorem zc608 : wZ (.methodLink RX0 93 yX9_become) := ⟨wT5 (List.mem_of_getElem? (i := 16) (by decide +kernel)), Or.inl rfl⟩
set_option maxRecDepth 100000 in
theorem zc609 : wZ (.selects RX3 yX3_become yX3_become) := ⟨wT5 (List.mem_of_getElem? (i := 13) (by decide +kernel)), Or.inl rfl⟩
set_option maxRecDepth 100000 in
theorem zc610 : wZ (.instanceMethod yX3_become) := ⟨wT5 (List.mem_of_getElem? (i := 12) (by decide +kernel)), Or.inl rfl⟩
set_option maxRecDepth 100000 in
theorem zc611 : wZ (.methodLink RX0 90 yX3_become) := ⟨wT5 (List.mem_of_getElem? (i := 11) (by decide +kernel)), Or.inl rfl⟩
set_option maxRecDepth 100000 in
theorem zc612 : wZ (.selects RX0 yX0_copy yX0_copy) := ⟨wT5 (List.mem_of_getElem? (i := 1) (by decide +kernel)), Or.inl rfl⟩
set_option maxRecDepth 100000 in
theorem zc613 : wZ (.instanceMethod yX0_copy) := ⟨wT5 (List.mem_of_getElem? (i := 0) (by decide +kernel)), Or.inl rfl⟩
set_option maxRecDepth 100000 in
theorem zc614 : wZ (.methodLink RX0 80 yX0_copy) := ⟨wT4 (List.mem_of_getElem? (i := 239) (by decide +kernel)), Or.inl rfl⟩
set_option maxRecDepth 100000 in
theorem zc615 : wZ (.selects RX2 yX2_become yX2_become) := ⟨wT4 (List.mem_of_getElem? (i := 236) (by decide +kernel)), Or.inl rfl⟩
set_option maxRecDepth 100000 in
theorem zc616 : wZ (.instanceMethod yX2_become) := ⟨wT4 (List.mem_of_getElem? (i := 235) (by decide +kernel)), Or.inl rfl⟩
set_option maxRecDepth 100000 in
theorem zc617 : wZ (.methodLink RX0 76 yX2_become) := ⟨wT4 (List.mem_of_getElem? (i := 234) (by decide +kernel)), Or.inl rfl⟩
set_option maxRecDepth 100000 in
theorem zc618 : wZ (.code yX0_become cX0_become 3 none) := ⟨wT4 (List.mem_of_getElem? (i := 233) rfl), Or.inl rfl⟩
def b_Y0_become_146a (S : Cst) (x0 : Nat) (x1 : Nat) (x2 : Int32) : Int32 × Cst := (0, (siC (siC (siC S x0 7 (giC S x1 7)) x0 8 (giC (siC S x0 7 (giC S x1 7)) x1 8)) x0 9 (0 : Int32)))
def q_Y0_become_146a (S : Cst) (x0 : Nat) (x1 : Nat) (lc : Nat) (ls : Nat) (x2 : Int32) : Prop := True
def b_Y0_become_135a (S : Cst) (x0 : Nat) (x1 : Nat) (x2 : Int32) : Int32 × Cst := (b_Y0_become_146a ((f_Y9_become S ((grC S x0 6).getD 0) ((grC S x1 6).getD 0)).2) x0 x1 x2)
def q_Y0_become_135a (S : Cst) (x0 : Nat) (x1 : Nat) (lc : Nat) (ls : Nat) (x2 : Int32) : Prop := (iR S (grC S x0 6) 6) ∧ (iR S (grC S x1 6) 6) ∧ (p_Y9_become S ((grC S x0 6).getD 0) ((grC S x1 6).getD 0)) ∧ (q_Y0_become_146a ((f_Y9_become S ((grC S x0 6).getD 0) ((grC S x1 6).getD 0)).2) x0 x1 lc ls x2)
def b_Y0_become_124a (S : Cst) (x0 : Nat) (x1 : Nat) (x2 : Int32) : Int32 × Cst := (b_Y0_become_135a ((f_Y3_become S ((grC S x0 5).getD 0) ((grC S x1 5).getD 0)).2) x0 x1 x2)
def q_Y0_become_124a (S : Cst) (x0 : Nat) (x1 : Nat) (lc : Nat) (ls : Nat) (x2 : Int32) : Prop := (iR S (grC S x0 5) 2) ∧ (iR S (grC S x1 5) 2) ∧ ((S.1 ≤ (f_Y3_become S ((grC S x0 5).getD 0) ((grC S x1 5).getD 0)).2.1 ∧ (f_Y3_become S ((grC S x0 5).getD 0) ((grC S x1 5).getD 0)).2.1 ≤ lc) ∧ (S.2.1 ≤ (f_Y3_become S ((grC S x0 5).getD 0) ((grC S x1 5).getD 0)).2.2.1 ∧ (f_Y3_become S ((grC S x0 5).getD 0) ((grC S x1 5).getD 0)).2.2.1 ≤ ls)) ∧ (p_Y3_become S ((grC S x0 5).getD 0) ((grC S x1 5).getD 0) (f_Y3_become S ((grC S x0 5).getD 0) ((grC S x1 5).getD 0)).2.1 (f_Y3_become S ((grC S x0 5).getD 0) ((grC S x1 5).getD 0)).2.2.1) ∧ (q_Y0_become_135a ((f_Y3_become S ((grC S x0 5).getD 0) ((grC S x1 5).getD 0)).2) x0 x1 lc ls x2)
def b_Y0_become_107a (S : Cst) (x0 : Nat) (x1 : Nat) (x2 : Int32) : (Int32 × Cst) ⊕ (Cst × Int32) := Sum.inr (S, (x2 + 1))
def q_Y0_become_107a (S : Cst) (x0 : Nat) (x1 : Nat) (lc : Nat) (ls : Nat) (x2 : Int32) : Prop := True
def b_Y0_become_104a (S : Cst) (x0 : Nat) (x1 : Nat) (x2 : Int32) (o0 : Option Nat) (o1 : Option Nat) : (Int32 × Cst) ⊕ (Cst × Int32) := (b_Y0_become_107a ((f_Y0_copy S x0 (o1.getD 0) (o0.getD 0)).2) x0 x1 x2)
def q_Y0_become_104a (S : Cst) (x0 : Nat) (x1 : Nat) (lc : Nat) (ls : Nat) (x2 : Int32) (o0 : Option Nat) (o1 : Option Nat) : Prop := (iR S o1 4) ∧ (iR S o0 4) ∧ ((S.1 ≤ (f_Y0_copy S x0 (o1.getD 0) (o0.getD 0)).2.1 ∧ (f_Y0_copy S x0 (o1.getD 0) (o0.getD 0)).2.1 ≤ lc) ∧ (S.2.1 ≤ (f_Y0_copy S x0 (o1.getD 0) (o0.getD 0)).2.2.1 ∧ (f_Y0_copy S x0 (o1.getD 0) (o0.getD 0)).2.2.1 ≤ ls)) ∧ (p_Y0_copy S x0 (o1.getD 0) (o0.getD 0) (f_Y0_copy S x0 (o1.getD 0) (o0.getD 0)).2.1 (f_Y0_copy S x0 (o1.getD 0) (o0.getD 0)).2.2.1) ∧ (q_Y0_become_107a ((f_Y0_copy S x0 (o1.getD 0) (o0.getD 0)).2) x0 x1 lc ls x2)
def st_Y0_become_61 (S : Cst) (x0 : Nat) (x1 : Nat) (x2 : Int32) : (Int32 × Cst) ⊕ (Cst × Int32) := if 8 ≤ x2 then Sum.inl ((b_Y0_become_124a ((f_Y3_become S ((grC S x0 4).getD 0) ((grC S x1 4).getD 0)).2) x0 x1 x2)) else (b_Y0_become_104a (siC S ((grC S ((grC S x0 3).getD 0) x2.toNatClampNeg).getD 0) 0 (giC S ((grC S ((grC S x1 3).getD 0) x2.toNatClampNeg).getD 0) 0)) x0 x1 x2 (grC (siC S ((grC S ((grC S x0 3).getD 0) x2.toNatClampNeg).getD 0) 0 (giC S ((grC S ((grC S x1 3).getD 0) x2.toNatClampNeg).getD 0) 0)) ((grC (siC S ((grC S ((grC S x0 3).getD 0) x2.toNatClampNeg).getD 0) 0 (giC S ((grC S ((grC S x1 3).getD 0) x2.toNatClampNeg).getD 0) 0)) ((grC (siC S ((grC S ((grC S x0 3).getD 0) x2.toNatClampNeg).getD 0) 0 (giC S ((grC S ((grC S x1 3).getD 0) x2.toNatClampNeg).getD 0) 0)) x0 3).getD 0) x2.toNatClampNeg).getD 0) 1) (grC (siC S ((grC S ((grC S x0 3).getD 0) x2.toNatClampNeg).getD 0) 0 (giC S ((grC S ((grC S x1 3).getD 0) x2.toNatClampNeg).getD 0) 0)) ((grC (siC S ((grC S ((grC S x0 3).getD 0) x2.toNatClampNeg).getD 0) 0 (giC S ((grC S ((grC S x1 3).getD 0) x2.toNatClampNeg).getD 0) 0)) ((grC (siC S ((grC S ((grC S x0 3).getD 0) x2.toNatClampNeg).getD 0) 0 (giC S ((grC S ((grC S x1 3).getD 0) x2.toNatClampNeg).getD 0) 0)) x1 3).getD 0) x2.toNatClampNeg).getD 0) 1))
def ps_Y0_become_61 (S : Cst) (x0 : Nat) (x1 : Nat) (lc : Nat) (ls : Nat) (x2 : Int32) : Prop := (if 8 ≤ x2 then (iR S (grC S x0 4) 2) ∧ (iR S (grC S x1 4) 2) ∧ ((S.1 ≤ (f_Y3_become S ((grC S x0 4).getD 0) ((grC S x1 4).getD 0)).2.1 ∧ (f_Y3_become S ((grC S x0 4).getD 0) ((grC S x1 4).getD 0)).2.1 ≤ lc) ∧ (S.2.1 ≤ (f_Y3_become S ((grC S x0 4).getD 0) ((grC S x1 4).getD 0)).2.2.1 ∧ (f_Y3_become S ((grC S x0 4).getD 0) ((grC S x1 4).getD 0)).2.2.1 ≤ ls)) ∧ (p_Y3_become S ((grC S x0 4).getD 0) ((grC S x1 4).getD 0) (f_Y3_become S ((grC S x0 4).getD 0) ((grC S x1 4).getD 0)).2.1 (f_Y3_become S ((grC S x0 4).getD 0) ((grC S x1 4).getD 0)).2.2.1) ∧ (q_Y0_become_124a ((f_Y3_become S ((grC S x0 4).getD 0) ((grC S x1 4).getD 0)).2) x0 x1 lc ls x2) else (iR S (grC S x0 3) 24) ∧ (vp_in x2 (lnC S ((grC S x0 3).getD 0))) ∧ (iR S (grC S x1 3) 24) ∧ (vp_in x2 (lnC S ((grC S x1 3).getD 0))) ∧ (iR S (grC S ((grC S x1 3).getD 0) x2.toNatClampNeg) 5) ∧ (iR S (grC S ((grC S x0 3).getD 0) x2.toNatClampNeg) 5) ∧ (iR (siC S ((grC S ((grC S x0 3).getD 0) x2.toNatClampNeg).getD 0) 0 (giC S ((grC S ((grC S x1 3).getD 0) x2.toNatClampNeg).getD 0) 0)) (grC (siC S ((grC S ((grC S x0 3).getD 0) x2.toNatClampNeg).getD 0) 0 (giC S ((grC S ((grC S x1 3).getD 0) x2.toNatClampNeg).getD 0) 0)) x1 3) 24) ∧ (vp_in x2 (lnC (siC S ((grC S ((grC S x0 3).getD 0) x2.toNatClampNeg).getD 0) 0 (giC S ((grC S ((grC S x1 3).getD 0) x2.toNatClampNeg).getD 0) 0)) ((grC (siC S ((grC S ((grC S x0 3).getD 0) x2.toNatClampNeg).getD 0) 0 (giC S ((grC S ((grC S x1 3).getD 0) x2.toNatClampNeg).getD 0) 0)) x1 3).getD 0))) ∧ (iR (siC S ((grC S ((grC S x0 3).getD 0) x2.toNatClampNeg).getD 0) 0 (giC S ((grC S ((grC S x1 3).getD 0) x2.toNatClampNeg).getD 0) 0)) (grC (siC S ((grC S ((grC S x0 3).getD 0) x2.toNatClampNeg).getD 0) 0 (giC S ((grC S ((grC S x1 3).getD 0) x2.toNatClampNeg).getD 0) 0)) ((grC (siC S ((grC S ((grC S x0 3).getD 0) x2.toNatClampNeg).getD 0) 0 (giC S ((grC S ((grC S x1 3).getD 0) x2.toNatClampNeg).getD 0) 0)) x1 3).getD 0) x2.toNatClampNeg) 5) ∧ (iR (siC S ((grC S ((grC S x0 3).getD 0) x2.toNatClampNeg).getD 0) 0 (giC S ((grC S ((grC S x1 3).getD 0) x2.toNatClampNeg).getD 0) 0)) (grC (siC S ((grC S ((grC S x0 3).getD 0) x2.toNatClampNeg).getD 0) 0 (giC S ((grC S ((grC S x1 3).getD 0) x2.toNatClampNeg).getD 0) 0)) x0 3) 24) ∧ (vp_in x2 (lnC (siC S ((grC S ((grC S x0 3).getD 0) x2.toNatClampNeg).getD 0) 0 (giC S ((grC S ((grC S x1 3).getD 0) x2.toNatClampNeg).getD 0) 0)) ((grC (siC S ((grC S ((grC S x0 3).getD 0) x2.toNatClampNeg).getD 0) 0 (giC S ((grC S ((grC S x1 3).getD 0) x2.toNatClampNeg).getD 0) 0)) x0 3).getD 0))) ∧ (iR (siC S ((grC S ((grC S x0 3).getD 0) x2.toNatClampNeg).getD 0) 0 (giC S ((grC S ((grC S x1 3).getD 0) x2.toNatClampNeg).getD 0) 0)) (grC (siC S ((grC S ((grC S x0 3).getD 0) x2.toNatClampNeg).getD 0) 0 (giC S ((grC S ((grC S x1 3).getD 0) x2.toNatClampNeg).getD 0) 0)) ((grC (siC S ((grC S ((grC S x0 3).getD 0) x2.toNatClampNeg).getD 0) 0 (giC S ((grC S ((grC S x1 3).getD 0) x2.toNatClampNeg).getD 0) 0)) x0 3).getD 0) x2.toNatClampNeg) 5) ∧ (q_Y0_become_104a (siC S ((grC S ((grC S x0 3).getD 0) x2.toNatClampNeg).getD 0) 0 (giC S ((grC S ((grC S x1 3).getD 0) x2.toNatClampNeg).getD 0) 0)) x0 x1 lc ls x2 (grC (siC S ((grC S ((grC S x0 3).getD 0) x2.toNatClampNeg).getD 0) 0 (giC S ((grC S ((grC S x1 3).getD 0) x2.toNatClampNeg).getD 0) 0)) ((grC (siC S ((grC S ((grC S x0 3).getD 0) x2.toNatClampNeg).getD 0) 0 (giC S ((grC S ((grC S x1 3).getD 0) x2.toNatClampNeg).getD 0) 0)) ((grC (siC S ((grC S ((grC S x0 3).getD 0) x2.toNatClampNeg).getD 0) 0 (giC S ((grC S ((grC S x1 3).getD 0) x2.toNatClampNeg).getD 0) 0)) x0 3).getD 0) x2.toNatClampNeg).getD 0) 1) (grC (siC S ((grC S ((grC S x0 3).getD 0) x2.toNatClampNeg).getD 0) 0 (giC S ((grC S ((grC S x1 3).getD 0) x2.toNatClampNeg).getD 0) 0)) ((grC (siC S ((grC S ((grC S x0 3).getD 0) x2.toNatClampNeg).getD 0) 0 (giC S ((grC S ((grC S x1 3).getD 0) x2.toNatClampNeg).getD 0) 0)) ((grC (siC S ((grC S ((grC S x0 3).getD 0) x2.toNatClampNeg).getD 0) 0 (giC S ((grC S ((grC S x1 3).getD 0) x2.toNatClampNeg).getD 0) 0)) x1 3).getD 0) x2.toNatClampNeg).getD 0) 1)))
def lp_Y0_become_61 (x0 : Nat) (x1 : Nat) : Nat → Cst → Int32 → Int32 × Cst
  | 0, S, _ => (0, S)
  | n + 1, S, x2 => match st_Y0_become_61 S x0 x1 x2 with
    | Sum.inl r => r
    | Sum.inr q => lp_Y0_become_61 x0 x1 n q.1 q.2
def lq_Y0_become_61 (x0 : Nat) (x1 : Nat) (lc : Nat) (ls : Nat) : Nat → Cst → Int32 → Prop
  | 0, _, _ => False
  | n + 1, S, x2 => ps_Y0_become_61 S x0 x1 lc ls x2 ∧ (match st_Y0_become_61 S x0 x1 x2 with
    | Sum.inl _ => True
    | Sum.inr q => lq_Y0_become_61 x0 x1 lc ls n q.1 q.2)
def b_Y0_become_59a (S : Cst) (x0 : Nat) (x1 : Nat)  : Int32 × Cst := (lp_Y0_become_61 x0 x1 100000 S 0)
def q_Y0_become_59a (S : Cst) (x0 : Nat) (x1 : Nat) (lc : Nat) (ls : Nat)  : Prop := (lq_Y0_become_61 x0 x1 lc ls 100000 S 0)
def b_Y0_become_56a (S : Cst) (x0 : Nat) (x1 : Nat) (o0 : Option Nat) (o1 : Option Nat) : Int32 × Cst := (b_Y0_become_59a ((f_Y0_copy S x0 (o1.getD 0) (o0.getD 0)).2) x0 x1)
def q_Y0_become_56a (S : Cst) (x0 : Nat) (x1 : Nat) (lc : Nat) (ls : Nat) (o0 : Option Nat) (o1 : Option Nat) : Prop := (iR S o1 4) ∧ (iR S o0 4) ∧ ((S.1 ≤ (f_Y0_copy S x0 (o1.getD 0) (o0.getD 0)).2.1 ∧ (f_Y0_copy S x0 (o1.getD 0) (o0.getD 0)).2.1 ≤ lc) ∧ (S.2.1 ≤ (f_Y0_copy S x0 (o1.getD 0) (o0.getD 0)).2.2.1 ∧ (f_Y0_copy S x0 (o1.getD 0) (o0.getD 0)).2.2.1 ≤ ls)) ∧ (p_Y0_copy S x0 (o1.getD 0) (o0.getD 0) (f_Y0_copy S x0 (o1.getD 0) (o0.getD 0)).2.1 (f_Y0_copy S x0 (o1.getD 0) (o0.getD 0)).2.2.1) ∧ (q_Y0_become_59a ((f_Y0_copy S x0 (o1.getD 0) (o0.getD 0)).2) x0 x1 lc ls)
def b_Y0_become_27a (S : Cst) (x0 : Nat) (x1 : Nat)  : Int32 × Cst := (b_Y0_become_56a (siC S ((grC S x0 2).getD 0) 0 (giC S ((grC S x1 2).getD 0) 0)) x0 x1 (grC (siC S ((grC S x0 2).getD 0) 0 (giC S ((grC S x1 2).getD 0) 0)) ((grC (siC S ((grC S x0 2).getD 0) 0 (giC S ((grC S x1 2).getD 0) 0)) x0 2).getD 0) 1) (grC (siC S ((grC S x0 2).getD 0) 0 (giC S ((grC S x1 2).getD 0) 0)) ((grC (siC S ((grC S x0 2).getD 0) 0 (giC S ((grC S x1 2).getD 0) 0)) x1 2).getD 0) 1))
def q_Y0_become_27a (S : Cst) (x0 : Nat) (x1 : Nat) (lc : Nat) (ls : Nat)  : Prop := (iR S (grC S x1 2) 5) ∧ (iR S (grC S x0 2) 5) ∧ (iR (siC S ((grC S x0 2).getD 0) 0 (giC S ((grC S x1 2).getD 0) 0)) (grC (siC S ((grC S x0 2).getD 0) 0 (giC S ((grC S x1 2).getD 0) 0)) x1 2) 5) ∧ (iR (siC S ((grC S x0 2).getD 0) 0 (giC S ((grC S x1 2).getD 0) 0)) (grC (siC S ((grC S x0 2).getD 0) 0 (giC S ((grC S x1 2).getD 0) 0)) x0 2) 5) ∧ (q_Y0_become_56a (siC S ((grC S x0 2).getD 0) 0 (giC S ((grC S x1 2).getD 0) 0)) x0 x1 lc ls (grC (siC S ((grC S x0 2).getD 0) 0 (giC S ((grC S x1 2).getD 0) 0)) ((grC (siC S ((grC S x0 2).getD 0) 0 (giC S ((grC S x1 2).getD 0) 0)) x0 2).getD 0) 1) (grC (siC S ((grC S x0 2).getD 0) 0 (giC S ((grC S x1 2).getD 0) 0)) ((grC (siC S ((grC S x0 2).getD 0) 0 (giC S ((grC S x1 2).getD 0) 0)) x1 2).getD 0) 1))
def b_Y0_become_15a (S : Cst) (x0 : Nat) (x1 : Nat)  : Int32 × Cst := (b_Y0_become_27a ((f_Y0_copy S x0 ((grC S x1 1).getD 0) ((grC S x0 1).getD 0)).2) x0 x1)
def q_Y0_become_15a (S : Cst) (x0 : Nat) (x1 : Nat) (lc : Nat) (ls : Nat)  : Prop := (iR S (grC S x1 1) 4) ∧ (iR S (grC S x0 1) 4) ∧ ((S.1 ≤ (f_Y0_copy S x0 ((grC S x1 1).getD 0) ((grC S x0 1).getD 0)).2.1 ∧ (f_Y0_copy S x0 ((grC S x1 1).getD 0) ((grC S x0 1).getD 0)).2.1 ≤ lc) ∧ (S.2.1 ≤ (f_Y0_copy S x0 ((grC S x1 1).getD 0) ((grC S x0 1).getD 0)).2.2.1 ∧ (f_Y0_copy S x0 ((grC S x1 1).getD 0) ((grC S x0 1).getD 0)).2.2.1 ≤ ls)) ∧ (p_Y0_copy S x0 ((grC S x1 1).getD 0) ((grC S x0 1).getD 0) (f_Y0_copy S x0 ((grC S x1 1).getD 0) ((grC S x0 1).getD 0)).2.1 (f_Y0_copy S x0 ((grC S x1 1).getD 0) ((grC S x0 1).getD 0)).2.2.1) ∧ (q_Y0_become_27a ((f_Y0_copy S x0 ((grC S x1 1).getD 0) ((grC S x0 1).getD 0)).2) x0 x1 lc ls)
def b_Y0_become_4a (S : Cst) (x0 : Nat) (x1 : Nat)  : Int32 × Cst := (b_Y0_become_15a ((f_Y2_become S ((grC S x0 0).getD 0) ((grC S x1 0).getD 0)).2) x0 x1)
def q_Y0_become_4a (S : Cst) (x0 : Nat) (x1 : Nat) (lc : Nat) (ls : Nat)  : Prop := (iR S (grC S x0 0) 1) ∧ (iR S (grC S x1 0) 1) ∧ (p_Y2_become S ((grC S x0 0).getD 0) ((grC S x1 0).getD 0)) ∧ (q_Y0_become_15a ((f_Y2_become S ((grC S x0 0).getD 0) ((grC S x1 0).getD 0)).2) x0 x1 lc ls)
def f_Y0_become (S : Cst) (x0 : Nat) (x1 : Nat) : Int32 × Cst := (b_Y0_become_4a ((f_Y0_clear S x0).2) x0 x1)
def p_Y0_become (S : Cst) (x0 : Nat) (x1 : Nat) (lc : Nat) (ls : Nat) : Prop := (p_Y0_clear S x0) ∧ (q_Y0_become_4a ((f_Y0_clear S x0).2) x0 x1 lc ls)
def e_Y0_become : List Cond := [.methodLink RX0 59 yX0_clear, .instanceMethod yX0_clear, .selects RX0 yX0_clear yX0_clear, .initialized RX0, .fieldLink RX0 12 "MotionFloor$Assembly" "house" "LMotionFloor$House;", .methodLink RX0 76 yX2_become, .instanceMethod yX2_become, .selects RX2 yX2_become yX2_become, .initialized RX2, .fieldLink RX0 21 "MotionFloor$Assembly" "pending" "LMotionFloor$Pile;", .methodLink RX0 80 yX0_copy, .instanceMethod yX0_copy, .selects RX0 yX0_copy yX0_copy, .fieldLink RX0 28 "MotionFloor$Assembly" "draft" "LMotionFloor$Place;", .fieldLink RX0 84 "MotionFloor$Place" "sort" "I", .fieldLink RX0 87 "MotionFloor$Place" "pile" "LMotionFloor$Pile;", .fieldLink RX0 41 "MotionFloor$Assembly" "minutes" "LMotionFloor$Ledger;", .methodLink RX0 90 yX3_become, .instanceMethod yX3_become, .selects RX3 yX3_become yX3_become, .initialized RX3, .fieldLink RX0 45 "MotionFloor$Assembly" "results" "LMotionFloor$Ledger;", .fieldLink RX0 51 "MotionFloor$Assembly" "adopted" "LMotionFloor$Text;", .methodLink RX0 93 yX9_become, .instanceMethod yX9_become, .selects RX9 yX9_become yX9_become, .initialized RX9, .fieldLink RX0 67 "MotionFloor$Assembly" "adoptions" "I", .fieldLink RX0 70 "MotionFloor$Assembly" "names" "I", .fieldLink RX0 73 "MotionFloor$Assembly" "reason" "I", .fieldLink RX0 32 "MotionFloor$Assembly" "desk" "[LMotionFloor$Place;"]
def v_Y0_become : List Cond := .code yX0_become cX0_become 3 none :: (e_Y0_become ++ (wsX00 ++ (wsX60 ++ (v_Y0_clear ++ (v_Y2_become ++ (v_Y0_copy ++ (v_Y3_become ++ (v_Y9_become ++ []))))))))
theorem te_Y0_become : GoodIn lw_tbl e_Y0_become := wGc zc106 (wGc zc105 (wGc zc104 (wGc zc39 (wGc zc103 (wGc zc617 (wGc zc616 (wGc zc615 (wGc zc77 (wGc zc58 (wGc zc614 (wGc zc613 (wGc zc612 (wGc zc57 (wGc zc47 (wGc zc51 (wGc zc99 (wGc zc611 (wGc zc610 (wGc zc609 (wGc zc480 (wGc zc97 (wGc zc96 (wGc zc608 (wGc zc278 (wGc zc277 (wGc zc130 (wGc zc94 (wGc zc93 (wGc zc92 (wGc zc53 (wG0)))))))))))))))))))))))))))))))
theorem t_Y0_become : GoodIn lw_tbl v_Y0_become := wGc zc618 (wGa te_Y0_become (wGa zcX0 (wGa zcX6 (wGa t_Y0_clear (wGa t_Y2_become (wGa t_Y0_copy (wGa t_Y3_become (wGa t_Y9_become (wG0)))))))))
set_option maxHeartbeats 4000000 in
set_option maxRecDepth 100000 in
theorem c_Y0_become (l : Launch) (G : va_G) (K : Nat → ClassId) (ad0 : Nat → Nat) (S0 : Cst) (x0 : Nat) (x1 : Nat) (lc : Nat) (ls : Nat)  (sz : Nat) : Met l yX0_become v_Y0_become ({ frames := 5, cells := lc - S0.1, slots := ls - S0.2.1, locals := 127 }) (va_Pc [.ref (ad0 x0), .ref (ad0 x1)] (cSt G K ad0 sz S0 ((S0.1 ≤ lc ∧ S0.2.1 ≤ ls) ∧ iK S0 x0 0 ∧ iK S0 x1 0 ∧ p_Y0_become S0 x0 x1 lc ls))) (va_Qv (fun (u : Cst × (Nat → Nat)) => (0, u.1) = f_Y0_become S0 x0 x1 ∧ eN S0 u.1 ∧ (∀ q, q < S0.1 → u.2 q = ad0 q)) (fun u t => cBt G K u.2 (va_A (wsC K ad0 S0) sz) u.1 t) (va_A (wsC K ad0 S0) sz)) (lc - S0.1) (ls - S0.2.1) (va_A (wsC K ad0 S0) sz) := by
  refine Met.ofW (cc := cX0_become) (maxL := 3) (ret := none) (by decide) rfl ?_
  intro p e s m args below meth c s₁ B hml hv
  obtain ⟨rfl, ⟨hsz, hP, hK, hD0, hTE⟩, hp⟩ := hv
  obtain ⟨k_l, hp⟩ := hp
  obtain ⟨k_x0, hp⟩ := hp
  obtain ⟨k_x1, hp⟩ := hp
  have hx := B.exec
  have hb := B.bytes
  have hr := B.returns
  have hts := atoms_spec (ws := v_Y0_become) B.pre
  have t_ := t_Y0_become
  have mw : ∀ w ∈ e_Y0_become, w ∈ v_Y0_become := fun w h => List.mem_cons_of_mem _ (List.mem_append_left _ h)
  have hw := fun w (h : w ∈ e_Y0_become) => hts w (mw w h)
  have iX0 : ∀ w ∈ wsX00, w ∈ v_Y0_become := fun w h => List.mem_cons_of_mem _ (List.mem_append_right _ (List.mem_append_left _ h))
  have iX6 : ∀ w ∈ wsX60, w ∈ v_Y0_become := fun w h => List.mem_cons_of_mem _ (List.mem_append_right _ (List.mem_append_right _ (List.mem_append_left _ h)))
  have j_Y0_clear : ∀ w ∈ v_Y0_clear, w ∈ v_Y0_become := fun w h => List.mem_cons_of_mem _ (List.mem_append_right _ (List.mem_append_right _ (List.mem_append_right _ (List.mem_append_left _ h))))
  have j_Y2_become : ∀ w ∈ v_Y2_become, w ∈ v_Y0_become := fun w h => List.mem_cons_of_mem _ (List.mem_append_right _ (List.mem_append_right _ (List.mem_append_right _ (List.mem_append_right _ (List.mem_append_left _ h)))))
  have j_Y0_copy : ∀ w ∈ v_Y0_copy, w ∈ v_Y0_become := fun w h => List.mem_cons_of_mem _ (List.mem_append_right _ (List.mem_append_right _ (List.mem_append_right _ (List.mem_append_right _ (List.mem_append_right _ (List.mem_append_left _ h))))))
  have j_Y3_become : ∀ w ∈ v_Y3_become, w ∈ v_Y0_become := fun w h => List.mem_cons_of_mem _ (List.mem_append_right _ (List.mem_append_right _ (List.mem_append_right _ (List.mem_append_right _ (List.mem_append_right _ (List.mem_append_right _ (List.mem_append_left _ h)))))))
  have j_Y9_become : ∀ w ∈ v_Y9_become, w ∈ v_Y0_become := fun w h => List.mem_cons_of_mem _ (List.mem_append_right _ (List.mem_append_right _ (List.mem_append_right _ (List.mem_append_right _ (List.mem_append_right _ (List.mem_append_right _ (List.mem_append_right _ (List.mem_append_left _ h))))))))
  have hown : s.vm.findClass RX0 = some m.cls := findClass_of_methodNamed B.named
  have hlocks := B.notSynchronized
  subst hsz
  have hD := hD0.self (sz := s.heap.size)
  generalize hAe : va_A (wsC K ad0 S0) s.heap.size = A at hD ⊢
  have hA : ∀ q : Nat, s.heap.size ≤ q → A q := fun q h => by rw [← hAe]; exact Or.inr h
  have hS : va_S A s.heap s.heap [] := va_S.rf
  have hl : lv_has (lg_sl ([.ref (ad0 x0), .ref (ad0 x1)]) ++ List.replicate (3 - (lg_sl ([.ref (ad0 x0), .ref (ad0 x1)])).length) Slot.unset).toArray 3 [(0, .ref (ad0 x0)), (1, .ref (ad0 x1))] := by
    exact lv_entry ([.ref (ad0 x0), .ref (ad0 x1)]) (n := 3) (Nat.le_of_ble_eq_true rfl)
  rw [lg_entry_eq]
  generalize (lg_sl ([.ref (ad0 x0), .ref (ad0 x1)]) ++ List.replicate (3 - (lg_sl ([.ref (ad0 x0), .ref (ad0 x1)])).length) Slot.unset).toArray = ls_ at hl ⊢
  refine wGen (fun Q hQ => ?_)
  obtain ⟨X, hX⟩ : ∃ X, f_Y0_become S0 x0 x1 = X := ⟨_, rfl⟩
  have B_Y0_become_146a : ∀ (S : Cst) (ad : Nat → Nat) (x2 : Int32) (H : Heap) (locs : List Loc) (ls_ : Array Slot), b_Y0_become_146a S x0 x1 x2 = X → q_Y0_become_146a S x0 x1 lc ls x2 → nH S0 ad0 lc ls S ad → va_P G vwCl (wsC K ad S) H → va_D A (wsC K ad S) → va_S A s.heap H locs → lv_has ls_ 3 [(0, .ref (ad x0)), (1, .ref (ad x1)), (2, .int x2)] → W p l e ({ frames := 5, cells := lc - S0.1, slots := ls - S0.2.1, locals := 127 } : Room) s m #[Value.ref (ad0 x0), Value.ref (ad0 x1)] below meth c H locs (S.1 - S0.1) (S.2.1 - S0.2.1) Q (F0 m 146 ls_ []) := by
    intro S ad x2 H locs ls_ hE hp hZ hP hD hS hl
    unfold b_Y0_become_146a at hE
    unfold q_Y0_become_146a at hp
    refine lv_aload_n hx hb dX0_become_146 rfl (lv_at hl 0 rfl) ?_
    refine lv_aload_n hx hb dX0_become_147 rfl (lv_at hl 1 rfl) ?_
    refine va_get (D := G) (ci := 0) (v := .int (giC S x1 7)) (C := RX0) (T := TX0) (N := 11) hx hb hts iX0 hown hK hP x1 (at_0 (k_x1.n hZ.1)) rfl 7 (by decide) (hw (.fieldLink RX0 67 "MotionFloor$Assembly" "adoptions" "I") (List.mem_of_getElem? (i := 27) rfl)) (fun _ h9 => h9) rfl dX0_become_148 ?_
    refine va_put (D := G) (ci := 0) (v := .int (giC S x1 7)) (ty := .int) (C := RX0) (T := TX0) (N := 11) hx hb hts iX0 tyX0 tyX0_ok nmX0 hown hK hP hD hS x0 (at_0 (k_x0.n hZ.1)) rfl 7 (by decide) (hw (.fieldLink RX0 67 "MotionFloor$Assembly" "adoptions" "I") (List.mem_of_getElem? (i := 27) rfl)) (fun _ h9 => h9) rfl (by decide +kernel) rfl rfl (Nat.le_of_ble_eq_true rfl) dX0_become_151 (fun H locs hP hD hS => ?_)
    rw [st_0_7 (k_x0.n hZ.1)] at hP hD
    have hZ := hZ.k (eK.si S x0 7 (giC S x1 7))
    refine lv_aload_n hx hb dX0_become_154 rfl (lv_at hl 0 rfl) ?_
    refine lv_aload_n hx hb dX0_become_155 rfl (lv_at hl 1 rfl) ?_
    refine va_get (D := G) (ci := 0) (v := .int (giC (siC S x0 7 (giC S x1 7)) x1 8)) (C := RX0) (T := TX0) (N := 11) hx hb hts iX0 hown hK hP x1 (at_0 (k_x1.n hZ.1)) rfl 8 (by decide) (hw (.fieldLink RX0 70 "MotionFloor$Assembly" "names" "I") (List.mem_of_getElem? (i := 28) rfl)) (fun _ h9 => h9) rfl dX0_become_156 ?_
    refine va_put (D := G) (ci := 0) (v := .int (giC (siC S x0 7 (giC S x1 7)) x1 8)) (ty := .int) (C := RX0) (T := TX0) (N := 11) hx hb hts iX0 tyX0 tyX0_ok nmX0 hown hK hP hD hS x0 (at_0 (k_x0.n hZ.1)) rfl 8 (by decide) (hw (.fieldLink RX0 70 "MotionFloor$Assembly" "names" "I") (List.mem_of_getElem? (i := 28) rfl)) (fun _ h9 => h9) rfl (by decide +kernel) rfl rfl (Nat.le_of_ble_eq_true rfl) dX0_become_159 (fun H locs hP hD hS => ?_)
    rw [st_0_8 (k_x0.n hZ.1)] at hP hD
    have hZ := hZ.k (eK.si (siC S x0 7 (giC S x1 7)) x0 8 (giC (siC S x0 7 (giC S x1 7)) x1 8))
    refine lv_aload_n hx hb dX0_become_162 rfl (lv_at hl 0 rfl) ?_
    refine lv_iconst (v := 0) hx hb dX0_become_163 (by decide) ?_
    refine va_put (D := G) (ci := 0) (v := .int 0) (ty := .int) (C := RX0) (T := TX0) (N := 11) hx hb hts iX0 tyX0 tyX0_ok nmX0 hown hK hP hD hS x0 (at_0 (k_x0.n hZ.1)) rfl 9 (by decide) (hw (.fieldLink RX0 73 "MotionFloor$Assembly" "reason" "I") (List.mem_of_getElem? (i := 29) rfl)) (fun _ h9 => h9) rfl (by decide +kernel) rfl rfl (Nat.le_of_ble_eq_true rfl) dX0_become_164 (fun H locs hP hD hS => ?_)
    rw [st_0_9 (k_x0.n hZ.1)] at hP hD
    have hZ := hZ.k (eK.si (siC (siC S x0 7 (giC S x1 7)) x0 8 (giC (siC S x0 7 (giC S x1 7)) x1 8)) x0 9 (0 : Int32))
    refine W.widen (k := lc - S0.1) (n := ls - S0.2.1) (show S.1 - S0.1 ≤ lc - S0.1 from Nat.sub_le_sub_right hZ.2.2.1 _) (show S.2.1 - S0.2.1 ≤ ls - S0.2.1 from Nat.sub_le_sub_right hZ.2.2.2 _) ?_
    subst hQ
    exact W.vret hx hb hr (fun t ht hW => ⟨⟨((siC (siC (siC S x0 7 (giC S x1 7)) x0 8 (giC (siC S x0 7 (giC S x1 7)) x1 8)) x0 9 (0 : Int32)), ad), rfl, ⟨hE.trans hX.symm, hZ.1, hZ.2.1⟩, by rw [ht]; exact hP, hD⟩, hS.F ht⟩) hS.2.2 dX0_become_167
  have B_Y0_become_135a : ∀ (S : Cst) (ad : Nat → Nat) (x2 : Int32) (H : Heap) (locs : List Loc) (ls_ : Array Slot), b_Y0_become_135a S x0 x1 x2 = X → q_Y0_become_135a S x0 x1 lc ls x2 → nH S0 ad0 lc ls S ad → va_P G vwCl (wsC K ad S) H → va_D A (wsC K ad S) → va_S A s.heap H locs → lv_has ls_ 3 [(0, .ref (ad x0)), (1, .ref (ad x1)), (2, .int x2)] → W p l e ({ frames := 5, cells := lc - S0.1, slots := ls - S0.2.1, locals := 127 } : Room) s m #[Value.ref (ad0 x0), Value.ref (ad0 x1)] below meth c H locs (S.1 - S0.1) (S.2.1 - S0.2.1) Q (F0 m 135 ls_ []) := by
    intro S ad x2 H locs ls_ hE hp hZ hP hD hS hl
    unfold b_Y0_become_135a at hE
    unfold q_Y0_become_135a at hp
    refine lv_aload_n hx hb dX0_become_135 rfl (lv_at hl 0 rfl) ?_
    refine va_get (D := G) (ci := 0) (v := va_re ad (grC S x0 6)) (C := RX0) (T := TX0) (N := 11) hx hb hts iX0 hown hK hP x0 (at_0 (k_x0.n hZ.1)) rfl 6 (by decide) (hw (.fieldLink RX0 51 "MotionFloor$Assembly" "adopted" "LMotionFloor$Text;") (List.mem_of_getElem? (i := 22) rfl)) (fun _ h9 => h9) rfl dX0_become_136 ?_
    refine lv_aload_n hx hb dX0_become_139 rfl (lv_at hl 1 rfl) ?_
    refine va_get (D := G) (ci := 0) (v := va_re ad (grC S x1 6)) (C := RX0) (T := TX0) (N := 11) hx hb hts iX0 hown hK hP x1 (at_0 (k_x1.n hZ.1)) rfl 6 (by decide) (hw (.fieldLink RX0 51 "MotionFloor$Assembly" "adopted" "LMotionFloor$Text;") (List.mem_of_getElem? (i := 22) rfl)) (fun _ h9 => h9) rfl dX0_become_140 ?_
    obtain ⟨hy38, hp⟩ := hp
    refine cTop2 (r := (grC S x0 6)) hy38.1 ?_
    obtain ⟨hy39, hp⟩ := hp
    refine cTop (r := (grC S x1 6)) hy39.1 ?_
    obtain ⟨hy40, hp⟩ := hp
    refine cGov (va_runV (As := [.ref (ad ((grC S x1 6).getD 0))]) (rest := []) ⟨hx, hb, hml, hown, hts⟩ (c_Y9_become l G K ad S ((grC S x0 6).getD 0) ((grC S x1 6).getD 0) _) (cwV 1 hts (wGV t_ (mw (.methodLink RX0 93 yX9_become) (List.mem_of_getElem? (i := 23) rfl)) (mw (.instanceMethod yX9_become) (List.mem_of_getElem? (i := 24) rfl)) (mw (.selects RX9 yX9_become yX9_become) (List.mem_of_getElem? (i := 25) rfl)) (mw (.initialized RX9) (List.mem_of_getElem? (i := 26) rfl)) j_Y9_become) rfl rfl rfl (by decide +kernel) ⟨Nat.le_of_ble_eq_true rfl, Nat.le_of_ble_eq_true rfl⟩) (cPV hK hTE hP hD 6 rfl (at_6 hy38.2) ⟨hy38.2, hy39.2, hy40⟩) rfl rfl hl.1 rfl (lv_room (Nat.le_of_ble_eq_true rfl)) dX0_become_143 ⟨(show S.1 - S0.1 ≤ lc - S0.1 from Nat.sub_le_sub_right hZ.2.2.1 _), (show S.2.1 - S0.2.1 ≤ ls - S0.2.1 from Nat.sub_le_sub_right hZ.2.2.2 _)⟩) hP hD hS hA (fun u41 H locs hv hP hD hS => ?_)
    obtain ⟨hv, hz⟩ := hv
    have hZ := hZ.k hz
    refine cCells (cells' := u41.1 - S0.1) (slots' := u41.2.1 - S0.2.1) (by have e : S.1 = u41.1 := hz.1.1; show S.1 - S0.1 + 0 = _; omega) (by have e : S.2.1 = u41.2.1 := hz.1.2; show S.2.1 - S0.2.1 + 0 = _; omega) ?_
    rw [← hv] at hE hp
    dsimp only at hE hp
    exact B_Y0_become_146a u41 ad x2 _ _ _ hE hp hZ hP hD hS (lv_sub hl [0, 1, 2] rfl)
  have B_Y0_become_124a : ∀ (S : Cst) (ad : Nat → Nat) (x2 : Int32) (H : Heap) (locs : List Loc) (ls_ : Array Slot), b_Y0_become_124a S x0 x1 x2 = X → q_Y0_become_124a S x0 x1 lc ls x2 → nH S0 ad0 lc ls S ad → va_P G vwCl (wsC K ad S) H → va_D A (wsC K ad S) → va_S A s.heap H locs → lv_has ls_ 3 [(0, .ref (ad x0)), (1, .ref (ad x1)), (2, .int x2)] → W p l e ({ frames := 5, cells := lc - S0.1, slots := ls - S0.2.1, locals := 127 } : Room) s m #[Value.ref (ad0 x0), Value.ref (ad0 x1)] below meth c H locs (S.1 - S0.1) (S.2.1 - S0.2.1) Q (F0 m 124 ls_ []) := by
    intro S ad x2 H locs ls_ hE hp hZ hP hD hS hl
    unfold b_Y0_become_124a at hE
    unfold q_Y0_become_124a at hp
    refine lv_aload_n hx hb dX0_become_124 rfl (lv_at hl 0 rfl) ?_
    refine va_get (D := G) (ci := 0) (v := va_re ad (grC S x0 5)) (C := RX0) (T := TX0) (N := 11) hx hb hts iX0 hown hK hP x0 (at_0 (k_x0.n hZ.1)) rfl 5 (by decide) (hw (.fieldLink RX0 45 "MotionFloor$Assembly" "results" "LMotionFloor$Ledger;") (List.mem_of_getElem? (i := 21) rfl)) (fun _ h9 => h9) rfl dX0_become_125 ?_
    refine lv_aload_n hx hb dX0_become_128 rfl (lv_at hl 1 rfl) ?_
    refine va_get (D := G) (ci := 0) (v := va_re ad (grC S x1 5)) (C := RX0) (T := TX0) (N := 11) hx hb hts iX0 hown hK hP x1 (at_0 (k_x1.n hZ.1)) rfl 5 (by decide) (hw (.fieldLink RX0 45 "MotionFloor$Assembly" "results" "LMotionFloor$Ledger;") (List.mem_of_getElem? (i := 21) rfl)) (fun _ h9 => h9) rfl dX0_become_129 ?_
    obtain ⟨hy32, hp⟩ := hp
    refine cTop2 (r := (grC S x0 5)) hy32.1 ?_
    obtain ⟨hy33, hp⟩ := hp
    refine cTop (r := (grC S x1 5)) hy33.1 ?_
    obtain ⟨hy34, hp⟩ := hp
    obtain ⟨hy35, hp⟩ := hp
    refine cNov (va_runV (As := [.ref (ad ((grC S x1 5).getD 0))]) (rest := []) ⟨hx, hb, hml, hown, hts⟩ (c_Y3_become l G K ad S ((grC S x0 5).getD 0) ((grC S x1 5).getD 0) (f_Y3_become S ((grC S x0 5).getD 0) ((grC S x1 5).getD 0)).2.1 (f_Y3_become S ((grC S x0 5).getD 0) ((grC S x1 5).getD 0)).2.2.1 _) (cwV 1 hts (wGV t_ (mw (.methodLink RX0 90 yX3_become) (List.mem_of_getElem? (i := 17) rfl)) (mw (.instanceMethod yX3_become) (List.mem_of_getElem? (i := 18) rfl)) (mw (.selects RX3 yX3_become yX3_become) (List.mem_of_getElem? (i := 19) rfl)) (mw (.initialized RX3) (List.mem_of_getElem? (i := 20) rfl)) j_Y3_become) rfl rfl rfl (by decide +kernel) ⟨Nat.le_of_ble_eq_true rfl, Nat.le_of_ble_eq_true rfl⟩) (cPV hK hTE hP hD 2 rfl (at_2 hy32.2) ⟨⟨hy34.1.1, hy34.2.1⟩, hy32.2, hy33.2, hy35⟩) rfl rfl hl.1 rfl (lv_room (Nat.le_of_ble_eq_true rfl)) dX0_become_132 ⟨by show _ ≤ lc - S0.1; have := hZ.1.1.1; have := hy34.1; omega, by show _ ≤ ls - S0.2.1; have := hZ.1.1.2; have := hy34.2; omega⟩) hP hD hS hA (fun u36 H locs hv hP hD hS => ?_)
    obtain ⟨hv, hz, ha⟩ := hv
    have e1 : (f_Y3_become S ((grC S x0 5).getD 0) ((grC S x1 5).getD 0)).2.1 = u36.1.1 := by rw [← hv]
    have e2 : (f_Y3_become S ((grC S x0 5).getD 0) ((grC S x1 5).getD 0)).2.2.1 = u36.1.2.1 := by rw [← hv]
    refine cCells (cells' := u36.1.1 - S0.1) (slots' := u36.1.2.1 - S0.2.1) (by have := hZ.1.1.1; have := hy34.1; omega) (by have := hZ.1.1.2; have := hy34.2; omega) ?_
    rw [← ha x0 (k_x0.n hZ.1).1] at hl
    rw [← ha x1 (k_x1.n hZ.1).1] at hl
    have hZ := hZ.n hz ha (by rw [← e1]; exact hy34.1.2) (by rw [← e2]; exact hy34.2.2)
    rw [← hv] at hE hp
    dsimp only at hE hp
    exact B_Y0_become_135a u36.1 u36.2 x2 _ _ _ hE hp hZ hP hD hS (lv_sub hl [0, 1, 2] rfl)
  have L_61 : ∀ (n : Nat) (S : Cst) (ad : Nat → Nat) (x2 : Int32) (H : Heap) (locs : List Loc) (ls_ : Array Slot), lp_Y0_become_61 x0 x1 n S x2 = X → lq_Y0_become_61 x0 x1 lc ls n S x2 → nH S0 ad0 lc ls S ad → va_P G vwCl (wsC K ad S) H → va_D A (wsC K ad S) → va_S A s.heap H locs → lv_has ls_ 3 [(0, .ref (ad x0)), (1, .ref (ad x1)), (2, .int x2)] → W p l e ({ frames := 5, cells := lc - S0.1, slots := ls - S0.2.1, locals := 127 } : Room) s m #[Value.ref (ad0 x0), Value.ref (ad0 x1)] below meth c H locs (S.1 - S0.1) (S.2.1 - S0.2.1) Q (F0 m 61 ls_ []) := by
    intro n1
    induction n1 with
    | zero => intro S ad x2 H locs ls_ hE hp; exact False.elim hp
    | succ n1 ih1 =>
      intro S ad x2 H locs ls_ hO1 hp hZ hP hD hS hl
      rw [lp_Y0_become_61] at hO1
      rw [lq_Y0_become_61] at hp
      obtain ⟨hp, hq1⟩ := hp
      generalize hE : st_Y0_become_61 S x0 x1 x2 = Y1 at hO1 hq1
      unfold st_Y0_become_61 at hE
      unfold ps_Y0_become_61 at hp
      have B_Y0_become_107a : ∀ (S : Cst) (ad : Nat → Nat) (x2 : Int32) (H : Heap) (locs : List Loc) (ls_ : Array Slot), b_Y0_become_107a S x0 x1 x2 = Y1 → q_Y0_become_107a S x0 x1 lc ls x2 → nH S0 ad0 lc ls S ad → va_P G vwCl (wsC K ad S) H → va_D A (wsC K ad S) → va_S A s.heap H locs → lv_has ls_ 3 [(0, .ref (ad x0)), (1, .ref (ad x1)), (2, .int x2)] → W p l e ({ frames := 5, cells := lc - S0.1, slots := ls - S0.2.1, locals := 127 } : Room) s m #[Value.ref (ad0 x0), Value.ref (ad0 x1)] below meth c H locs (S.1 - S0.1) (S.2.1 - S0.2.1) Q (F0 m 107 ls_ []) := by
        intro S ad x2 H locs ls_ hE hp hZ hP hD hS hl
        unfold b_Y0_become_107a at hE
        unfold q_Y0_become_107a at hp
        refine lv_iinc (i := 2) (v := (x2 + 1)) (lv' := [(2, .int (x2 + 1)), (0, .ref (ad x0)), (1, .ref (ad x1))]) hx hb dX0_become_107 hl (k := 2) rfl rfl (by decide) rfl (fun ls_ hl => ?_)
        refine lv_goto (tgt := 61) hx hb dX0_become_110 (by decide) ?_
        subst hE
        dsimp only at hO1 hq1
        exact ih1 S ad (x2 + 1) _ _ _ hO1 hq1 hZ hP hD hS (lv_sub hl [1, 2, 0] rfl)
      have B_Y0_become_104a : ∀ (S : Cst) (ad : Nat → Nat) (x2 : Int32) (o0 : Option Nat) (o1 : Option Nat) (H : Heap) (locs : List Loc) (ls_ : Array Slot), b_Y0_become_104a S x0 x1 x2 o0 o1 = Y1 → q_Y0_become_104a S x0 x1 lc ls x2 o0 o1 → nH S0 ad0 lc ls S ad → va_P G vwCl (wsC K ad S) H → va_D A (wsC K ad S) → va_S A s.heap H locs → lv_has ls_ 3 [(0, .ref (ad x0)), (1, .ref (ad x1)), (2, .int x2)] → W p l e ({ frames := 5, cells := lc - S0.1, slots := ls - S0.2.1, locals := 127 } : Room) s m #[Value.ref (ad0 x0), Value.ref (ad0 x1)] below meth c H locs (S.1 - S0.1) (S.2.1 - S0.2.1) Q (F0 m 104 ls_ [va_re ad o0, va_re ad o1, .ref (ad x0)]) := by
        intro S ad x2 o0 o1 H locs ls_ hE hp hZ hP hD hS hl
        unfold b_Y0_become_104a at hE
        unfold q_Y0_become_104a at hp
        obtain ⟨hy55, hp⟩ := hp
        refine cTop2 (r := o1) hy55.1 ?_
        obtain ⟨hy56, hp⟩ := hp
        refine cTop (r := o0) hy56.1 ?_
        obtain ⟨hy57, hp⟩ := hp
        obtain ⟨hy58, hp⟩ := hp
        refine cNov (va_runV (As := [.ref (ad (o1.getD 0)), .ref (ad (o0.getD 0))]) (rest := []) ⟨hx, hb, hml, hown, hts⟩ (c_Y0_copy l G K ad S x0 (o1.getD 0) (o0.getD 0) (f_Y0_copy S x0 (o1.getD 0) (o0.getD 0)).2.1 (f_Y0_copy S x0 (o1.getD 0) (o0.getD 0)).2.2.1 _) (cwV 2 hts (wGV t_ (mw (.methodLink RX0 80 yX0_copy) (List.mem_of_getElem? (i := 10) rfl)) (mw (.instanceMethod yX0_copy) (List.mem_of_getElem? (i := 11) rfl)) (mw (.selects RX0 yX0_copy yX0_copy) (List.mem_of_getElem? (i := 12) rfl)) (mw (.initialized RX0) (List.mem_of_getElem? (i := 3) rfl)) j_Y0_copy) rfl rfl rfl (by decide +kernel) ⟨Nat.le_of_ble_eq_true rfl, Nat.le_of_ble_eq_true rfl⟩) (cPV hK hTE hP hD 0 rfl (at_0 (k_x0.n hZ.1)) ⟨⟨hy57.1.1, hy57.2.1⟩, (k_x0.n hZ.1), hy55.2, hy56.2, hy58⟩) rfl rfl hl.1 rfl (lv_room (Nat.le_of_ble_eq_true rfl)) dX0_become_104 ⟨by show _ ≤ lc - S0.1; have := hZ.1.1.1; have := hy57.1; omega, by show _ ≤ ls - S0.2.1; have := hZ.1.1.2; have := hy57.2; omega⟩) hP hD hS hA (fun u59 H locs hv hP hD hS => ?_)
        obtain ⟨hv, hz, ha⟩ := hv
        have e1 : (f_Y0_copy S x0 (o1.getD 0) (o0.getD 0)).2.1 = u59.1.1 := by rw [← hv]
        have e2 : (f_Y0_copy S x0 (o1.getD 0) (o0.getD 0)).2.2.1 = u59.1.2.1 := by rw [← hv]
        refine cCells (cells' := u59.1.1 - S0.1) (slots' := u59.1.2.1 - S0.2.1) (by have := hZ.1.1.1; have := hy57.1; omega) (by have := hZ.1.1.2; have := hy57.2; omega) ?_
        rw [← ha x0 (k_x0.n hZ.1).1] at hl
        rw [← ha x1 (k_x1.n hZ.1).1] at hl
        have hZ := hZ.n hz ha (by rw [← e1]; exact hy57.1.2) (by rw [← e2]; exact hy57.2.2)
        rw [← hv] at hE hp
        dsimp only at hE hp
        exact B_Y0_become_107a u59.1 u59.2 x2 _ _ _ hE hp hZ hP hD hS (lv_sub hl [0, 1, 2] rfl)
      refine lv_iload_n hx hb dX0_become_61 rfl (lv_at hl 2 rfl) ?_
      refine lv_bipush (v := 8) hx hb dX0_become_62 (by decide) ?_
      refine lv_icmp_ge (tgt := 113) hx hb dX0_become_64 (by decide) (fun c25 => ?_) (fun c25 => ?_)
      · rw [if_pos c25] at hE hp
        subst hE
        have hE := hO1
        dsimp only at hE
        refine lv_aload_n hx hb dX0_become_113 rfl (lv_at hl 0 rfl) ?_
        refine va_get (D := G) (ci := 0) (v := va_re ad (grC S x0 4)) (C := RX0) (T := TX0) (N := 11) hx hb hts iX0 hown hK hP x0 (at_0 (k_x0.n hZ.1)) rfl 4 (by decide) (hw (.fieldLink RX0 41 "MotionFloor$Assembly" "minutes" "LMotionFloor$Ledger;") (List.mem_of_getElem? (i := 16) rfl)) (fun _ h9 => h9) rfl dX0_become_114 ?_
        refine lv_aload_n hx hb dX0_become_117 rfl (lv_at hl 1 rfl) ?_
        refine va_get (D := G) (ci := 0) (v := va_re ad (grC S x1 4)) (C := RX0) (T := TX0) (N := 11) hx hb hts iX0 hown hK hP x1 (at_0 (k_x1.n hZ.1)) rfl 4 (by decide) (hw (.fieldLink RX0 41 "MotionFloor$Assembly" "minutes" "LMotionFloor$Ledger;") (List.mem_of_getElem? (i := 16) rfl)) (fun _ h9 => h9) rfl dX0_become_118 ?_
        obtain ⟨hy26, hp⟩ := hp
        refine cTop2 (r := (grC S x0 4)) hy26.1 ?_
        obtain ⟨hy27, hp⟩ := hp
        refine cTop (r := (grC S x1 4)) hy27.1 ?_
        obtain ⟨hy28, hp⟩ := hp
        obtain ⟨hy29, hp⟩ := hp
        refine cNov (va_runV (As := [.ref (ad ((grC S x1 4).getD 0))]) (rest := []) ⟨hx, hb, hml, hown, hts⟩ (c_Y3_become l G K ad S ((grC S x0 4).getD 0) ((grC S x1 4).getD 0) (f_Y3_become S ((grC S x0 4).getD 0) ((grC S x1 4).getD 0)).2.1 (f_Y3_become S ((grC S x0 4).getD 0) ((grC S x1 4).getD 0)).2.2.1 _) (cwV 1 hts (wGV t_ (mw (.methodLink RX0 90 yX3_become) (List.mem_of_getElem? (i := 17) rfl)) (mw (.instanceMethod yX3_become) (List.mem_of_getElem? (i := 18) rfl)) (mw (.selects RX3 yX3_become yX3_become) (List.mem_of_getElem? (i := 19) rfl)) (mw (.initialized RX3) (List.mem_of_getElem? (i := 20) rfl)) j_Y3_become) rfl rfl rfl (by decide +kernel) ⟨Nat.le_of_ble_eq_true rfl, Nat.le_of_ble_eq_true rfl⟩) (cPV hK hTE hP hD 2 rfl (at_2 hy26.2) ⟨⟨hy28.1.1, hy28.2.1⟩, hy26.2, hy27.2, hy29⟩) rfl rfl hl.1 rfl (lv_room (Nat.le_of_ble_eq_true rfl)) dX0_become_121 ⟨by show _ ≤ lc - S0.1; have := hZ.1.1.1; have := hy28.1; omega, by show _ ≤ ls - S0.2.1; have := hZ.1.1.2; have := hy28.2; omega⟩) hP hD hS hA (fun u30 H locs hv hP hD hS => ?_)
        obtain ⟨hv, hz, ha⟩ := hv
        have e1 : (f_Y3_become S ((grC S x0 4).getD 0) ((grC S x1 4).getD 0)).2.1 = u30.1.1 := by rw [← hv]
        have e2 : (f_Y3_become S ((grC S x0 4).getD 0) ((grC S x1 4).getD 0)).2.2.1 = u30.1.2.1 := by rw [← hv]
        refine cCells (cells' := u30.1.1 - S0.1) (slots' := u30.1.2.1 - S0.2.1) (by have := hZ.1.1.1; have := hy28.1; omega) (by have := hZ.1.1.2; have := hy28.2; omega) ?_
        rw [← ha x0 (k_x0.n hZ.1).1] at hl
        rw [← ha x1 (k_x1.n hZ.1).1] at hl
        have hZ := hZ.n hz ha (by rw [← e1]; exact hy28.1.2) (by rw [← e2]; exact hy28.2.2)
        rw [← hv] at hE hp
        dsimp only at hE hp
        exact B_Y0_become_124a u30.1 u30.2 x2 _ _ _ hE hp hZ hP hD hS (lv_sub hl [0, 1, 2] rfl)
      · rw [if_neg c25] at hE hp
        refine lv_aload_n hx hb dX0_become_67 rfl (lv_at hl 0 rfl) ?_
        refine va_get (D := G) (ci := 0) (v := va_re ad (grC S x0 3)) (C := RX0) (T := TX0) (N := 11) hx hb hts iX0 hown hK hP x0 (at_0 (k_x0.n hZ.1)) rfl 3 (by decide) (hw (.fieldLink RX0 32 "MotionFloor$Assembly" "desk" "[LMotionFloor$Place;") (List.mem_of_getElem? (i := 30) rfl)) (fun _ h9 => h9) rfl dX0_become_68 ?_
        refine lv_iload_n hx hb dX0_become_71 rfl (lv_at hl 2 rfl) ?_
        obtain ⟨hy43, hp⟩ := hp
        refine cTop2 (r := (grC S x0 3)) hy43.1 ?_
        obtain ⟨hy44, hp⟩ := hp
        refine cAald hx hb hK hP ((grC S x0 3).getD 0) 4 (at_24 hy43.2) rfl hy44 dX0_become_72 ?_
        refine lv_aload_n hx hb dX0_become_73 rfl (lv_at hl 1 rfl) ?_
        refine va_get (D := G) (ci := 0) (v := va_re ad (grC S x1 3)) (C := RX0) (T := TX0) (N := 11) hx hb hts iX0 hown hK hP x1 (at_0 (k_x1.n hZ.1)) rfl 3 (by decide) (hw (.fieldLink RX0 32 "MotionFloor$Assembly" "desk" "[LMotionFloor$Place;") (List.mem_of_getElem? (i := 30) rfl)) (fun _ h9 => h9) rfl dX0_become_74 ?_
        refine lv_iload_n hx hb dX0_become_77 rfl (lv_at hl 2 rfl) ?_
        obtain ⟨hy45, hp⟩ := hp
        refine cTop2 (r := (grC S x1 3)) hy45.1 ?_
        obtain ⟨hy46, hp⟩ := hp
        refine cAald hx hb hK hP ((grC S x1 3).getD 0) 4 (at_24 hy45.2) rfl hy46 dX0_become_78 ?_
        obtain ⟨hy47, hp⟩ := hp
        refine cTop (r := (grC S ((grC S x1 3).getD 0) x2.toNatClampNeg)) hy47.1 ?_
        refine va_get (D := G) (ci := 5) (v := .int (giC S ((grC S ((grC S x1 3).getD 0) x2.toNatClampNeg).getD 0) 0)) (C := RX6) (T := TX6) (N := 2) hx hb hts iX6 hown hK hP ((grC S ((grC S x1 3).getD 0) x2.toNatClampNeg).getD 0) (at_5 hy47.2) rfl 0 (by decide) (hw (.fieldLink RX0 84 "MotionFloor$Place" "sort" "I") (List.mem_of_getElem? (i := 14) rfl)) (fun _ h9 => h9) rfl dX0_become_79 ?_
        obtain ⟨hy48, hp⟩ := hp
        refine cTop2 (r := (grC S ((grC S x0 3).getD 0) x2.toNatClampNeg)) hy48.1 ?_
        refine va_put (D := G) (ci := 5) (v := .int (giC S ((grC S ((grC S x1 3).getD 0) x2.toNatClampNeg).getD 0) 0)) (ty := .int) (C := RX6) (T := TX6) (N := 2) hx hb hts iX6 tyX6 tyX6_ok nmX6 hown hK hP hD hS ((grC S ((grC S x0 3).getD 0) x2.toNatClampNeg).getD 0) (at_5 hy48.2) rfl 0 (by decide) (hw (.fieldLink RX0 84 "MotionFloor$Place" "sort" "I") (List.mem_of_getElem? (i := 14) rfl)) (fun _ h9 => h9) rfl (by decide +kernel) rfl rfl (Nat.le_of_ble_eq_true rfl) dX0_become_82 (fun H locs hP hD hS => ?_)
        rw [st_5_0 hy48.2] at hP hD
        have hZ := hZ.k (eK.si S ((grC S ((grC S x0 3).getD 0) x2.toNatClampNeg).getD 0) 0 (giC S ((grC S ((grC S x1 3).getD 0) x2.toNatClampNeg).getD 0) 0))
        refine lv_aload_n hx hb dX0_become_85 rfl (lv_at hl 0 rfl) ?_
        refine lv_aload_n hx hb dX0_become_86 rfl (lv_at hl 1 rfl) ?_
        refine va_get (D := G) (ci := 0) (v := va_re ad (grC (siC S ((grC S ((grC S x0 3).getD 0) x2.toNatClampNeg).getD 0) 0 (giC S ((grC S ((grC S x1 3).getD 0) x2.toNatClampNeg).getD 0) 0)) x1 3)) (C := RX0) (T := TX0) (N := 11) hx hb hts iX0 hown hK hP x1 (at_0 (k_x1.n hZ.1)) rfl 3 (by decide) (hw (.fieldLink RX0 32 "MotionFloor$Assembly" "desk" "[LMotionFloor$Place;") (List.mem_of_getElem? (i := 30) rfl)) (fun _ h9 => h9) rfl dX0_become_87 ?_
        refine lv_iload_n hx hb dX0_become_90 rfl (lv_at hl 2 rfl) ?_
        obtain ⟨hy49, hp⟩ := hp
        refine cTop2 (r := (grC (siC S ((grC S ((grC S x0 3).getD 0) x2.toNatClampNeg).getD 0) 0 (giC S ((grC S ((grC S x1 3).getD 0) x2.toNatClampNeg).getD 0) 0)) x1 3)) hy49.1 ?_
        obtain ⟨hy50, hp⟩ := hp
        refine cAald hx hb hK hP ((grC (siC S ((grC S ((grC S x0 3).getD 0) x2.toNatClampNeg).getD 0) 0 (giC S ((grC S ((grC S x1 3).getD 0) x2.toNatClampNeg).getD 0) 0)) x1 3).getD 0) 4 (at_24 hy49.2) rfl hy50 dX0_become_91 ?_
        obtain ⟨hy51, hp⟩ := hp
        refine cTop (r := (grC (siC S ((grC S ((grC S x0 3).getD 0) x2.toNatClampNeg).getD 0) 0 (giC S ((grC S ((grC S x1 3).getD 0) x2.toNatClampNeg).getD 0) 0)) ((grC (siC S ((grC S ((grC S x0 3).getD 0) x2.toNatClampNeg).getD 0) 0 (giC S ((grC S ((grC S x1 3).getD 0) x2.toNatClampNeg).getD 0) 0)) x1 3).getD 0) x2.toNatClampNeg)) hy51.1 ?_
        refine va_get (D := G) (ci := 5) (v := va_re ad (grC (siC S ((grC S ((grC S x0 3).getD 0) x2.toNatClampNeg).getD 0) 0 (giC S ((grC S ((grC S x1 3).getD 0) x2.toNatClampNeg).getD 0) 0)) ((grC (siC S ((grC S ((grC S x0 3).getD 0) x2.toNatClampNeg).getD 0) 0 (giC S ((grC S ((grC S x1 3).getD 0) x2.toNatClampNeg).getD 0) 0)) ((grC (siC S ((grC S ((grC S x0 3).getD 0) x2.toNatClampNeg).getD 0) 0 (giC S ((grC S ((grC S x1 3).getD 0) x2.toNatClampNeg).getD 0) 0)) x1 3).getD 0) x2.toNatClampNeg).getD 0) 1)) (C := RX6) (T := TX6) (N := 2) hx hb hts iX6 hown hK hP ((grC (siC S ((grC S ((grC S x0 3).getD 0) x2.toNatClampNeg).getD 0) 0 (giC S ((grC S ((grC S x1 3).getD 0) x2.toNatClampNeg).getD 0) 0)) ((grC (siC S ((grC S ((grC S x0 3).getD 0) x2.toNatClampNeg).getD 0) 0 (giC S ((grC S ((grC S x1 3).getD 0) x2.toNatClampNeg).getD 0) 0)) x1 3).getD 0) x2.toNatClampNeg).getD 0) (at_5 hy51.2) rfl 1 (by decide) (hw (.fieldLink RX0 87 "MotionFloor$Place" "pile" "LMotionFloor$Pile;") (List.mem_of_getElem? (i := 15) rfl)) (fun _ h9 => h9) rfl dX0_become_92 ?_
        refine lv_aload_n hx hb dX0_become_95 rfl (lv_at hl 0 rfl) ?_
        refine va_get (D := G) (ci := 0) (v := va_re ad (grC (siC S ((grC S ((grC S x0 3).getD 0) x2.toNatClampNeg).getD 0) 0 (giC S ((grC S ((grC S x1 3).getD 0) x2.toNatClampNeg).getD 0) 0)) x0 3)) (C := RX0) (T := TX0) (N := 11) hx hb hts iX0 hown hK hP x0 (at_0 (k_x0.n hZ.1)) rfl 3 (by decide) (hw (.fieldLink RX0 32 "MotionFloor$Assembly" "desk" "[LMotionFloor$Place;") (List.mem_of_getElem? (i := 30) rfl)) (fun _ h9 => h9) rfl dX0_become_96 ?_
        refine lv_iload_n hx hb dX0_become_99 rfl (lv_at hl 2 rfl) ?_
        obtain ⟨hy52, hp⟩ := hp
        refine cTop2 (r := (grC (siC S ((grC S ((grC S x0 3).getD 0) x2.toNatClampNeg).getD 0) 0 (giC S ((grC S ((grC S x1 3).getD 0) x2.toNatClampNeg).getD 0) 0)) x0 3)) hy52.1 ?_
        obtain ⟨hy53, hp⟩ := hp
        refine cAald hx hb hK hP ((grC (siC S ((grC S ((grC S x0 3).getD 0) x2.toNatClampNeg).getD 0) 0 (giC S ((grC S ((grC S x1 3).getD 0) x2.toNatClampNeg).getD 0) 0)) x0 3).getD 0) 4 (at_24 hy52.2) rfl hy53 dX0_become_100 ?_
        obtain ⟨hy54, hp⟩ := hp
        refine cTop (r := (grC (siC S ((grC S ((grC S x0 3).getD 0) x2.toNatClampNeg).getD 0) 0 (giC S ((grC S ((grC S x1 3).getD 0) x2.toNatClampNeg).getD 0) 0)) ((grC (siC S ((grC S ((grC S x0 3).getD 0) x2.toNatClampNeg).getD 0) 0 (giC S ((grC S ((grC S x1 3).getD 0) x2.toNatClampNeg).getD 0) 0)) x0 3).getD 0) x2.toNatClampNeg)) hy54.1 ?_
        refine va_get (D := G) (ci := 5) (v := va_re ad (grC (siC S ((grC S ((grC S x0 3).getD 0) x2.toNatClampNeg).getD 0) 0 (giC S ((grC S ((grC S x1 3).getD 0) x2.toNatClampNeg).getD 0) 0)) ((grC (siC S ((grC S ((grC S x0 3).getD 0) x2.toNatClampNeg).getD 0) 0 (giC S ((grC S ((grC S x1 3).getD 0) x2.toNatClampNeg).getD 0) 0)) ((grC (siC S ((grC S ((grC S x0 3).getD 0) x2.toNatClampNeg).getD 0) 0 (giC S ((grC S ((grC S x1 3).getD 0) x2.toNatClampNeg).getD 0) 0)) x0 3).getD 0) x2.toNatClampNeg).getD 0) 1)) (C := RX6) (T := TX6) (N := 2) hx hb hts iX6 hown hK hP ((grC (siC S ((grC S ((grC S x0 3).getD 0) x2.toNatClampNeg).getD 0) 0 (giC S ((grC S ((grC S x1 3).getD 0) x2.toNatClampNeg).getD 0) 0)) ((grC (siC S ((grC S ((grC S x0 3).getD 0) x2.toNatClampNeg).getD 0) 0 (giC S ((grC S ((grC S x1 3).getD 0) x2.toNatClampNeg).getD 0) 0)) x0 3).getD 0) x2.toNatClampNeg).getD 0) (at_5 hy54.2) rfl 1 (by decide) (hw (.fieldLink RX0 87 "MotionFloor$Place" "pile" "LMotionFloor$Pile;") (List.mem_of_getElem? (i := 15) rfl)) (fun _ h9 => h9) rfl dX0_become_101 ?_
        exact B_Y0_become_104a (siC S ((grC S ((grC S x0 3).getD 0) x2.toNatClampNeg).getD 0) 0 (giC S ((grC S ((grC S x1 3).getD 0) x2.toNatClampNeg).getD 0) 0)) ad x2 (grC (siC S ((grC S ((grC S x0 3).getD 0) x2.toNatClampNeg).getD 0) 0 (giC S ((grC S ((grC S x1 3).getD 0) x2.toNatClampNeg).getD 0) 0)) ((grC (siC S ((grC S ((grC S x0 3).getD 0) x2.toNatClampNeg).getD 0) 0 (giC S ((grC S ((grC S x1 3).getD 0) x2.toNatClampNeg).getD 0) 0)) ((grC (siC S ((grC S ((grC S x0 3).getD 0) x2.toNatClampNeg).getD 0) 0 (giC S ((grC S ((grC S x1 3).getD 0) x2.toNatClampNeg).getD 0) 0)) x0 3).getD 0) x2.toNatClampNeg).getD 0) 1) (grC (siC S ((grC S ((grC S x0 3).getD 0) x2.toNatClampNeg).getD 0) 0 (giC S ((grC S ((grC S x1 3).getD 0) x2.toNatClampNeg).getD 0) 0)) ((grC (siC S ((grC S ((grC S x0 3).getD 0) x2.toNatClampNeg).getD 0) 0 (giC S ((grC S ((grC S x1 3).getD 0) x2.toNatClampNeg).getD 0) 0)) ((grC (siC S ((grC S ((grC S x0 3).getD 0) x2.toNatClampNeg).getD 0) 0 (giC S ((grC S ((grC S x1 3).getD 0) x2.toNatClampNeg).getD 0) 0)) x1 3).getD 0) x2.toNatClampNeg).getD 0) 1) _ _ _ hE hp hZ hP hD hS (lv_sub hl [0, 1, 2] rfl)
  have B_Y0_become_59a : ∀ (S : Cst) (ad : Nat → Nat)  (H : Heap) (locs : List Loc) (ls_ : Array Slot), b_Y0_become_59a S x0 x1 = X → q_Y0_become_59a S x0 x1 lc ls → nH S0 ad0 lc ls S ad → va_P G vwCl (wsC K ad S) H → va_D A (wsC K ad S) → va_S A s.heap H locs → lv_has ls_ 3 [(0, .ref (ad x0)), (1, .ref (ad x1))] → W p l e ({ frames := 5, cells := lc - S0.1, slots := ls - S0.2.1, locals := 127 } : Room) s m #[Value.ref (ad0 x0), Value.ref (ad0 x1)] below meth c H locs (S.1 - S0.1) (S.2.1 - S0.2.1) Q (F0 m 59 ls_ []) := by
    intro S ad H locs ls_ hE hp hZ hP hD hS hl
    unfold b_Y0_become_59a at hE
    unfold q_Y0_become_59a at hp
    refine lv_iconst (v := 0) hx hb dX0_become_59 (by decide) ?_
    refine lv_istore_n (i := 2) (lv' := [(2, .int 0), (0, .ref (ad x0)), (1, .ref (ad x1))]) hx hb dX0_become_60 rfl hl (by decide) rfl (fun ls_ hl => ?_)
    exact L_61 100000 S ad 0 _ _ _ hE hp hZ hP hD hS (lv_sub hl [1, 2, 0] rfl)
  have B_Y0_become_56a : ∀ (S : Cst) (ad : Nat → Nat) (o0 : Option Nat) (o1 : Option Nat) (H : Heap) (locs : List Loc) (ls_ : Array Slot), b_Y0_become_56a S x0 x1 o0 o1 = X → q_Y0_become_56a S x0 x1 lc ls o0 o1 → nH S0 ad0 lc ls S ad → va_P G vwCl (wsC K ad S) H → va_D A (wsC K ad S) → va_S A s.heap H locs → lv_has ls_ 3 [(0, .ref (ad x0)), (1, .ref (ad x1))] → W p l e ({ frames := 5, cells := lc - S0.1, slots := ls - S0.2.1, locals := 127 } : Room) s m #[Value.ref (ad0 x0), Value.ref (ad0 x1)] below meth c H locs (S.1 - S0.1) (S.2.1 - S0.2.1) Q (F0 m 56 ls_ [va_re ad o0, va_re ad o1, .ref (ad x0)]) := by
    intro S ad o0 o1 H locs ls_ hE hp hZ hP hD hS hl
    unfold b_Y0_become_56a at hE
    unfold q_Y0_become_56a at hp
    obtain ⟨hy19, hp⟩ := hp
    refine cTop2 (r := o1) hy19.1 ?_
    obtain ⟨hy20, hp⟩ := hp
    refine cTop (r := o0) hy20.1 ?_
    obtain ⟨hy21, hp⟩ := hp
    obtain ⟨hy22, hp⟩ := hp
    refine cNov (va_runV (As := [.ref (ad (o1.getD 0)), .ref (ad (o0.getD 0))]) (rest := []) ⟨hx, hb, hml, hown, hts⟩ (c_Y0_copy l G K ad S x0 (o1.getD 0) (o0.getD 0) (f_Y0_copy S x0 (o1.getD 0) (o0.getD 0)).2.1 (f_Y0_copy S x0 (o1.getD 0) (o0.getD 0)).2.2.1 _) (cwV 2 hts (wGV t_ (mw (.methodLink RX0 80 yX0_copy) (List.mem_of_getElem? (i := 10) rfl)) (mw (.instanceMethod yX0_copy) (List.mem_of_getElem? (i := 11) rfl)) (mw (.selects RX0 yX0_copy yX0_copy) (List.mem_of_getElem? (i := 12) rfl)) (mw (.initialized RX0) (List.mem_of_getElem? (i := 3) rfl)) j_Y0_copy) rfl rfl rfl (by decide +kernel) ⟨Nat.le_of_ble_eq_true rfl, Nat.le_of_ble_eq_true rfl⟩) (cPV hK hTE hP hD 0 rfl (at_0 (k_x0.n hZ.1)) ⟨⟨hy21.1.1, hy21.2.1⟩, (k_x0.n hZ.1), hy19.2, hy20.2, hy22⟩) rfl rfl hl.1 rfl (lv_room (Nat.le_of_ble_eq_true rfl)) dX0_become_56 ⟨by show _ ≤ lc - S0.1; have := hZ.1.1.1; have := hy21.1; omega, by show _ ≤ ls - S0.2.1; have := hZ.1.1.2; have := hy21.2; omega⟩) hP hD hS hA (fun u23 H locs hv hP hD hS => ?_)
    obtain ⟨hv, hz, ha⟩ := hv
    have e1 : (f_Y0_copy S x0 (o1.getD 0) (o0.getD 0)).2.1 = u23.1.1 := by rw [← hv]
    have e2 : (f_Y0_copy S x0 (o1.getD 0) (o0.getD 0)).2.2.1 = u23.1.2.1 := by rw [← hv]
    refine cCells (cells' := u23.1.1 - S0.1) (slots' := u23.1.2.1 - S0.2.1) (by have := hZ.1.1.1; have := hy21.1; omega) (by have := hZ.1.1.2; have := hy21.2; omega) ?_
    rw [← ha x0 (k_x0.n hZ.1).1] at hl
    rw [← ha x1 (k_x1.n hZ.1).1] at hl
    have hZ := hZ.n hz ha (by rw [← e1]; exact hy21.1.2) (by rw [← e2]; exact hy21.2.2)
    rw [← hv] at hE hp
    dsimp only at hE hp
    exact B_Y0_become_59a u23.1 u23.2 _ _ _ hE hp hZ hP hD hS (lv_sub hl [0, 1] rfl)
  have B_Y0_become_27a : ∀ (S : Cst) (ad : Nat → Nat)  (H : Heap) (locs : List Loc) (ls_ : Array Slot), b_Y0_become_27a S x0 x1 = X → q_Y0_become_27a S x0 x1 lc ls → nH S0 ad0 lc ls S ad → va_P G vwCl (wsC K ad S) H → va_D A (wsC K ad S) → va_S A s.heap H locs → lv_has ls_ 3 [(0, .ref (ad x0)), (1, .ref (ad x1))] → W p l e ({ frames := 5, cells := lc - S0.1, slots := ls - S0.2.1, locals := 127 } : Room) s m #[Value.ref (ad0 x0), Value.ref (ad0 x1)] below meth c H locs (S.1 - S0.1) (S.2.1 - S0.2.1) Q (F0 m 27 ls_ []) := by
    intro S ad H locs ls_ hE hp hZ hP hD hS hl
    unfold b_Y0_become_27a at hE
    unfold q_Y0_become_27a at hp
    refine lv_aload_n hx hb dX0_become_27 rfl (lv_at hl 0 rfl) ?_
    refine va_get (D := G) (ci := 0) (v := va_re ad (grC S x0 2)) (C := RX0) (T := TX0) (N := 11) hx hb hts iX0 hown hK hP x0 (at_0 (k_x0.n hZ.1)) rfl 2 (by decide) (hw (.fieldLink RX0 28 "MotionFloor$Assembly" "draft" "LMotionFloor$Place;") (List.mem_of_getElem? (i := 13) rfl)) (fun _ h9 => h9) rfl dX0_become_28 ?_
    refine lv_aload_n hx hb dX0_become_31 rfl (lv_at hl 1 rfl) ?_
    refine va_get (D := G) (ci := 0) (v := va_re ad (grC S x1 2)) (C := RX0) (T := TX0) (N := 11) hx hb hts iX0 hown hK hP x1 (at_0 (k_x1.n hZ.1)) rfl 2 (by decide) (hw (.fieldLink RX0 28 "MotionFloor$Assembly" "draft" "LMotionFloor$Place;") (List.mem_of_getElem? (i := 13) rfl)) (fun _ h9 => h9) rfl dX0_become_32 ?_
    obtain ⟨hy15, hp⟩ := hp
    refine cTop (r := (grC S x1 2)) hy15.1 ?_
    refine va_get (D := G) (ci := 5) (v := .int (giC S ((grC S x1 2).getD 0) 0)) (C := RX6) (T := TX6) (N := 2) hx hb hts iX6 hown hK hP ((grC S x1 2).getD 0) (at_5 hy15.2) rfl 0 (by decide) (hw (.fieldLink RX0 84 "MotionFloor$Place" "sort" "I") (List.mem_of_getElem? (i := 14) rfl)) (fun _ h9 => h9) rfl dX0_become_35 ?_
    obtain ⟨hy16, hp⟩ := hp
    refine cTop2 (r := (grC S x0 2)) hy16.1 ?_
    refine va_put (D := G) (ci := 5) (v := .int (giC S ((grC S x1 2).getD 0) 0)) (ty := .int) (C := RX6) (T := TX6) (N := 2) hx hb hts iX6 tyX6 tyX6_ok nmX6 hown hK hP hD hS ((grC S x0 2).getD 0) (at_5 hy16.2) rfl 0 (by decide) (hw (.fieldLink RX0 84 "MotionFloor$Place" "sort" "I") (List.mem_of_getElem? (i := 14) rfl)) (fun _ h9 => h9) rfl (by decide +kernel) rfl rfl (Nat.le_of_ble_eq_true rfl) dX0_become_38 (fun H locs hP hD hS => ?_)
    rw [st_5_0 hy16.2] at hP hD
    have hZ := hZ.k (eK.si S ((grC S x0 2).getD 0) 0 (giC S ((grC S x1 2).getD 0) 0))
    refine lv_aload_n hx hb dX0_become_41 rfl (lv_at hl 0 rfl) ?_
    refine lv_aload_n hx hb dX0_become_42 rfl (lv_at hl 1 rfl) ?_
    refine va_get (D := G) (ci := 0) (v := va_re ad (grC (siC S ((grC S x0 2).getD 0) 0 (giC S ((grC S x1 2).getD 0) 0)) x1 2)) (C := RX0) (T := TX0) (N := 11) hx hb hts iX0 hown hK hP x1 (at_0 (k_x1.n hZ.1)) rfl 2 (by decide) (hw (.fieldLink RX0 28 "MotionFloor$Assembly" "draft" "LMotionFloor$Place;") (List.mem_of_getElem? (i := 13) rfl)) (fun _ h9 => h9) rfl dX0_become_43 ?_
    obtain ⟨hy17, hp⟩ := hp
    refine cTop (r := (grC (siC S ((grC S x0 2).getD 0) 0 (giC S ((grC S x1 2).getD 0) 0)) x1 2)) hy17.1 ?_
    refine va_get (D := G) (ci := 5) (v := va_re ad (grC (siC S ((grC S x0 2).getD 0) 0 (giC S ((grC S x1 2).getD 0) 0)) ((grC (siC S ((grC S x0 2).getD 0) 0 (giC S ((grC S x1 2).getD 0) 0)) x1 2).getD 0) 1)) (C := RX6) (T := TX6) (N := 2) hx hb hts iX6 hown hK hP ((grC (siC S ((grC S x0 2).getD 0) 0 (giC S ((grC S x1 2).getD 0) 0)) x1 2).getD 0) (at_5 hy17.2) rfl 1 (by decide) (hw (.fieldLink RX0 87 "MotionFloor$Place" "pile" "LMotionFloor$Pile;") (List.mem_of_getElem? (i := 15) rfl)) (fun _ h9 => h9) rfl dX0_become_46 ?_
    refine lv_aload_n hx hb dX0_become_49 rfl (lv_at hl 0 rfl) ?_
    refine va_get (D := G) (ci := 0) (v := va_re ad (grC (siC S ((grC S x0 2).getD 0) 0 (giC S ((grC S x1 2).getD 0) 0)) x0 2)) (C := RX0) (T := TX0) (N := 11) hx hb hts iX0 hown hK hP x0 (at_0 (k_x0.n hZ.1)) rfl 2 (by decide) (hw (.fieldLink RX0 28 "MotionFloor$Assembly" "draft" "LMotionFloor$Place;") (List.mem_of_getElem? (i := 13) rfl)) (fun _ h9 => h9) rfl dX0_become_50 ?_
    obtain ⟨hy18, hp⟩ := hp
    refine cTop (r := (grC (siC S ((grC S x0 2).getD 0) 0 (giC S ((grC S x1 2).getD 0) 0)) x0 2)) hy18.1 ?_
    refine va_get (D := G) (ci := 5) (v := va_re ad (grC (siC S ((grC S x0 2).getD 0) 0 (giC S ((grC S x1 2).getD 0) 0)) ((grC (siC S ((grC S x0 2).getD 0) 0 (giC S ((grC S x1 2).getD 0) 0)) x0 2).getD 0) 1)) (C := RX6) (T := TX6) (N := 2) hx hb hts iX6 hown hK hP ((grC (siC S ((grC S x0 2).getD 0) 0 (giC S ((grC S x1 2).getD 0) 0)) x0 2).getD 0) (at_5 hy18.2) rfl 1 (by decide) (hw (.fieldLink RX0 87 "MotionFloor$Place" "pile" "LMotionFloor$Pile;") (List.mem_of_getElem? (i := 15) rfl)) (fun _ h9 => h9) rfl dX0_become_53 ?_
    exact B_Y0_become_56a (siC S ((grC S x0 2).getD 0) 0 (giC S ((grC S x1 2).getD 0) 0)) ad (grC (siC S ((grC S x0 2).getD 0) 0 (giC S ((grC S x1 2).getD 0) 0)) ((grC (siC S ((grC S x0 2).getD 0) 0 (giC S ((grC S x1 2).getD 0) 0)) x0 2).getD 0) 1) (grC (siC S ((grC S x0 2).getD 0) 0 (giC S ((grC S x1 2).getD 0) 0)) ((grC (siC S ((grC S x0 2).getD 0) 0 (giC S ((grC S x1 2).getD 0) 0)) x1 2).getD 0) 1) _ _ _ hE hp hZ hP hD hS (lv_sub hl [0, 1] rfl)
  have B_Y0_become_15a : ∀ (S : Cst) (ad : Nat → Nat)  (H : Heap) (locs : List Loc) (ls_ : Array Slot), b_Y0_become_15a S x0 x1 = X → q_Y0_become_15a S x0 x1 lc ls → nH S0 ad0 lc ls S ad → va_P G vwCl (wsC K ad S) H → va_D A (wsC K ad S) → va_S A s.heap H locs → lv_has ls_ 3 [(0, .ref (ad x0)), (1, .ref (ad x1))] → W p l e ({ frames := 5, cells := lc - S0.1, slots := ls - S0.2.1, locals := 127 } : Room) s m #[Value.ref (ad0 x0), Value.ref (ad0 x1)] below meth c H locs (S.1 - S0.1) (S.2.1 - S0.2.1) Q (F0 m 15 ls_ []) := by
    intro S ad H locs ls_ hE hp hZ hP hD hS hl
    unfold b_Y0_become_15a at hE
    unfold q_Y0_become_15a at hp
    refine lv_aload_n hx hb dX0_become_15 rfl (lv_at hl 0 rfl) ?_
    refine lv_aload_n hx hb dX0_become_16 rfl (lv_at hl 1 rfl) ?_
    refine va_get (D := G) (ci := 0) (v := va_re ad (grC S x1 1)) (C := RX0) (T := TX0) (N := 11) hx hb hts iX0 hown hK hP x1 (at_0 (k_x1.n hZ.1)) rfl 1 (by decide) (hw (.fieldLink RX0 21 "MotionFloor$Assembly" "pending" "LMotionFloor$Pile;") (List.mem_of_getElem? (i := 9) rfl)) (fun _ h9 => h9) rfl dX0_become_17 ?_
    refine lv_aload_n hx hb dX0_become_20 rfl (lv_at hl 0 rfl) ?_
    refine va_get (D := G) (ci := 0) (v := va_re ad (grC S x0 1)) (C := RX0) (T := TX0) (N := 11) hx hb hts iX0 hown hK hP x0 (at_0 (k_x0.n hZ.1)) rfl 1 (by decide) (hw (.fieldLink RX0 21 "MotionFloor$Assembly" "pending" "LMotionFloor$Pile;") (List.mem_of_getElem? (i := 9) rfl)) (fun _ h9 => h9) rfl dX0_become_21 ?_
    obtain ⟨hy9, hp⟩ := hp
    refine cTop2 (r := (grC S x1 1)) hy9.1 ?_
    obtain ⟨hy10, hp⟩ := hp
    refine cTop (r := (grC S x0 1)) hy10.1 ?_
    obtain ⟨hy11, hp⟩ := hp
    obtain ⟨hy12, hp⟩ := hp
    refine cNov (va_runV (As := [.ref (ad ((grC S x1 1).getD 0)), .ref (ad ((grC S x0 1).getD 0))]) (rest := []) ⟨hx, hb, hml, hown, hts⟩ (c_Y0_copy l G K ad S x0 ((grC S x1 1).getD 0) ((grC S x0 1).getD 0) (f_Y0_copy S x0 ((grC S x1 1).getD 0) ((grC S x0 1).getD 0)).2.1 (f_Y0_copy S x0 ((grC S x1 1).getD 0) ((grC S x0 1).getD 0)).2.2.1 _) (cwV 2 hts (wGV t_ (mw (.methodLink RX0 80 yX0_copy) (List.mem_of_getElem? (i := 10) rfl)) (mw (.instanceMethod yX0_copy) (List.mem_of_getElem? (i := 11) rfl)) (mw (.selects RX0 yX0_copy yX0_copy) (List.mem_of_getElem? (i := 12) rfl)) (mw (.initialized RX0) (List.mem_of_getElem? (i := 3) rfl)) j_Y0_copy) rfl rfl rfl (by decide +kernel) ⟨Nat.le_of_ble_eq_true rfl, Nat.le_of_ble_eq_true rfl⟩) (cPV hK hTE hP hD 0 rfl (at_0 (k_x0.n hZ.1)) ⟨⟨hy11.1.1, hy11.2.1⟩, (k_x0.n hZ.1), hy9.2, hy10.2, hy12⟩) rfl rfl hl.1 rfl (lv_room (Nat.le_of_ble_eq_true rfl)) dX0_become_24 ⟨by show _ ≤ lc - S0.1; have := hZ.1.1.1; have := hy11.1; omega, by show _ ≤ ls - S0.2.1; have := hZ.1.1.2; have := hy11.2; omega⟩) hP hD hS hA (fun u13 H locs hv hP hD hS => ?_)
    obtain ⟨hv, hz, ha⟩ := hv
    have e1 : (f_Y0_copy S x0 ((grC S x1 1).getD 0) ((grC S x0 1).getD 0)).2.1 = u13.1.1 := by rw [← hv]
    have e2 : (f_Y0_copy S x0 ((grC S x1 1).getD 0) ((grC S x0 1).getD 0)).2.2.1 = u13.1.2.1 := by rw [← hv]
    refine cCells (cells' := u13.1.1 - S0.1) (slots' := u13.1.2.1 - S0.2.1) (by have := hZ.1.1.1; have := hy11.1; omega) (by have := hZ.1.1.2; have := hy11.2; omega) ?_
    rw [← ha x0 (k_x0.n hZ.1).1] at hl
    rw [← ha x1 (k_x1.n hZ.1).1] at hl
    have hZ := hZ.n hz ha (by rw [← e1]; exact hy11.1.2) (by rw [← e2]; exact hy11.2.2)
    rw [← hv] at hE hp
    dsimp only at hE hp
    exact B_Y0_become_27a u13.1 u13.2 _ _ _ hE hp hZ hP hD hS (lv_sub hl [0, 1] rfl)
  have B_Y0_become_4a : ∀ (S : Cst) (ad : Nat → Nat)  (H : Heap) (locs : List Loc) (ls_ : Array Slot), b_Y0_become_4a S x0 x1 = X → q_Y0_become_4a S x0 x1 lc ls → nH S0 ad0 lc ls S ad → va_P G vwCl (wsC K ad S) H → va_D A (wsC K ad S) → va_S A s.heap H locs → lv_has ls_ 3 [(0, .ref (ad x0)), (1, .ref (ad x1))] → W p l e ({ frames := 5, cells := lc - S0.1, slots := ls - S0.2.1, locals := 127 } : Room) s m #[Value.ref (ad0 x0), Value.ref (ad0 x1)] below meth c H locs (S.1 - S0.1) (S.2.1 - S0.2.1) Q (F0 m 4 ls_ []) := by
    intro S ad H locs ls_ hE hp hZ hP hD hS hl
    unfold b_Y0_become_4a at hE
    unfold q_Y0_become_4a at hp
    refine lv_aload_n hx hb dX0_become_4 rfl (lv_at hl 0 rfl) ?_
    refine va_get (D := G) (ci := 0) (v := va_re ad (grC S x0 0)) (C := RX0) (T := TX0) (N := 11) hx hb hts iX0 hown hK hP x0 (at_0 (k_x0.n hZ.1)) rfl 0 (by decide) (hw (.fieldLink RX0 12 "MotionFloor$Assembly" "house" "LMotionFloor$House;") (List.mem_of_getElem? (i := 4) rfl)) (fun _ h9 => h9) rfl dX0_become_5 ?_
    refine lv_aload_n hx hb dX0_become_8 rfl (lv_at hl 1 rfl) ?_
    refine va_get (D := G) (ci := 0) (v := va_re ad (grC S x1 0)) (C := RX0) (T := TX0) (N := 11) hx hb hts iX0 hown hK hP x1 (at_0 (k_x1.n hZ.1)) rfl 0 (by decide) (hw (.fieldLink RX0 12 "MotionFloor$Assembly" "house" "LMotionFloor$House;") (List.mem_of_getElem? (i := 4) rfl)) (fun _ h9 => h9) rfl dX0_become_9 ?_
    obtain ⟨hy4, hp⟩ := hp
    refine cTop2 (r := (grC S x0 0)) hy4.1 ?_
    obtain ⟨hy5, hp⟩ := hp
    refine cTop (r := (grC S x1 0)) hy5.1 ?_
    obtain ⟨hy6, hp⟩ := hp
    refine cGov (va_runV (As := [.ref (ad ((grC S x1 0).getD 0))]) (rest := []) ⟨hx, hb, hml, hown, hts⟩ (c_Y2_become l G K ad S ((grC S x0 0).getD 0) ((grC S x1 0).getD 0) _) (cwV 1 hts (wGV t_ (mw (.methodLink RX0 76 yX2_become) (List.mem_of_getElem? (i := 5) rfl)) (mw (.instanceMethod yX2_become) (List.mem_of_getElem? (i := 6) rfl)) (mw (.selects RX2 yX2_become yX2_become) (List.mem_of_getElem? (i := 7) rfl)) (mw (.initialized RX2) (List.mem_of_getElem? (i := 8) rfl)) j_Y2_become) rfl rfl rfl (by decide +kernel) ⟨Nat.le_of_ble_eq_true rfl, Nat.le_of_ble_eq_true rfl⟩) (cPV hK hTE hP hD 1 rfl (at_1 hy4.2) ⟨hy4.2, hy5.2, hy6⟩) rfl rfl hl.1 rfl (lv_room (Nat.le_of_ble_eq_true rfl)) dX0_become_12 ⟨(show S.1 - S0.1 ≤ lc - S0.1 from Nat.sub_le_sub_right hZ.2.2.1 _), (show S.2.1 - S0.2.1 ≤ ls - S0.2.1 from Nat.sub_le_sub_right hZ.2.2.2 _)⟩) hP hD hS hA (fun u7 H locs hv hP hD hS => ?_)
    obtain ⟨hv, hz⟩ := hv
    have hZ := hZ.k hz
    refine cCells (cells' := u7.1 - S0.1) (slots' := u7.2.1 - S0.2.1) (by have e : S.1 = u7.1 := hz.1.1; show S.1 - S0.1 + 0 = _; omega) (by have e : S.2.1 = u7.2.1 := hz.1.2; show S.2.1 - S0.2.1 + 0 = _; omega) ?_
    rw [← hv] at hE hp
    dsimp only at hE hp
    exact B_Y0_become_15a u7 ad _ _ _ hE hp hZ hP hD hS (lv_sub hl [0, 1] rfl)
  have B_M : ∀ (S : Cst) (ad : Nat → Nat) (H : Heap) (locs : List Loc) (ls_ : Array Slot), f_Y0_become S x0 x1 = X → p_Y0_become S x0 x1 lc ls → nH S0 ad0 lc ls S ad → va_P G vwCl (wsC K ad S) H → va_D A (wsC K ad S) → va_S A s.heap H locs → lv_has ls_ 3 [(0, .ref (ad x0)), (1, .ref (ad x1))] → W p l e ({ frames := 5, cells := lc - S0.1, slots := ls - S0.2.1, locals := 127 } : Room) s m #[Value.ref (ad0 x0), Value.ref (ad0 x1)] below meth c H locs (S.1 - S0.1) (S.2.1 - S0.2.1) Q (F0 m 0 ls_ []) := by
    intro S ad H locs ls_ hE hp hZ hP hD hS hl
    unfold f_Y0_become at hE
    unfold p_Y0_become at hp
    refine lv_aload_n hx hb dX0_become_0 rfl (lv_at hl 0 rfl) ?_
    obtain ⟨hy1, hp⟩ := hp
    refine cGov (va_runV (As := []) (rest := []) ⟨hx, hb, hml, hown, hts⟩ (c_Y0_clear l G K ad S x0 _) (cwV 0 hts (wGV t_ (mw (.methodLink RX0 59 yX0_clear) (List.mem_of_getElem? (i := 0) rfl)) (mw (.instanceMethod yX0_clear) (List.mem_of_getElem? (i := 1) rfl)) (mw (.selects RX0 yX0_clear yX0_clear) (List.mem_of_getElem? (i := 2) rfl)) (mw (.initialized RX0) (List.mem_of_getElem? (i := 3) rfl)) j_Y0_clear) rfl rfl rfl (by decide +kernel) ⟨Nat.le_of_ble_eq_true rfl, Nat.le_of_ble_eq_true rfl⟩) (cPV hK hTE hP hD 0 rfl (at_0 (k_x0.n hZ.1)) ⟨(k_x0.n hZ.1), hy1⟩) rfl rfl hl.1 rfl (lv_room (Nat.le_of_ble_eq_true rfl)) dX0_become_1 ⟨(show S.1 - S0.1 ≤ lc - S0.1 from Nat.sub_le_sub_right hZ.2.2.1 _), (show S.2.1 - S0.2.1 ≤ ls - S0.2.1 from Nat.sub_le_sub_right hZ.2.2.2 _)⟩) hP hD hS hA (fun u2 H locs hv hP hD hS => ?_)
    obtain ⟨hv, hz⟩ := hv
    have hZ := hZ.k hz
    refine cCells (cells' := u2.1 - S0.1) (slots' := u2.2.1 - S0.2.1) (by have e : S.1 = u2.1 := hz.1.1; show S.1 - S0.1 + 0 = _; omega) (by have e : S.2.1 = u2.2.1 := hz.1.2; show S.2.1 - S0.2.1 + 0 = _; omega) ?_
    rw [← hv] at hE hp
    dsimp only at hE hp
    exact B_Y0_become_4a u2 ad _ _ _ hE hp hZ hP hD hS (lv_sub hl [0, 1] rfl)
  exact cCells (Nat.sub_self _).symm (Nat.sub_self _).symm (B_M S0 ad0 _ _ _ hX hp (nH.rf S0 ad0 k_l) hP hD hS hl)
theorem gdX0_enact_0 : ckS (List.drop 0 cX0_enact.data.toList) 0 [(0, .aload_n 0, 1), (1, .aload_n 0, 1), (2, .iload_n 1, 1), (3, .iload_n 2, 1), (4, .iload_n 3, 1), (5, .iload 4, 2), (7, .iload 5, 2), (9, .invokestatic 155, 3), (12, .putfield 73, 3), (15, .aload_n 0, 1), (16, .getfield 73, 3), (19, .ifCond .eq 9, 3), (28, .aload_n 0, 1), (29, .iload_n 1, 1), (30, .iload_n 2, 1), (31, .iload_n 3, 1), (32, .iload 4, 2), (34, .iload 5, 2), (36, .invokestatic 161, 3)] = true := by decide +kernel
theorem dX0_enact_0 : decode cX0_enact 0 = .ok (.aload_n 0, 1) := ckS_g gdX0_enact_0 0 rfl
theorem dX0_enact_1 : decode cX0_enact 1 = .ok (.aload_n 0, 1) := ckS_g gdX0_enact_0 1 rfl
theorem dX0_enact_2 : decode cX0_enact 2 = .ok (.iload_n 1, 1) := ckS_g gdX0_enact_0 2 rfl
theorem dX0_enact_3 : decode cX0_enact 3 = .ok (.iload_n 2, 1) := ckS_g gdX0_enact_0 3 rfl
theorem dX0_enact_4 : decode cX0_enact 4 = .ok (.iload_n 3, 1) := ckS_g gdX0_enact_0 4 rfl
theorem dX0_enact_5 : decode cX0_enact 5 = .ok (.iload 4, 2) := ckS_g gdX0_enact_0 5 rfl
theorem dX0_enact_7 : decode cX0_enact 7 = .ok (.iload 5, 2) := ckS_g gdX0_enact_0 6 rfl
theorem dX0_enact_9 : decode cX0_enact 9 = .ok (.invokestatic 155, 3) := ckS_g gdX0_enact_0 7 rfl
theorem dX0_enact_12 : decode cX0_enact 12 = .ok (.putfield 73, 3) := ckS_g gdX0_enact_0 8 rfl
theorem dX0_enact_15 : decode cX0_enact 15 = .ok (.aload_n 0, 1) := ckS_g gdX0_enact_0 9 rfl
theorem dX0_enact_16 : decode cX0_enact 16 = .ok (.getfield 73, 3) := ckS_g gdX0_enact_0 10 rfl
theorem dX0_enact_19 : decode cX0_enact 19 = .ok (.ifCond .eq 9, 3) := ckS_g gdX0_enact_0 11 rfl
theorem dX0_enact_28 : decode cX0_enact 28 = .ok (.aload_n 0, 1) := ckS_g gdX0_enact_0 12 rfl
theorem dX0_enact_29 : decode cX0_enact 29 = .ok (.iload_n 1, 1) := ckS_g gdX0_enact_0 13 rfl
theorem dX0_enact_30 : decode cX0_enact 30 = .ok (.iload_n 2, 1) := ckS_g gdX0_enact_0 14 rfl
theorem dX0_enact_31 : decode cX0_enact 31 = .ok (.iload_n 3, 1) := ckS_g gdX0_enact_0 15 rfl
theorem dX0_enact_32 : decode cX0_enact 32 = .ok (.iload 4, 2) := ckS_g gdX0_enact_0 16 rfl
theorem dX0_enact_34 : decode cX0_enact 34 = .ok (.iload 5, 2) := ckS_g gdX0_enact_0 17 rfl
theorem dX0_enact_36 : decode cX0_enact 36 = .ok (.invokestatic 161, 3) := ckS_g gdX0_enact_0 18 rfl
theorem gdX1_begin_0 : ckS (List.drop 0 cX1_begin.data.toList) 0 [(0, .aload_n 0, 1), (1, .aload_n 0, 1), (2, .getfield 121, 3), (5, .invokevirtual 125, 3), (8, .aload_n 0, 1), (9, .getfield 121, 3), (12, .iconst 2, 1), (13, .aload_n 0, 1), (14, .iload_n 1, 1), (15, .invokevirtual 129, 3), (18, .invokevirtual 133, 3), (21, .iload_n 1, 1), (22, .ireturn, 1)] = true := by decide +kernel
theorem dX1_begin_0 : decode cX1_begin 0 = .ok (.aload_n 0, 1) := ckS_g gdX1_begin_0 0 rfl
theorem dX1_begin_1 : decode cX1_begin 1 = .ok (.aload_n 0, 1) := ckS_g gdX1_begin_0 1 rfl
theorem dX1_begin_2 : decode cX1_begin 2 = .ok (.getfield 121, 3) := ckS_g gdX1_begin_0 2 rfl
theorem dX1_begin_5 : decode cX1_begin 5 = .ok (.invokevirtual 125, 3) := ckS_g gdX1_begin_0 3 rfl
theorem dX1_begin_8 : decode cX1_begin 8 = .ok (.aload_n 0, 1) := ckS_g gdX1_begin_0 4 rfl
theorem dX1_begin_9 : decode cX1_begin 9 = .ok (.getfield 121, 3) := ckS_g gdX1_begin_0 5 rfl
theorem dX1_begin_12 : decode cX1_begin 12 = .ok (.iconst 2, 1) := ckS_g gdX1_begin_0 6 rfl
theorem dX1_begin_13 : decode cX1_begin 13 = .ok (.aload_n 0, 1) := ckS_g gdX1_begin_0 7 rfl
theorem dX1_begin_14 : decode cX1_begin 14 = .ok (.iload_n 1, 1) := ckS_g gdX1_begin_0 8 rfl
theorem dX1_begin_15 : decode cX1_begin 15 = .ok (.invokevirtual 129, 3) := ckS_g gdX1_begin_0 9 rfl
theorem dX1_begin_18 : decode cX1_begin 18 = .ok (.invokevirtual 133, 3) := ckS_g gdX1_begin_0 10 rfl
theorem dX1_begin_21 : decode cX1_begin 21 = .ok (.iload_n 1, 1) := ckS_g gdX1_begin_0 11 rfl
theorem dX1_begin_22 : decode cX1_begin 22 = .ok (.ireturn, 1) := ckS_g gdX1_begin_0 12 rfl
theorem dX1_perform_10 : decode cX1_perform 10 = .ok (.tableswitch 292 1 22 #[102, 111, 120, 130, 139, 149, 159, 170, 178, 184, 190, 197, 208, 214, 220, 226, 233, 250, 266, 226, 271, 287], 102) := by decide +kernel
theorem gdX1_perform_0 : ckS (List.drop 0 cX1_perform.data.toList) 0 [(0, .aload_n 0, 1), (1, .getfield 9, 3), (4, .invokevirtual 15, 3), (7, .astore 6, 2), (9, .iload_n 1, 1), (112, .aload_n 0, 1), (113, .getfield 21, 3), (116, .iload_n 2, 1), (117, .invokevirtual 25, 3), (120, .ireturn, 1), (121, .aload_n 0, 1), (122, .getfield 21, 3), (125, .iload_n 2, 1), (126, .invokevirtual 31, 3), (129, .ireturn, 1), (130, .aload_n 0, 1), (131, .getfield 21, 3), (134, .iload_n 2, 1), (135, .putfield 34, 3), (138, .iload_n 2, 1), (139, .ireturn, 1), (140, .aload_n 0, 1), (141, .getfield 21, 3), (144, .iload_n 2, 1), (145, .invokevirtual 38, 3), (148, .ireturn, 1), (149, .aload_n 0, 1), (150, .getfield 21, 3), (153, .iload_n 2, 1), (154, .iload_n 3, 1), (155, .invokevirtual 41, 3), (158, .ireturn, 1), (159, .aload_n 0, 1), (160, .getfield 21, 3), (163, .iload_n 2, 1), (164, .putfield 45, 3), (167, .iload_n 2, 1), (168, .ireturn, 1), (169, .aload_n 0, 1), (170, .getfield 21, 3)] = true := by decide +kernel
theorem dX1_perform_0 : decode cX1_perform 0 = .ok (.aload_n 0, 1) := ckS_g gdX1_perform_0 0 rfl
theorem dX1_perform_1 : decode cX1_perform 1 = .ok (.getfield 9, 3) := ckS_g gdX1_perform_0 1 rfl
theorem dX1_perform_4 : decode cX1_perform 4 = .ok (.invokevirtual 15, 3) := ckS_g gdX1_perform_0 2 rfl
theorem dX1_perform_7 : decode cX1_perform 7 = .ok (.astore 6, 2) := ckS_g gdX1_perform_0 3 rfl
theorem dX1_perform_9 : decode cX1_perform 9 = .ok (.iload_n 1, 1) := ckS_g gdX1_perform_0 4 rfl
theorem dX1_perform_112 : decode cX1_perform 112 = .ok (.aload_n 0, 1) := ckS_g gdX1_perform_0 5 rfl
theorem dX1_perform_113 : decode cX1_perform 113 = .ok (.getfield 21, 3) := ckS_g gdX1_perform_0 6 rfl
theorem dX1_perform_116 : decode cX1_perform 116 = .ok (.iload_n 2, 1) := ckS_g gdX1_perform_0 7 rfl
theorem dX1_perform_117 : decode cX1_perform 117 = .ok (.invokevirtual 25, 3) := ckS_g gdX1_perform_0 8 rfl
theorem dX1_perform_120 : decode cX1_perform 120 = .ok (.ireturn, 1) := ckS_g gdX1_perform_0 9 rfl
theorem dX1_perform_121 : decode cX1_perform 121 = .ok (.aload_n 0, 1) := ckS_g gdX1_perform_0 10 rfl
theorem dX1_perform_122 : decode cX1_perform 122 = .ok (.getfield 21, 3) := ckS_g gdX1_perform_0 11 rfl
theorem dX1_perform_125 : decode cX1_perform 125 = .ok (.iload_n 2, 1) := ckS_g gdX1_perform_0 12 rfl
theorem dX1_perform_126 : decode cX1_perform 126 = .ok (.invokevirtual 31, 3) := ckS_g gdX1_perform_0 13 rfl
theorem dX1_perform_129 : decode cX1_perform 129 = .ok (.ireturn, 1) := ckS_g gdX1_perform_0 14 rfl
theorem dX1_perform_130 : decode cX1_perform 130 = .ok (.aload_n 0, 1) := ckS_g gdX1_perform_0 15 rfl
theorem dX1_perform_131 : decode cX1_perform 131 = .ok (.getfield 21, 3) := ckS_g gdX1_perform_0 16 rfl
theorem dX1_perform_134 : decode cX1_perform 134 = .ok (.iload_n 2, 1) := ckS_g gdX1_perform_0 17 rfl
theorem dX1_perform_135 : decode cX1_perform 135 = .ok (.putfield 34, 3) := ckS_g gdX1_perform_0 18 rfl
theorem dX1_perform_138 : decode cX1_perform 138 = .ok (.iload_n 2, 1) := ckS_g gdX1_perform_0 19 rfl
theorem dX1_perform_139 : decode cX1_perform 139 = .ok (.ireturn, 1) := ckS_g gdX1_perform_0 20 rfl
theorem dX1_perform_140 : decode cX1_perform 140 = .ok (.aload_n 0, 1) := ckS_g gdX1_perform_0 21 rfl
theorem dX1_perform_141 : decode cX1_perform 141 = .ok (.getfield 21, 3) := ckS_g gdX1_perform_0 22 rfl
theorem dX1_perform_144 : decode cX1_perform 144 = .ok (.iload_n 2, 1) := ckS_g gdX1_perform_0 23 rfl
theorem dX1_perform_145 : decode cX1_perform 145 = .ok (.invokevirtual 38, 3) := ckS_g gdX1_perform_0 24 rfl
theorem dX1_perform_148 : decode cX1_perform 148 = .ok (.ireturn, 1) := ckS_g gdX1_perform_0 25 rfl
theorem dX1_perform_149 : decode cX1_perform 149 = .ok (.aload_n 0, 1) := ckS_g gdX1_perform_0 26 rfl
theorem dX1_perform_150 : decode cX1_perform 150 = .ok (.getfield 21, 3) := ckS_g gdX1_perform_0 27 rfl
theorem dX1_perform_153 : decode cX1_perform 153 = .ok (.iload_n 2, 1) := ckS_g gdX1_perform_0 28 rfl
theorem dX1_perform_154 : decode cX1_perform 154 = .ok (.iload_n 3, 1) := ckS_g gdX1_perform_0 29 rfl
theorem dX1_perform_155 : decode cX1_perform 155 = .ok (.invokevirtual 41, 3) := ckS_g gdX1_perform_0 30 rfl
theorem dX1_perform_158 : decode cX1_perform 158 = .ok (.ireturn, 1) := ckS_g gdX1_perform_0 31 rfl
theorem dX1_perform_159 : decode cX1_perform 159 = .ok (.aload_n 0, 1) := ckS_g gdX1_perform_0 32 rfl
theorem dX1_perform_160 : decode cX1_perform 160 = .ok (.getfield 21, 3) := ckS_g gdX1_perform_0 33 rfl
theorem dX1_perform_163 : decode cX1_perform 163 = .ok (.iload_n 2, 1) := ckS_g gdX1_perform_0 34 rfl
theorem dX1_perform_164 : decode cX1_perform 164 = .ok (.putfield 45, 3) := ckS_g gdX1_perform_0 35 rfl
theorem dX1_perform_167 : decode cX1_perform 167 = .ok (.iload_n 2, 1) := ckS_g gdX1_perform_0 36 rfl
theorem dX1_perform_168 : decode cX1_perform 168 = .ok (.ireturn, 1) := ckS_g gdX1_perform_0 37 rfl
theorem dX1_perform_169 : decode cX1_perform 169 = .ok (.aload_n 0, 1) := ckS_g gdX1_perform_0 38 rfl
theorem dX1_perform_170 : decode cX1_perform 170 = .ok (.getfield 21, 3) := ckS_g gdX1_perform_0 39 rfl
theorem gdX1_perform_173 : ckS (List.drop 173 cX1_perform.data.toList) 173 [(173, .aload 6, 2), (175, .iload_n 2, 1), (176, .invokestatic 48, 3), (179, .ireturn, 1), (180, .aload_n 0, 1), (181, .getfield 21, 3), (184, .invokestatic 54, 3), (187, .ireturn, 1), (188, .aload 6, 2), (190, .invokestatic 58, 3), (193, .ireturn, 1), (194, .aload_n 0, 1), (195, .iload_n 2, 1), (196, .invokestatic 62, 3)] = true := by decide +kernel
theorem dX1_perform_173 : decode cX1_perform 173 = .ok (.aload 6, 2) := ckS_g gdX1_perform_173 0 rfl
theorem dX1_perform_175 : decode cX1_perform 175 = .ok (.iload_n 2, 1) := ckS_g gdX1_perform_173 1 rfl
theorem dX1_perform_176 : decode cX1_perform 176 = .ok (.invokestatic 48, 3) := ckS_g gdX1_perform_173 2 rfl
theorem dX1_perform_179 : decode cX1_perform 179 = .ok (.ireturn, 1) := ckS_g gdX1_perform_173 3 rfl
theorem dX1_perform_180 : decode cX1_perform 180 = .ok (.aload_n 0, 1) := ckS_g gdX1_perform_173 4 rfl
theorem dX1_perform_181 : decode cX1_perform 181 = .ok (.getfield 21, 3) := ckS_g gdX1_perform_173 5 rfl
theorem dX1_perform_184 : decode cX1_perform 184 = .ok (.invokestatic 54, 3) := ckS_g gdX1_perform_173 6 rfl
theorem dX1_perform_187 : decode cX1_perform 187 = .ok (.ireturn, 1) := ckS_g gdX1_perform_173 7 rfl
theorem dX1_perform_188 : decode cX1_perform 188 = .ok (.aload 6, 2) := ckS_g gdX1_perform_173 8 rfl
theorem dX1_perform_190 : decode cX1_perform 190 = .ok (.invokestatic 58, 3) := ckS_g gdX1_perform_173 9 rfl
theorem dX1_perform_193 : decode cX1_perform 193 = .ok (.ireturn, 1) := ckS_g gdX1_perform_173 10 rfl
theorem dX1_perform_194 : decode cX1_perform 194 = .ok (.aload_n 0, 1) := ckS_g gdX1_perform_173 11 rfl
theorem dX1_perform_195 : decode cX1_perform 195 = .ok (.iload_n 2, 1) := ckS_g gdX1_perform_173 12 rfl
theorem dX1_perform_196 : decode cX1_perform 196 = .ok (.invokestatic 62, 3) := ckS_g gdX1_perform_173 13 rfl
set_option maxRecDepth 100000 in
theorem zc619 : wZ (.methodLink RX1 133 yX6_hold) := ⟨wT3 (List.mem_of_getElem? (i := 107) (by decide +kernel)), Or.inl rfl⟩
set_option maxRecDepth 100000 in
theorem zc620 : wZ (.code yX1_begin cX1_begin 2 (some .int)) := ⟨wT2 (List.mem_of_getElem? (i := 232) rfl), Or.inl rfl⟩
def b_Y1_begin_21a (S : Cst) (x0 : Nat) (x1 : Int32) : Int32 × Cst := (x1, S)
def q_Y1_begin_21a (S : Cst) (x0 : Nat) (lc : Nat) (ls : Nat) (x1 : Int32) : Prop := True
def b_Y1_begin_18a (S : Cst) (x0 : Nat) (x1 : Int32) (o0 : Option Nat) (y1 : Int32) (o2 : Option Nat) : Int32 × Cst := (b_Y1_begin_21a ((f_Y6_hold S (o2.getD 0) y1 o0).2) x0 x1)
def q_Y1_begin_18a (S : Cst) (x0 : Nat) (lc : Nat) (ls : Nat) (x1 : Int32) (o0 : Option Nat) (y1 : Int32) (o2 : Option Nat) : Prop := (iR S o2 5) ∧ (p_Y6_hold S (o2.getD 0) y1 o0) ∧ (q_Y1_begin_21a ((f_Y6_hold S (o2.getD 0) y1 o0).2) x0 lc ls x1)
def b_Y1_begin_8a (S : Cst) (x0 : Nat) (x1 : Int32) : Int32 × Cst := (b_Y1_begin_18a ((f_Y0_newMotion S x0 x1).2) x0 x1 ((f_Y0_newMotion S x0 x1).1) 2 (grC S x0 2))
def q_Y1_begin_8a (S : Cst) (x0 : Nat) (lc : Nat) (ls : Nat) (x1 : Int32) : Prop := ((S.1 ≤ (f_Y0_newMotion S x0 x1).2.1 ∧ (f_Y0_newMotion S x0 x1).2.1 ≤ lc) ∧ (S.2.1 ≤ (f_Y0_newMotion S x0 x1).2.2.1 ∧ (f_Y0_newMotion S x0 x1).2.2.1 ≤ ls)) ∧ (p_Y0_newMotion S x0 (f_Y0_newMotion S x0 x1).2.1 (f_Y0_newMotion S x0 x1).2.2.1 x1) ∧ (vR S (grC S x0 2)) ∧ (q_Y1_begin_18a ((f_Y0_newMotion S x0 x1).2) x0 lc ls x1 ((f_Y0_newMotion S x0 x1).1) 2 (grC S x0 2))
def f_Y1_begin (S : Cst) (x0 : Nat) (x1 : Int32) : Int32 × Cst := (b_Y1_begin_8a ((f_Y0_discard S x0 ((grC S x0 2).getD 0)).2) x0 x1)
def p_Y1_begin (S : Cst) (x0 : Nat) (lc : Nat) (ls : Nat) (x1 : Int32) : Prop := (iR S (grC S x0 2) 5) ∧ (p_Y0_discard S x0 ((grC S x0 2).getD 0)) ∧ (q_Y1_begin_8a ((f_Y0_discard S x0 ((grC S x0 2).getD 0)).2) x0 lc ls x1)
def e_Y1_begin : List Cond := [.fieldLink RX1 121 "MotionFloor$Assembly" "draft" "LMotionFloor$Place;", .methodLink RX1 125 yX0_discard, .instanceMethod yX0_discard, .selects RX0 yX0_discard yX0_discard, .initialized RX0, .methodLink RX1 129 yX0_newMotion, .instanceMethod yX0_newMotion, .selects RX0 yX0_newMotion yX0_newMotion, .methodLink RX1 133 yX6_hold, .instanceMethod yX6_hold, .selects RX6 yX6_hold yX6_hold, .initialized RX6]
def v_Y1_begin : List Cond := .code yX1_begin cX1_begin 2 (some .int) :: (e_Y1_begin ++ (wsX00 ++ (v_Y0_discard ++ (v_Y0_newMotion ++ (v_Y6_hold ++ [])))))
theorem te_Y1_begin : GoodIn lw_tbl e_Y1_begin := wGc zc146 (wGc zc202 (wGc zc55 (wGc zc54 (wGc zc39 (wGc zc597 (wGc zc596 (wGc zc595 (wGc zc619 (wGc zc349 (wGc zc348 (wGc zc112 (wG0))))))))))))
theorem t_Y1_begin : GoodIn lw_tbl v_Y1_begin := wGc zc620 (wGa te_Y1_begin (wGa zcX0 (wGa t_Y0_discard (wGa t_Y0_newMotion (wGa t_Y6_hold (wG0))))))
set_option maxHeartbeats 4000000 in
set_option maxRecDepth 100000 in
theorem c_Y1_begin (l : Launch) (G : va_G) (K : Nat → ClassId) (ad0 : Nat → Nat) (S0 : Cst) (x0 : Nat) (lc : Nat) (ls : Nat) (a1 : Int32) (sz : Nat) : Met l yX1_begin v_Y1_begin ({ frames := 4, cells := lc - S0.1, slots := ls - S0.2.1, locals := 87 }) (va_Pc [.ref (ad0 x0), .int a1] (cSt G K ad0 sz S0 ((S0.1 ≤ lc ∧ S0.2.1 ≤ ls) ∧ iK S0 x0 0 ∧ p_Y1_begin S0 x0 lc ls a1))) (va_Qi (fun (r : Int32) (u : Cst × (Nat → Nat)) => (r, u.1) = f_Y1_begin S0 x0 a1 ∧ eN S0 u.1 ∧ (∀ q, q < S0.1 → u.2 q = ad0 q)) (fun u t => cBt G K u.2 (va_A (wsC K ad0 S0) sz) u.1 t) (va_A (wsC K ad0 S0) sz)) (lc - S0.1) (ls - S0.2.1) (va_A (wsC K ad0 S0) sz) := by
  refine Met.ofW (cc := cX1_begin) (maxL := 2) (ret := (some .int)) (by decide) rfl ?_
  intro p e s m args below meth c s₁ B hml hv
  obtain ⟨rfl, ⟨hsz, hP, hK, hD0, hTE⟩, hp⟩ := hv
  obtain ⟨k_l, hp⟩ := hp
  obtain ⟨k_x0, hp⟩ := hp
  have hx := B.exec
  have hb := B.bytes
  have hr := B.returns
  have hts := atoms_spec (ws := v_Y1_begin) B.pre
  have t_ := t_Y1_begin
  have mw : ∀ w ∈ e_Y1_begin, w ∈ v_Y1_begin := fun w h => List.mem_cons_of_mem _ (List.mem_append_left _ h)
  have hw := fun w (h : w ∈ e_Y1_begin) => hts w (mw w h)
  have iX0 : ∀ w ∈ wsX00, w ∈ v_Y1_begin := fun w h => List.mem_cons_of_mem _ (List.mem_append_right _ (List.mem_append_left _ h))
  have j_Y0_discard : ∀ w ∈ v_Y0_discard, w ∈ v_Y1_begin := fun w h => List.mem_cons_of_mem _ (List.mem_append_right _ (List.mem_append_right _ (List.mem_append_left _ h)))
  have j_Y0_newMotion : ∀ w ∈ v_Y0_newMotion, w ∈ v_Y1_begin := fun w h => List.mem_cons_of_mem _ (List.mem_append_right _ (List.mem_append_right _ (List.mem_append_right _ (List.mem_append_left _ h))))
  have j_Y6_hold : ∀ w ∈ v_Y6_hold, w ∈ v_Y1_begin := fun w h => List.mem_cons_of_mem _ (List.mem_append_right _ (List.mem_append_right _ (List.mem_append_right _ (List.mem_append_right _ (List.mem_append_left _ h)))))
  have hown : s.vm.findClass RX1 = some m.cls := findClass_of_methodNamed B.named
  have hlocks := B.notSynchronized
  subst hsz
  have hD := hD0.self (sz := s.heap.size)
  generalize hAe : va_A (wsC K ad0 S0) s.heap.size = A at hD ⊢
  have hA : ∀ q : Nat, s.heap.size ≤ q → A q := fun q h => by rw [← hAe]; exact Or.inr h
  have hS : va_S A s.heap s.heap [] := va_S.rf
  have hl : lv_has (lg_sl ([.ref (ad0 x0), .int a1]) ++ List.replicate (2 - (lg_sl ([.ref (ad0 x0), .int a1])).length) Slot.unset).toArray 2 [(0, .ref (ad0 x0)), (1, .int a1)] := by
    exact lv_entry ([.ref (ad0 x0), .int a1]) (n := 2) (Nat.le_of_ble_eq_true rfl)
  rw [lg_entry_eq]
  generalize (lg_sl ([.ref (ad0 x0), .int a1]) ++ List.replicate (2 - (lg_sl ([.ref (ad0 x0), .int a1])).length) Slot.unset).toArray = ls_ at hl ⊢
  refine wGen (fun Q hQ => ?_)
  obtain ⟨X, hX⟩ : ∃ X, f_Y1_begin S0 x0 a1 = X := ⟨_, rfl⟩
  have B_Y1_begin_21a : ∀ (S : Cst) (ad : Nat → Nat) (x1 : Int32) (H : Heap) (locs : List Loc) (ls_ : Array Slot), b_Y1_begin_21a S x0 x1 = X → q_Y1_begin_21a S x0 lc ls x1 → nH S0 ad0 lc ls S ad → va_P G vwCl (wsC K ad S) H → va_D A (wsC K ad S) → va_S A s.heap H locs → lv_has ls_ 2 [(0, .ref (ad x0)), (1, .int x1)] → W p l e ({ frames := 4, cells := lc - S0.1, slots := ls - S0.2.1, locals := 87 } : Room) s m #[Value.ref (ad0 x0), Value.int a1] below meth c H locs (S.1 - S0.1) (S.2.1 - S0.2.1) Q (F0 m 21 ls_ []) := by
    intro S ad x1 H locs ls_ hE hp hZ hP hD hS hl
    unfold b_Y1_begin_21a at hE
    unfold q_Y1_begin_21a at hp
    refine lv_iload_n hx hb dX1_begin_21 rfl (lv_at hl 1 rfl) ?_
    refine W.widen (k := lc - S0.1) (n := ls - S0.2.1) (show S.1 - S0.1 ≤ lc - S0.1 from Nat.sub_le_sub_right hZ.2.2.1 _) (show S.2.1 - S0.2.1 ≤ ls - S0.2.1 from Nat.sub_le_sub_right hZ.2.2.2 _) ?_
    subst hQ
    exact W.iret (v := x1) hx hb hr (fun t ht hW => ⟨⟨x1, (S, ad), rfl, ⟨hE.trans hX.symm, hZ.1, hZ.2.1⟩, by rw [ht]; exact hP, hD⟩, hS.F ht⟩) hS.2.2 dX1_begin_22
  have B_Y1_begin_18a : ∀ (S : Cst) (ad : Nat → Nat) (x1 : Int32) (o0 : Option Nat) (y1 : Int32) (o2 : Option Nat) (H : Heap) (locs : List Loc) (ls_ : Array Slot), b_Y1_begin_18a S x0 x1 o0 y1 o2 = X → q_Y1_begin_18a S x0 lc ls x1 o0 y1 o2 → nH S0 ad0 lc ls S ad → va_P G vwCl (wsC K ad S) H → va_D A (wsC K ad S) → va_S A s.heap H locs → lv_has ls_ 2 [(0, .ref (ad x0)), (1, .int x1)] → W p l e ({ frames := 4, cells := lc - S0.1, slots := ls - S0.2.1, locals := 87 } : Room) s m #[Value.ref (ad0 x0), Value.int a1] below meth c H locs (S.1 - S0.1) (S.2.1 - S0.2.1) Q (F0 m 18 ls_ [va_re ad o0, .int y1, va_re ad o2]) := by
    intro S ad x1 o0 y1 o2 H locs ls_ hE hp hZ hP hD hS hl
    unfold b_Y1_begin_18a at hE
    unfold q_Y1_begin_18a at hp
    obtain ⟨hy10, hp⟩ := hp
    refine cTop3 (r := o2) hy10.1 ?_
    obtain ⟨hy11, hp⟩ := hp
    refine cGov (va_runV (As := [.int y1, va_re ad o0]) (rest := []) ⟨hx, hb, hml, hown, hts⟩ (c_Y6_hold l G K ad S (o2.getD 0) y1 o0 _) (cwV 2 hts (wGV t_ (mw (.methodLink RX1 133 yX6_hold) (List.mem_of_getElem? (i := 8) rfl)) (mw (.instanceMethod yX6_hold) (List.mem_of_getElem? (i := 9) rfl)) (mw (.selects RX6 yX6_hold yX6_hold) (List.mem_of_getElem? (i := 10) rfl)) (mw (.initialized RX6) (List.mem_of_getElem? (i := 11) rfl)) j_Y6_hold) rfl rfl rfl (by decide +kernel) ⟨Nat.le_of_ble_eq_true rfl, Nat.le_of_ble_eq_true rfl⟩) (cPV hK hTE hP hD 5 rfl (at_5 hy10.2) ⟨hy10.2, hy11⟩) rfl rfl hl.1 rfl (lv_room (Nat.le_of_ble_eq_true rfl)) dX1_begin_18 ⟨(show S.1 - S0.1 ≤ lc - S0.1 from Nat.sub_le_sub_right hZ.2.2.1 _), (show S.2.1 - S0.2.1 ≤ ls - S0.2.1 from Nat.sub_le_sub_right hZ.2.2.2 _)⟩) hP hD hS hA (fun u12 H locs hv hP hD hS => ?_)
    obtain ⟨hv, hz⟩ := hv
    have hZ := hZ.k hz
    refine cCells (cells' := u12.1 - S0.1) (slots' := u12.2.1 - S0.2.1) (by have e : S.1 = u12.1 := hz.1.1; show S.1 - S0.1 + 0 = _; omega) (by have e : S.2.1 = u12.2.1 := hz.1.2; show S.2.1 - S0.2.1 + 0 = _; omega) ?_
    rw [← hv] at hE hp
    dsimp only at hE hp
    exact B_Y1_begin_21a u12 ad x1 _ _ _ hE hp hZ hP hD hS (lv_sub hl [0, 1] rfl)
  have B_Y1_begin_8a : ∀ (S : Cst) (ad : Nat → Nat) (x1 : Int32) (H : Heap) (locs : List Loc) (ls_ : Array Slot), b_Y1_begin_8a S x0 x1 = X → q_Y1_begin_8a S x0 lc ls x1 → nH S0 ad0 lc ls S ad → va_P G vwCl (wsC K ad S) H → va_D A (wsC K ad S) → va_S A s.heap H locs → lv_has ls_ 2 [(0, .ref (ad x0)), (1, .int x1)] → W p l e ({ frames := 4, cells := lc - S0.1, slots := ls - S0.2.1, locals := 87 } : Room) s m #[Value.ref (ad0 x0), Value.int a1] below meth c H locs (S.1 - S0.1) (S.2.1 - S0.2.1) Q (F0 m 8 ls_ []) := by
    intro S ad x1 H locs ls_ hE hp hZ hP hD hS hl
    unfold b_Y1_begin_8a at hE
    unfold q_Y1_begin_8a at hp
    refine lv_aload_n hx hb dX1_begin_8 rfl (lv_at hl 0 rfl) ?_
    refine va_get (D := G) (ci := 0) (v := va_re ad (grC S x0 2)) (C := RX0) (T := TX0) (N := 11) hx hb hts iX0 hown hK hP x0 (at_0 (k_x0.n hZ.1)) rfl 2 (by decide) (hw (.fieldLink RX1 121 "MotionFloor$Assembly" "draft" "LMotionFloor$Place;") (List.mem_of_getElem? (i := 0) rfl)) (fun _ h9 => h9) rfl dX1_begin_9 ?_
    refine lv_iconst (v := 2) hx hb dX1_begin_12 (by decide) ?_
    refine lv_aload_n hx hb dX1_begin_13 rfl (lv_at hl 0 rfl) ?_
    refine lv_iload_n hx hb dX1_begin_14 rfl (lv_at hl 1 rfl) ?_
    obtain ⟨hy5, hp⟩ := hp
    obtain ⟨hy6, hp⟩ := hp
    refine cNoq (va_runV (As := [.int x1]) (rest := [.int 2, va_re ad (grC S x0 2)]) ⟨hx, hb, hml, hown, hts⟩ (c_Y0_newMotion l G K ad S x0 (f_Y0_newMotion S x0 x1).2.1 (f_Y0_newMotion S x0 x1).2.2.1 x1 _) (cwV 1 hts (wGV t_ (mw (.methodLink RX1 129 yX0_newMotion) (List.mem_of_getElem? (i := 5) rfl)) (mw (.instanceMethod yX0_newMotion) (List.mem_of_getElem? (i := 6) rfl)) (mw (.selects RX0 yX0_newMotion yX0_newMotion) (List.mem_of_getElem? (i := 7) rfl)) (mw (.initialized RX0) (List.mem_of_getElem? (i := 4) rfl)) j_Y0_newMotion) rfl rfl rfl (by decide +kernel) ⟨Nat.le_of_ble_eq_true rfl, Nat.le_of_ble_eq_true rfl⟩) (cPV hK hTE hP hD 0 rfl (at_0 (k_x0.n hZ.1)) ⟨⟨hy5.1.1, hy5.2.1⟩, (k_x0.n hZ.1), hy6⟩) rfl rfl hl.1 rfl (lv_room (by simp only [List.map_cons, List.map_nil, List.sum_cons, List.sum_nil, re_cat]; exact Nat.le_of_ble_eq_true rfl)) dX1_begin_15 ⟨by show _ ≤ lc - S0.1; have := hZ.1.1.1; have := hy5.1; omega, by show _ ≤ ls - S0.2.1; have := hZ.1.1.2; have := hy5.2; omega⟩) hP hD hS hA (fun r8 u7 H locs hv hP hD hS => ?_)
    obtain ⟨hv, hz, ha⟩ := hv
    obtain ⟨hy9, hp⟩ := hp
    have e1 : (f_Y0_newMotion S x0 x1).2.1 = u7.1.1 := by rw [← hv]
    have e2 : (f_Y0_newMotion S x0 x1).2.2.1 = u7.1.2.1 := by rw [← hv]
    refine cCells (cells' := u7.1.1 - S0.1) (slots' := u7.1.2.1 - S0.2.1) (by have := hZ.1.1.1; have := hy5.1; omega) (by have := hZ.1.1.2; have := hy5.2; omega) ?_
    rw [← ha x0 (k_x0.n hZ.1).1] at hl
    rw [← re_ad (r := (grC S x0 2)) ha hy9]
    have hZ := hZ.n hz ha (by rw [← e1]; exact hy5.1.2) (by rw [← e2]; exact hy5.2.2)
    rw [← hv] at hE hp
    dsimp only at hE hp
    exact B_Y1_begin_18a u7.1 u7.2 x1 r8 2 (grC S x0 2) _ _ _ hE hp hZ hP hD hS (lv_sub hl [0, 1] rfl)
  have B_M : ∀ (S : Cst) (ad : Nat → Nat) (x1 : Int32) (H : Heap) (locs : List Loc) (ls_ : Array Slot), f_Y1_begin S x0 x1 = X → p_Y1_begin S x0 lc ls x1 → nH S0 ad0 lc ls S ad → va_P G vwCl (wsC K ad S) H → va_D A (wsC K ad S) → va_S A s.heap H locs → lv_has ls_ 2 [(0, .ref (ad x0)), (1, .int x1)] → W p l e ({ frames := 4, cells := lc - S0.1, slots := ls - S0.2.1, locals := 87 } : Room) s m #[Value.ref (ad0 x0), Value.int a1] below meth c H locs (S.1 - S0.1) (S.2.1 - S0.2.1) Q (F0 m 0 ls_ []) := by
    intro S ad x1 H locs ls_ hE hp hZ hP hD hS hl
    unfold f_Y1_begin at hE
    unfold p_Y1_begin at hp
    refine lv_aload_n hx hb dX1_begin_0 rfl (lv_at hl 0 rfl) ?_
    refine lv_aload_n hx hb dX1_begin_1 rfl (lv_at hl 0 rfl) ?_
    refine va_get (D := G) (ci := 0) (v := va_re ad (grC S x0 2)) (C := RX0) (T := TX0) (N := 11) hx hb hts iX0 hown hK hP x0 (at_0 (k_x0.n hZ.1)) rfl 2 (by decide) (hw (.fieldLink RX1 121 "MotionFloor$Assembly" "draft" "LMotionFloor$Place;") (List.mem_of_getElem? (i := 0) rfl)) (fun _ h9 => h9) rfl dX1_begin_2 ?_
    obtain ⟨hy1, hp⟩ := hp
    refine cTop (r := (grC S x0 2)) hy1.1 ?_
    obtain ⟨hy2, hp⟩ := hp
    refine cGov (va_runV (As := [.ref (ad ((grC S x0 2).getD 0))]) (rest := []) ⟨hx, hb, hml, hown, hts⟩ (c_Y0_discard l G K ad S x0 ((grC S x0 2).getD 0) _) (cwV 1 hts (wGV t_ (mw (.methodLink RX1 125 yX0_discard) (List.mem_of_getElem? (i := 1) rfl)) (mw (.instanceMethod yX0_discard) (List.mem_of_getElem? (i := 2) rfl)) (mw (.selects RX0 yX0_discard yX0_discard) (List.mem_of_getElem? (i := 3) rfl)) (mw (.initialized RX0) (List.mem_of_getElem? (i := 4) rfl)) j_Y0_discard) rfl rfl rfl (by decide +kernel) ⟨Nat.le_of_ble_eq_true rfl, Nat.le_of_ble_eq_true rfl⟩) (cPV hK hTE hP hD 0 rfl (at_0 (k_x0.n hZ.1)) ⟨(k_x0.n hZ.1), hy1.2, hy2⟩) rfl rfl hl.1 rfl (lv_room (Nat.le_of_ble_eq_true rfl)) dX1_begin_5 ⟨(show S.1 - S0.1 ≤ lc - S0.1 from Nat.sub_le_sub_right hZ.2.2.1 _), (show S.2.1 - S0.2.1 ≤ ls - S0.2.1 from Nat.sub_le_sub_right hZ.2.2.2 _)⟩) hP hD hS hA (fun u3 H locs hv hP hD hS => ?_)
    obtain ⟨hv, hz⟩ := hv
    have hZ := hZ.k hz
    refine cCells (cells' := u3.1 - S0.1) (slots' := u3.2.1 - S0.2.1) (by have e : S.1 = u3.1 := hz.1.1; show S.1 - S0.1 + 0 = _; omega) (by have e : S.2.1 = u3.2.1 := hz.1.2; show S.2.1 - S0.2.1 + 0 = _; omega) ?_
    rw [← hv] at hE hp
    dsimp only at hE hp
    exact B_Y1_begin_8a u3 ad x1 _ _ _ hE hp hZ hP hD hS (lv_sub hl [0, 1] rfl)
  exact cCells (Nat.sub_self _).symm (Nat.sub_self _).symm (B_M S0 ad0 a1 _ _ _ hX hp (nH.rf S0 ad0 k_l) hP hD hS hl)
theorem gdX1_perform_199 : ckS (List.drop 199 cX1_perform.data.toList) 199 [(199, .ireturn, 1), (200, .aload_n 0, 1), (201, .iload_n 2, 1), (202, .iload_n 3, 1), (203, .invokestatic 66, 3), (206, .ireturn, 1), (207, .aload_n 0, 1), (208, .iload_n 2, 1), (209, .iload_n 3, 1), (210, .iload 4, 2), (212, .iload 5, 2), (214, .invokestatic 70, 3), (217, .ireturn, 1), (218, .aload_n 0, 1), (219, .iload_n 2, 1), (220, .invokestatic 74, 3), (223, .ireturn, 1), (224, .aload_n 0, 1), (225, .iload_n 2, 1), (226, .invokestatic 77, 3), (229, .ireturn, 1), (230, .aload_n 0, 1), (231, .iload_n 2, 1), (232, .invokestatic 80, 3), (235, .ireturn, 1), (236, .aload 6, 2), (238, .iload_n 2, 1), (239, .invokestatic 83, 3), (242, .ireturn, 1), (243, .aload 6, 2), (245, .ifnonnull 7, 3), (248, .iconst 0, 1), (249, .goto 10, 3), (252, .aload 6, 2), (254, .iload_n 2, 1), (255, .iload_n 3, 1), (256, .invokevirtual 87, 3), (259, .ireturn, 1), (260, .aload_n 0, 1), (261, .aload_n 0, 1)] = true := by decide +kernel
theorem dX1_perform_199 : decode cX1_perform 199 = .ok (.ireturn, 1) := ckS_g gdX1_perform_199 0 rfl
theorem dX1_perform_200 : decode cX1_perform 200 = .ok (.aload_n 0, 1) := ckS_g gdX1_perform_199 1 rfl
theorem dX1_perform_201 : decode cX1_perform 201 = .ok (.iload_n 2, 1) := ckS_g gdX1_perform_199 2 rfl
theorem dX1_perform_202 : decode cX1_perform 202 = .ok (.iload_n 3, 1) := ckS_g gdX1_perform_199 3 rfl
theorem dX1_perform_203 : decode cX1_perform 203 = .ok (.invokestatic 66, 3) := ckS_g gdX1_perform_199 4 rfl
theorem dX1_perform_206 : decode cX1_perform 206 = .ok (.ireturn, 1) := ckS_g gdX1_perform_199 5 rfl
theorem dX1_perform_207 : decode cX1_perform 207 = .ok (.aload_n 0, 1) := ckS_g gdX1_perform_199 6 rfl
theorem dX1_perform_208 : decode cX1_perform 208 = .ok (.iload_n 2, 1) := ckS_g gdX1_perform_199 7 rfl
theorem dX1_perform_209 : decode cX1_perform 209 = .ok (.iload_n 3, 1) := ckS_g gdX1_perform_199 8 rfl
theorem dX1_perform_210 : decode cX1_perform 210 = .ok (.iload 4, 2) := ckS_g gdX1_perform_199 9 rfl
theorem dX1_perform_212 : decode cX1_perform 212 = .ok (.iload 5, 2) := ckS_g gdX1_perform_199 10 rfl
theorem dX1_perform_214 : decode cX1_perform 214 = .ok (.invokestatic 70, 3) := ckS_g gdX1_perform_199 11 rfl
theorem dX1_perform_217 : decode cX1_perform 217 = .ok (.ireturn, 1) := ckS_g gdX1_perform_199 12 rfl
theorem dX1_perform_218 : decode cX1_perform 218 = .ok (.aload_n 0, 1) := ckS_g gdX1_perform_199 13 rfl
theorem dX1_perform_219 : decode cX1_perform 219 = .ok (.iload_n 2, 1) := ckS_g gdX1_perform_199 14 rfl
theorem dX1_perform_220 : decode cX1_perform 220 = .ok (.invokestatic 74, 3) := ckS_g gdX1_perform_199 15 rfl
theorem dX1_perform_223 : decode cX1_perform 223 = .ok (.ireturn, 1) := ckS_g gdX1_perform_199 16 rfl
theorem dX1_perform_224 : decode cX1_perform 224 = .ok (.aload_n 0, 1) := ckS_g gdX1_perform_199 17 rfl
theorem dX1_perform_225 : decode cX1_perform 225 = .ok (.iload_n 2, 1) := ckS_g gdX1_perform_199 18 rfl
theorem dX1_perform_226 : decode cX1_perform 226 = .ok (.invokestatic 77, 3) := ckS_g gdX1_perform_199 19 rfl
theorem dX1_perform_229 : decode cX1_perform 229 = .ok (.ireturn, 1) := ckS_g gdX1_perform_199 20 rfl
theorem dX1_perform_230 : decode cX1_perform 230 = .ok (.aload_n 0, 1) := ckS_g gdX1_perform_199 21 rfl
theorem dX1_perform_231 : decode cX1_perform 231 = .ok (.iload_n 2, 1) := ckS_g gdX1_perform_199 22 rfl
theorem dX1_perform_232 : decode cX1_perform 232 = .ok (.invokestatic 80, 3) := ckS_g gdX1_perform_199 23 rfl
theorem dX1_perform_235 : decode cX1_perform 235 = .ok (.ireturn, 1) := ckS_g gdX1_perform_199 24 rfl
theorem dX1_perform_236 : decode cX1_perform 236 = .ok (.aload 6, 2) := ckS_g gdX1_perform_199 25 rfl
theorem dX1_perform_238 : decode cX1_perform 238 = .ok (.iload_n 2, 1) := ckS_g gdX1_perform_199 26 rfl
theorem dX1_perform_239 : decode cX1_perform 239 = .ok (.invokestatic 83, 3) := ckS_g gdX1_perform_199 27 rfl
theorem dX1_perform_242 : decode cX1_perform 242 = .ok (.ireturn, 1) := ckS_g gdX1_perform_199 28 rfl
theorem dX1_perform_243 : decode cX1_perform 243 = .ok (.aload 6, 2) := ckS_g gdX1_perform_199 29 rfl
theorem dX1_perform_245 : decode cX1_perform 245 = .ok (.ifnonnull 7, 3) := ckS_g gdX1_perform_199 30 rfl
theorem dX1_perform_248 : decode cX1_perform 248 = .ok (.iconst 0, 1) := ckS_g gdX1_perform_199 31 rfl
theorem dX1_perform_249 : decode cX1_perform 249 = .ok (.goto 10, 3) := ckS_g gdX1_perform_199 32 rfl
theorem dX1_perform_252 : decode cX1_perform 252 = .ok (.aload 6, 2) := ckS_g gdX1_perform_199 33 rfl
theorem dX1_perform_254 : decode cX1_perform 254 = .ok (.iload_n 2, 1) := ckS_g gdX1_perform_199 34 rfl
theorem dX1_perform_255 : decode cX1_perform 255 = .ok (.iload_n 3, 1) := ckS_g gdX1_perform_199 35 rfl
theorem dX1_perform_256 : decode cX1_perform 256 = .ok (.invokevirtual 87, 3) := ckS_g gdX1_perform_199 36 rfl
theorem dX1_perform_259 : decode cX1_perform 259 = .ok (.ireturn, 1) := ckS_g gdX1_perform_199 37 rfl
theorem dX1_perform_260 : decode cX1_perform 260 = .ok (.aload_n 0, 1) := ckS_g gdX1_perform_199 38 rfl
theorem dX1_perform_261 : decode cX1_perform 261 = .ok (.aload_n 0, 1) := ckS_g gdX1_perform_199 39 rfl
theorem gdX1_perform_262 : ckS (List.drop 262 cX1_perform.data.toList) 262 [(262, .getfield 9, 3), (265, .invokevirtual 92, 3), (268, .aload_n 0, 1), (269, .getfield 9, 3), (272, .getfield 96, 3), (275, .ireturn, 1), (276, .aload_n 0, 1), (277, .invokestatic 99, 3), (280, .ireturn, 1), (281, .aload 6, 2), (283, .ifnonnull 7, 3), (286, .iconst 0, 1), (287, .goto 9, 3), (290, .aload_n 0, 1), (291, .aload 6, 2), (293, .invokestatic 103, 3), (296, .ireturn, 1)] = true := by decide +kernel
theorem dX1_perform_262 : decode cX1_perform 262 = .ok (.getfield 9, 3) := ckS_g gdX1_perform_262 0 rfl
theorem dX1_perform_265 : decode cX1_perform 265 = .ok (.invokevirtual 92, 3) := ckS_g gdX1_perform_262 1 rfl
theorem dX1_perform_268 : decode cX1_perform 268 = .ok (.aload_n 0, 1) := ckS_g gdX1_perform_262 2 rfl
theorem dX1_perform_269 : decode cX1_perform 269 = .ok (.getfield 9, 3) := ckS_g gdX1_perform_262 3 rfl
theorem dX1_perform_272 : decode cX1_perform 272 = .ok (.getfield 96, 3) := ckS_g gdX1_perform_262 4 rfl
theorem dX1_perform_275 : decode cX1_perform 275 = .ok (.ireturn, 1) := ckS_g gdX1_perform_262 5 rfl
theorem dX1_perform_276 : decode cX1_perform 276 = .ok (.aload_n 0, 1) := ckS_g gdX1_perform_262 6 rfl
theorem dX1_perform_277 : decode cX1_perform 277 = .ok (.invokestatic 99, 3) := ckS_g gdX1_perform_262 7 rfl
theorem dX1_perform_280 : decode cX1_perform 280 = .ok (.ireturn, 1) := ckS_g gdX1_perform_262 8 rfl
theorem dX1_perform_281 : decode cX1_perform 281 = .ok (.aload 6, 2) := ckS_g gdX1_perform_262 9 rfl
theorem dX1_perform_283 : decode cX1_perform 283 = .ok (.ifnonnull 7, 3) := ckS_g gdX1_perform_262 10 rfl
theorem dX1_perform_286 : decode cX1_perform 286 = .ok (.iconst 0, 1) := ckS_g gdX1_perform_262 11 rfl
theorem dX1_perform_287 : decode cX1_perform 287 = .ok (.goto 9, 3) := ckS_g gdX1_perform_262 12 rfl
theorem dX1_perform_290 : decode cX1_perform 290 = .ok (.aload_n 0, 1) := ckS_g gdX1_perform_262 13 rfl
theorem dX1_perform_291 : decode cX1_perform 291 = .ok (.aload 6, 2) := ckS_g gdX1_perform_262 14 rfl
theorem dX1_perform_293 : decode cX1_perform 293 = .ok (.invokestatic 103, 3) := ckS_g gdX1_perform_262 15 rfl
theorem dX1_perform_296 : decode cX1_perform 296 = .ok (.ireturn, 1) := ckS_g gdX1_perform_262 16 rfl
theorem gdX7_announce_0 : ckS (List.drop 0 cX7_announce.data.toList) 0 [(0, .aload_n 0, 1), (1, .getfield 9, 3), (4, .invokevirtual 15, 3), (7, .ifCond .ne 5, 3), (10, .iconst 0, 1), (11, .ireturn, 1), (12, .aload_n 1, 1), (13, .getfield 21, 3), (16, .iconst (-1), 1), (17, .if_icmp .eq 7, 3), (20, .iconst 1, 1), (21, .goto 4, 3), (24, .iconst 0, 1), (25, .istore_n 2, 1), (26, .iload_n 2, 1), (27, .ifCond .eq 15, 3), (30, .aload_n 0, 1), (31, .getfield 9, 3), (34, .aload_n 1, 1), (35, .iconst 1, 1), (36, .invokevirtual 27, 3), (39, .goto 4, 3), (42, .iconst 0, 1), (43, .istore_n 3, 1), (44, .iload_n 2, 1), (45, .ifCond .eq 15, 3), (48, .aload_n 0, 1), (49, .getfield 9, 3), (52, .aload_n 1, 1), (53, .iconst 0, 1), (54, .invokevirtual 27, 3), (57, .goto 4, 3), (60, .iconst 0, 1), (61, .istore 4, 2), (63, .aload_n 0, 1), (64, .getfield 9, 3), (67, .aload_n 1, 1), (68, .iload_n 3, 1), (69, .iload 4, 2), (71, .invokestatic 31, 3)] = true := by decide +kernel
theorem dX7_announce_0 : decode cX7_announce 0 = .ok (.aload_n 0, 1) := ckS_g gdX7_announce_0 0 rfl
theorem dX7_announce_1 : decode cX7_announce 1 = .ok (.getfield 9, 3) := ckS_g gdX7_announce_0 1 rfl
theorem dX7_announce_4 : decode cX7_announce 4 = .ok (.invokevirtual 15, 3) := ckS_g gdX7_announce_0 2 rfl
theorem dX7_announce_7 : decode cX7_announce 7 = .ok (.ifCond .ne 5, 3) := ckS_g gdX7_announce_0 3 rfl
theorem dX7_announce_10 : decode cX7_announce 10 = .ok (.iconst 0, 1) := ckS_g gdX7_announce_0 4 rfl
theorem dX7_announce_11 : decode cX7_announce 11 = .ok (.ireturn, 1) := ckS_g gdX7_announce_0 5 rfl
theorem dX7_announce_12 : decode cX7_announce 12 = .ok (.aload_n 1, 1) := ckS_g gdX7_announce_0 6 rfl
theorem dX7_announce_13 : decode cX7_announce 13 = .ok (.getfield 21, 3) := ckS_g gdX7_announce_0 7 rfl
theorem dX7_announce_16 : decode cX7_announce 16 = .ok (.iconst (-1), 1) := ckS_g gdX7_announce_0 8 rfl
theorem dX7_announce_17 : decode cX7_announce 17 = .ok (.if_icmp .eq 7, 3) := ckS_g gdX7_announce_0 9 rfl
theorem dX7_announce_20 : decode cX7_announce 20 = .ok (.iconst 1, 1) := ckS_g gdX7_announce_0 10 rfl
theorem dX7_announce_21 : decode cX7_announce 21 = .ok (.goto 4, 3) := ckS_g gdX7_announce_0 11 rfl
theorem dX7_announce_24 : decode cX7_announce 24 = .ok (.iconst 0, 1) := ckS_g gdX7_announce_0 12 rfl
theorem dX7_announce_25 : decode cX7_announce 25 = .ok (.istore_n 2, 1) := ckS_g gdX7_announce_0 13 rfl
theorem dX7_announce_26 : decode cX7_announce 26 = .ok (.iload_n 2, 1) := ckS_g gdX7_announce_0 14 rfl
theorem dX7_announce_27 : decode cX7_announce 27 = .ok (.ifCond .eq 15, 3) := ckS_g gdX7_announce_0 15 rfl
theorem dX7_announce_30 : decode cX7_announce 30 = .ok (.aload_n 0, 1) := ckS_g gdX7_announce_0 16 rfl
theorem dX7_announce_31 : decode cX7_announce 31 = .ok (.getfield 9, 3) := ckS_g gdX7_announce_0 17 rfl
theorem dX7_announce_34 : decode cX7_announce 34 = .ok (.aload_n 1, 1) := ckS_g gdX7_announce_0 18 rfl
theorem dX7_announce_35 : decode cX7_announce 35 = .ok (.iconst 1, 1) := ckS_g gdX7_announce_0 19 rfl
theorem dX7_announce_36 : decode cX7_announce 36 = .ok (.invokevirtual 27, 3) := ckS_g gdX7_announce_0 20 rfl
theorem dX7_announce_39 : decode cX7_announce 39 = .ok (.goto 4, 3) := ckS_g gdX7_announce_0 21 rfl
theorem dX7_announce_42 : decode cX7_announce 42 = .ok (.iconst 0, 1) := ckS_g gdX7_announce_0 22 rfl
theorem dX7_announce_43 : decode cX7_announce 43 = .ok (.istore_n 3, 1) := ckS_g gdX7_announce_0 23 rfl
theorem dX7_announce_44 : decode cX7_announce 44 = .ok (.iload_n 2, 1) := ckS_g gdX7_announce_0 24 rfl
theorem dX7_announce_45 : decode cX7_announce 45 = .ok (.ifCond .eq 15, 3) := ckS_g gdX7_announce_0 25 rfl
theorem dX7_announce_48 : decode cX7_announce 48 = .ok (.aload_n 0, 1) := ckS_g gdX7_announce_0 26 rfl
theorem dX7_announce_49 : decode cX7_announce 49 = .ok (.getfield 9, 3) := ckS_g gdX7_announce_0 27 rfl
theorem dX7_announce_52 : decode cX7_announce 52 = .ok (.aload_n 1, 1) := ckS_g gdX7_announce_0 28 rfl
theorem dX7_announce_53 : decode cX7_announce 53 = .ok (.iconst 0, 1) := ckS_g gdX7_announce_0 29 rfl
theorem dX7_announce_54 : decode cX7_announce 54 = .ok (.invokevirtual 27, 3) := ckS_g gdX7_announce_0 30 rfl
theorem dX7_announce_57 : decode cX7_announce 57 = .ok (.goto 4, 3) := ckS_g gdX7_announce_0 31 rfl
theorem dX7_announce_60 : decode cX7_announce 60 = .ok (.iconst 0, 1) := ckS_g gdX7_announce_0 32 rfl
theorem dX7_announce_61 : decode cX7_announce 61 = .ok (.istore 4, 2) := ckS_g gdX7_announce_0 33 rfl
theorem dX7_announce_63 : decode cX7_announce 63 = .ok (.aload_n 0, 1) := ckS_g gdX7_announce_0 34 rfl
theorem dX7_announce_64 : decode cX7_announce 64 = .ok (.getfield 9, 3) := ckS_g gdX7_announce_0 35 rfl
theorem dX7_announce_67 : decode cX7_announce 67 = .ok (.aload_n 1, 1) := ckS_g gdX7_announce_0 36 rfl
theorem dX7_announce_68 : decode cX7_announce 68 = .ok (.iload_n 3, 1) := ckS_g gdX7_announce_0 37 rfl
theorem dX7_announce_69 : decode cX7_announce 69 = .ok (.iload 4, 2) := ckS_g gdX7_announce_0 38 rfl
theorem dX7_announce_71 : decode cX7_announce 71 = .ok (.invokestatic 31, 3) := ckS_g gdX7_announce_0 39 rfl
theorem gdX7_announce_74 : ckS (List.drop 74 cX7_announce.data.toList) 74 [(74, .istore 5, 2), (76, .aload_n 0, 1), (77, .aload_n 1, 1), (78, .getfield 37, 3), (81, .iload 5, 2), (83, .iload_n 3, 1), (84, .iload 4, 2), (86, .invokestatic 40, 3), (89, .iload 5, 2), (91, .iconst 1, 1), (92, .if_icmp .ne 7, 3), (95, .iconst 1, 1), (96, .goto 4, 3), (99, .iconst 0, 1), (100, .istore 6, 2), (102, .iload 6, 2), (104, .ifCond .eq 18, 3), (107, .aload_n 1, 1), (108, .getfield 37, 3), (111, .iconst 4, 1), (112, .if_icmp .ne 10, 3), (115, .aload_n 0, 1), (116, .invokestatic 44, 3), (119, .goto 62, 3), (122, .iload 6, 2), (124, .ifCond .eq 18, 3), (127, .aload_n 1, 1), (128, .getfield 37, 3), (131, .iconst 5, 1), (132, .if_icmp .ne 10, 3), (135, .aload_n 0, 1), (136, .invokestatic 48, 3), (139, .goto 42, 3), (142, .iload 6, 2), (144, .ifCond .eq 19, 3), (147, .aload_n 1, 1), (148, .getfield 37, 3), (151, .bipush 7, 2), (153, .if_icmp .ne 10, 3), (156, .aload_n 0, 1)] = true := by decide +kernel
theorem dX7_announce_74 : decode cX7_announce 74 = .ok (.istore 5, 2) := ckS_g gdX7_announce_74 0 rfl
theorem dX7_announce_76 : decode cX7_announce 76 = .ok (.aload_n 0, 1) := ckS_g gdX7_announce_74 1 rfl
theorem dX7_announce_77 : decode cX7_announce 77 = .ok (.aload_n 1, 1) := ckS_g gdX7_announce_74 2 rfl
theorem dX7_announce_78 : decode cX7_announce 78 = .ok (.getfield 37, 3) := ckS_g gdX7_announce_74 3 rfl
theorem dX7_announce_81 : decode cX7_announce 81 = .ok (.iload 5, 2) := ckS_g gdX7_announce_74 4 rfl
theorem dX7_announce_83 : decode cX7_announce 83 = .ok (.iload_n 3, 1) := ckS_g gdX7_announce_74 5 rfl
theorem dX7_announce_84 : decode cX7_announce 84 = .ok (.iload 4, 2) := ckS_g gdX7_announce_74 6 rfl
theorem dX7_announce_86 : decode cX7_announce 86 = .ok (.invokestatic 40, 3) := ckS_g gdX7_announce_74 7 rfl
theorem dX7_announce_89 : decode cX7_announce 89 = .ok (.iload 5, 2) := ckS_g gdX7_announce_74 8 rfl
theorem dX7_announce_91 : decode cX7_announce 91 = .ok (.iconst 1, 1) := ckS_g gdX7_announce_74 9 rfl
theorem dX7_announce_92 : decode cX7_announce 92 = .ok (.if_icmp .ne 7, 3) := ckS_g gdX7_announce_74 10 rfl
theorem dX7_announce_95 : decode cX7_announce 95 = .ok (.iconst 1, 1) := ckS_g gdX7_announce_74 11 rfl
theorem dX7_announce_96 : decode cX7_announce 96 = .ok (.goto 4, 3) := ckS_g gdX7_announce_74 12 rfl
theorem dX7_announce_99 : decode cX7_announce 99 = .ok (.iconst 0, 1) := ckS_g gdX7_announce_74 13 rfl
theorem dX7_announce_100 : decode cX7_announce 100 = .ok (.istore 6, 2) := ckS_g gdX7_announce_74 14 rfl
theorem dX7_announce_102 : decode cX7_announce 102 = .ok (.iload 6, 2) := ckS_g gdX7_announce_74 15 rfl
theorem dX7_announce_104 : decode cX7_announce 104 = .ok (.ifCond .eq 18, 3) := ckS_g gdX7_announce_74 16 rfl
theorem dX7_announce_107 : decode cX7_announce 107 = .ok (.aload_n 1, 1) := ckS_g gdX7_announce_74 17 rfl
theorem dX7_announce_108 : decode cX7_announce 108 = .ok (.getfield 37, 3) := ckS_g gdX7_announce_74 18 rfl
theorem dX7_announce_111 : decode cX7_announce 111 = .ok (.iconst 4, 1) := ckS_g gdX7_announce_74 19 rfl
theorem dX7_announce_112 : decode cX7_announce 112 = .ok (.if_icmp .ne 10, 3) := ckS_g gdX7_announce_74 20 rfl
theorem dX7_announce_115 : decode cX7_announce 115 = .ok (.aload_n 0, 1) := ckS_g gdX7_announce_74 21 rfl
theorem dX7_announce_116 : decode cX7_announce 116 = .ok (.invokestatic 44, 3) := ckS_g gdX7_announce_74 22 rfl
theorem dX7_announce_119 : decode cX7_announce 119 = .ok (.goto 62, 3) := ckS_g gdX7_announce_74 23 rfl
theorem dX7_announce_122 : decode cX7_announce 122 = .ok (.iload 6, 2) := ckS_g gdX7_announce_74 24 rfl
theorem dX7_announce_124 : decode cX7_announce 124 = .ok (.ifCond .eq 18, 3) := ckS_g gdX7_announce_74 25 rfl
theorem dX7_announce_127 : decode cX7_announce 127 = .ok (.aload_n 1, 1) := ckS_g gdX7_announce_74 26 rfl
theorem dX7_announce_128 : decode cX7_announce 128 = .ok (.getfield 37, 3) := ckS_g gdX7_announce_74 27 rfl
theorem dX7_announce_131 : decode cX7_announce 131 = .ok (.iconst 5, 1) := ckS_g gdX7_announce_74 28 rfl
theorem dX7_announce_132 : decode cX7_announce 132 = .ok (.if_icmp .ne 10, 3) := ckS_g gdX7_announce_74 29 rfl
theorem dX7_announce_135 : decode cX7_announce 135 = .ok (.aload_n 0, 1) := ckS_g gdX7_announce_74 30 rfl
theorem dX7_announce_136 : decode cX7_announce 136 = .ok (.invokestatic 48, 3) := ckS_g gdX7_announce_74 31 rfl
theorem dX7_announce_139 : decode cX7_announce 139 = .ok (.goto 42, 3) := ckS_g gdX7_announce_74 32 rfl
theorem dX7_announce_142 : decode cX7_announce 142 = .ok (.iload 6, 2) := ckS_g gdX7_announce_74 33 rfl
theorem dX7_announce_144 : decode cX7_announce 144 = .ok (.ifCond .eq 19, 3) := ckS_g gdX7_announce_74 34 rfl
theorem dX7_announce_147 : decode cX7_announce 147 = .ok (.aload_n 1, 1) := ckS_g gdX7_announce_74 35 rfl
theorem dX7_announce_148 : decode cX7_announce 148 = .ok (.getfield 37, 3) := ckS_g gdX7_announce_74 36 rfl
theorem dX7_announce_151 : decode cX7_announce 151 = .ok (.bipush 7, 2) := ckS_g gdX7_announce_74 37 rfl
theorem dX7_announce_153 : decode cX7_announce 153 = .ok (.if_icmp .ne 10, 3) := ckS_g gdX7_announce_74 38 rfl
theorem dX7_announce_156 : decode cX7_announce 156 = .ok (.aload_n 0, 1) := ckS_g gdX7_announce_74 39 rfl
theorem gdX7_announce_157 : ckS (List.drop 157 cX7_announce.data.toList) 157 [(157, .invokestatic 51, 3), (160, .goto 21, 3), (163, .iload 6, 2), (165, .ifCond .eq 8, 3), (168, .aload_n 0, 1), (169, .aload_n 1, 1), (170, .invokestatic 54, 3), (173, .aload_n 0, 1), (174, .aload_n 0, 1), (175, .getfield 58, 3), (178, .invokevirtual 62, 3), (181, .iload 5, 2), (183, .iconst 4, 1), (184, .if_icmp .ne 11, 3), (187, .aload_n 0, 1), (188, .aload_n 0, 1), (189, .getfield 58, 3), (192, .invokevirtual 62, 3), (195, .aload_n 0, 1), (196, .getfield 9, 3), (199, .iconst (-1), 1), (200, .putfield 66, 3), (203, .iload 5, 2), (205, .ireturn, 1)] = true := by decide +kernel
theorem dX7_announce_157 : decode cX7_announce 157 = .ok (.invokestatic 51, 3) := ckS_g gdX7_announce_157 0 rfl
theorem dX7_announce_160 : decode cX7_announce 160 = .ok (.goto 21, 3) := ckS_g gdX7_announce_157 1 rfl
theorem dX7_announce_163 : decode cX7_announce 163 = .ok (.iload 6, 2) := ckS_g gdX7_announce_157 2 rfl
theorem dX7_announce_165 : decode cX7_announce 165 = .ok (.ifCond .eq 8, 3) := ckS_g gdX7_announce_157 3 rfl
theorem dX7_announce_168 : decode cX7_announce 168 = .ok (.aload_n 0, 1) := ckS_g gdX7_announce_157 4 rfl
theorem dX7_announce_169 : decode cX7_announce 169 = .ok (.aload_n 1, 1) := ckS_g gdX7_announce_157 5 rfl
theorem dX7_announce_170 : decode cX7_announce 170 = .ok (.invokestatic 54, 3) := ckS_g gdX7_announce_157 6 rfl
theorem dX7_announce_173 : decode cX7_announce 173 = .ok (.aload_n 0, 1) := ckS_g gdX7_announce_157 7 rfl
theorem dX7_announce_174 : decode cX7_announce 174 = .ok (.aload_n 0, 1) := ckS_g gdX7_announce_157 8 rfl
theorem dX7_announce_175 : decode cX7_announce 175 = .ok (.getfield 58, 3) := ckS_g gdX7_announce_157 9 rfl
theorem dX7_announce_178 : decode cX7_announce 178 = .ok (.invokevirtual 62, 3) := ckS_g gdX7_announce_157 10 rfl
theorem dX7_announce_181 : decode cX7_announce 181 = .ok (.iload 5, 2) := ckS_g gdX7_announce_157 11 rfl
theorem dX7_announce_183 : decode cX7_announce 183 = .ok (.iconst 4, 1) := ckS_g gdX7_announce_157 12 rfl
theorem dX7_announce_184 : decode cX7_announce 184 = .ok (.if_icmp .ne 11, 3) := ckS_g gdX7_announce_157 13 rfl
theorem dX7_announce_187 : decode cX7_announce 187 = .ok (.aload_n 0, 1) := ckS_g gdX7_announce_157 14 rfl
theorem dX7_announce_188 : decode cX7_announce 188 = .ok (.aload_n 0, 1) := ckS_g gdX7_announce_157 15 rfl
theorem dX7_announce_189 : decode cX7_announce 189 = .ok (.getfield 58, 3) := ckS_g gdX7_announce_157 16 rfl
theorem dX7_announce_192 : decode cX7_announce 192 = .ok (.invokevirtual 62, 3) := ckS_g gdX7_announce_157 17 rfl
theorem dX7_announce_195 : decode cX7_announce 195 = .ok (.aload_n 0, 1) := ckS_g gdX7_announce_157 18 rfl
theorem dX7_announce_196 : decode cX7_announce 196 = .ok (.getfield 9, 3) := ckS_g gdX7_announce_157 19 rfl
theorem dX7_announce_199 : decode cX7_announce 199 = .ok (.iconst (-1), 1) := ckS_g gdX7_announce_157 20 rfl
theorem dX7_announce_200 : decode cX7_announce 200 = .ok (.putfield 66, 3) := ckS_g gdX7_announce_157 21 rfl
theorem dX7_announce_203 : decode cX7_announce 203 = .ok (.iload 5, 2) := ckS_g gdX7_announce_157 22 rfl
theorem dX7_announce_205 : decode cX7_announce 205 = .ok (.ireturn, 1) := ckS_g gdX7_announce_157 23 rfl
set_option maxRecDepth 100000 in
theorem zc621 : wZ (.selects RX2 yX2_tally yX2_tally) := ⟨wT3 (List.mem_of_getElem? (i := 169) (by decide +kernel)), Or.inl rfl⟩
set_option maxRecDepth 100000 in
theorem zc622 : wZ (.instanceMethod yX2_tally) := ⟨wT3 (List.mem_of_getElem? (i := 168) (by decide +kernel)), Or.inl rfl⟩
set_option maxRecDepth 100000 in
theorem zc623 : wZ (.methodLink RX7 27 yX2_tally) := ⟨wT3 (List.mem_of_getElem? (i := 167) (by decide +kernel)), Or.inl rfl⟩
set_option maxRecDepth 100000 in
theorem zc624 : wZ (.static yX7_commit) := ⟨wT3 (List.mem_of_getElem? (i := 216) (by decide +kernel)), Or.inl rfl⟩
set_option maxRecDepth 100000 in
theorem zc625 : wZ (.methodLink RX7 44 yX7_commit) := ⟨wT3 (List.mem_of_getElem? (i := 215) (by decide +kernel)), Or.inl rfl⟩
set_option maxRecDepth 100000 in
theorem zc626 : wZ (.static yX7_postpone) := ⟨wT3 (List.mem_of_getElem? (i := 229) (by decide +kernel)), Or.inl rfl⟩
set_option maxRecDepth 100000 in
theorem zc627 : wZ (.methodLink RX7 48 yX7_postpone) := ⟨wT3 (List.mem_of_getElem? (i := 228) (by decide +kernel)), Or.inl rfl⟩
set_option maxRecDepth 100000 in
theorem zc628 : wZ (.static yX7_table) := ⟨wT3 (List.mem_of_getElem? (i := 232) (by decide +kernel)), Or.inl rfl⟩
set_option maxRecDepth 100000 in
theorem zc629 : wZ (.methodLink RX7 51 yX7_table) := ⟨wT3 (List.mem_of_getElem? (i := 231) (by decide +kernel)), Or.inl rfl⟩
set_option maxRecDepth 100000 in
theorem zc630 : wZ (.static yX7_carryAlone) := ⟨wT3 (List.mem_of_getElem? (i := 237) (by decide +kernel)), Or.inl rfl⟩
set_option maxRecDepth 100000 in
theorem zc631 : wZ (.methodLink RX7 54 yX7_carryAlone) := ⟨wT3 (List.mem_of_getElem? (i := 236) (by decide +kernel)), Or.inl rfl⟩
set_option maxRecDepth 100000 in
theorem zc632 : wZ (.fieldLink RX7 66 "MotionFloor$House" "speaker" "I") := ⟨wT1 (List.mem_of_getElem? (i := 53) (by decide +kernel)), Or.inl rfl⟩
set_option maxRecDepth 100000 in
theorem zc633 : wZ (.static yX7_keep) := ⟨wT3 (List.mem_of_getElem? (i := 183) (by decide +kernel)), Or.inl rfl⟩
set_option maxRecDepth 100000 in
theorem zc634 : wZ (.methodLink RX7 40 yX7_keep) := ⟨wT3 (List.mem_of_getElem? (i := 182) (by decide +kernel)), Or.inl rfl⟩
set_option maxRecDepth 100000 in
theorem zc635 : wZ (.static yX7_outcomeOf) := ⟨wT3 (List.mem_of_getElem? (i := 176) (by decide +kernel)), Or.inl rfl⟩
set_option maxRecDepth 100000 in
theorem zc636 : wZ (.methodLink RX7 31 yX7_outcomeOf) := ⟨wT3 (List.mem_of_getElem? (i := 175) (by decide +kernel)), Or.inl rfl⟩
set_option maxRecDepth 100000 in
theorem zc637 : wZ (.methodLink RX7 15 yX2_hasQuorum) := ⟨wT3 (List.mem_of_getElem? (i := 166) (by decide +kernel)), Or.inl rfl⟩
set_option maxRecDepth 100000 in
theorem zc638 : wZ (.code yX7_announce cX7_announce 7 (some .int)) := ⟨wT3 (List.mem_of_getElem? (i := 165) rfl), Or.inl rfl⟩
def b_Y7_announce_195 (S : Cst) (x0 : Nat) (x1 : Option Nat) (x2 : Int32) (x3 : Int32) (x4 : Int32) (x5 : Int32) (x6 : Int32) : Int32 × Cst := (x5, (siC S ((grC S x0 0).getD 0) 6 ((-1) : Int32)))
def q_Y7_announce_195 (S : Cst) (x0 : Nat) (lc : Nat) (ls : Nat) (x1 : Option Nat) (x2 : Int32) (x3 : Int32) (x4 : Int32) (x5 : Int32) (x6 : Int32) : Prop := (iR S (grC S x0 0) 1) ∧ True
def b_Y7_announce_181a (S : Cst) (x0 : Nat) (x1 : Option Nat) (x2 : Int32) (x3 : Int32) (x4 : Int32) (x5 : Int32) (x6 : Int32) : Int32 × Cst := if x5 = 4 then (b_Y7_announce_195 ((f_Y0_dropTop S x0 ((grC S x0 1).getD 0)).2) x0 x1 x2 x3 x4 x5 x6) else (b_Y7_announce_195 S x0 x1 x2 x3 x4 x5 x6)
def q_Y7_announce_181a (S : Cst) (x0 : Nat) (lc : Nat) (ls : Nat) (x1 : Option Nat) (x2 : Int32) (x3 : Int32) (x4 : Int32) (x5 : Int32) (x6 : Int32) : Prop := (if x5 = 4 then (iR S (grC S x0 1) 4) ∧ (p_Y0_dropTop S x0 ((grC S x0 1).getD 0)) ∧ (q_Y7_announce_195 ((f_Y0_dropTop S x0 ((grC S x0 1).getD 0)).2) x0 lc ls x1 x2 x3 x4 x5 x6) else (q_Y7_announce_195 S x0 lc ls x1 x2 x3 x4 x5 x6))
def b_Y7_announce_173 (S : Cst) (x0 : Nat) (x1 : Option Nat) (x2 : Int32) (x3 : Int32) (x4 : Int32) (x5 : Int32) (x6 : Int32) : Int32 × Cst := (b_Y7_announce_181a ((f_Y0_dropTop S x0 ((grC S x0 1).getD 0)).2) x0 x1 x2 x3 x4 x5 x6)
def q_Y7_announce_173 (S : Cst) (x0 : Nat) (lc : Nat) (ls : Nat) (x1 : Option Nat) (x2 : Int32) (x3 : Int32) (x4 : Int32) (x5 : Int32) (x6 : Int32) : Prop := (iR S (grC S x0 1) 4) ∧ (p_Y0_dropTop S x0 ((grC S x0 1).getD 0)) ∧ (q_Y7_announce_181a ((f_Y0_dropTop S x0 ((grC S x0 1).getD 0)).2) x0 lc ls x1 x2 x3 x4 x5 x6)
def b_Y7_announce_163 (S : Cst) (x0 : Nat) (x1 : Option Nat) (x2 : Int32) (x3 : Int32) (x4 : Int32) (x5 : Int32) (x6 : Int32) : Int32 × Cst := if x6 = 0 then (b_Y7_announce_173 S x0 x1 x2 x3 x4 x5 x6) else (b_Y7_announce_173 ((f_Y7_carryAlone S x0 x1).2) x0 x1 x2 x3 x4 x5 x6)
def q_Y7_announce_163 (S : Cst) (x0 : Nat) (lc : Nat) (ls : Nat) (x1 : Option Nat) (x2 : Int32) (x3 : Int32) (x4 : Int32) (x5 : Int32) (x6 : Int32) : Prop := (if x6 = 0 then (q_Y7_announce_173 S x0 lc ls x1 x2 x3 x4 x5 x6) else (p_Y7_carryAlone S x0 x1) ∧ (q_Y7_announce_173 ((f_Y7_carryAlone S x0 x1).2) x0 lc ls x1 x2 x3 x4 x5 x6))
def b_Y7_announce_160a (S : Cst) (x0 : Nat) (x1 : Option Nat) (x2 : Int32) (x3 : Int32) (x4 : Int32) (x5 : Int32) (x6 : Int32) : Int32 × Cst := (b_Y7_announce_181a S x0 x1 x2 x3 x4 x5 x6)
def q_Y7_announce_160a (S : Cst) (x0 : Nat) (lc : Nat) (ls : Nat) (x1 : Option Nat) (x2 : Int32) (x3 : Int32) (x4 : Int32) (x5 : Int32) (x6 : Int32) : Prop := (q_Y7_announce_181a S x0 lc ls x1 x2 x3 x4 x5 x6)
def b_Y7_announce_142 (S : Cst) (x0 : Nat) (x1 : Option Nat) (x2 : Int32) (x3 : Int32) (x4 : Int32) (x5 : Int32) (x6 : Int32) : Int32 × Cst := if x6 = 0 then (b_Y7_announce_163 S x0 x1 x2 x3 x4 x5 x6) else if (giC S (x1.getD 0) 2) = 7 then (b_Y7_announce_160a ((f_Y7_table S x0).2) x0 x1 x2 x3 x4 x5 x6) else (b_Y7_announce_163 S x0 x1 x2 x3 x4 x5 x6)
def q_Y7_announce_142 (S : Cst) (x0 : Nat) (lc : Nat) (ls : Nat) (x1 : Option Nat) (x2 : Int32) (x3 : Int32) (x4 : Int32) (x5 : Int32) (x6 : Int32) : Prop := (if x6 = 0 then (q_Y7_announce_163 S x0 lc ls x1 x2 x3 x4 x5 x6) else (iR S x1 3) ∧ (if (giC S (x1.getD 0) 2) = 7 then (p_Y7_table S x0) ∧ (q_Y7_announce_160a ((f_Y7_table S x0).2) x0 lc ls x1 x2 x3 x4 x5 x6) else (q_Y7_announce_163 S x0 lc ls x1 x2 x3 x4 x5 x6)))
def b_Y7_announce_139a (S : Cst) (x0 : Nat) (x1 : Option Nat) (x2 : Int32) (x3 : Int32) (x4 : Int32) (x5 : Int32) (x6 : Int32) : Int32 × Cst := (b_Y7_announce_181a S x0 x1 x2 x3 x4 x5 x6)
def q_Y7_announce_139a (S : Cst) (x0 : Nat) (lc : Nat) (ls : Nat) (x1 : Option Nat) (x2 : Int32) (x3 : Int32) (x4 : Int32) (x5 : Int32) (x6 : Int32) : Prop := (q_Y7_announce_181a S x0 lc ls x1 x2 x3 x4 x5 x6)
def b_Y7_announce_122 (S : Cst) (x0 : Nat) (x1 : Option Nat) (x2 : Int32) (x3 : Int32) (x4 : Int32) (x5 : Int32) (x6 : Int32) : Int32 × Cst := if x6 = 0 then (b_Y7_announce_142 S x0 x1 x2 x3 x4 x5 x6) else if (giC S (x1.getD 0) 2) = 5 then (b_Y7_announce_139a ((f_Y7_postpone S x0).2) x0 x1 x2 x3 x4 x5 x6) else (b_Y7_announce_142 S x0 x1 x2 x3 x4 x5 x6)
def q_Y7_announce_122 (S : Cst) (x0 : Nat) (lc : Nat) (ls : Nat) (x1 : Option Nat) (x2 : Int32) (x3 : Int32) (x4 : Int32) (x5 : Int32) (x6 : Int32) : Prop := (if x6 = 0 then (q_Y7_announce_142 S x0 lc ls x1 x2 x3 x4 x5 x6) else (iR S x1 3) ∧ (if (giC S (x1.getD 0) 2) = 5 then (p_Y7_postpone S x0) ∧ (q_Y7_announce_139a ((f_Y7_postpone S x0).2) x0 lc ls x1 x2 x3 x4 x5 x6) else (q_Y7_announce_142 S x0 lc ls x1 x2 x3 x4 x5 x6)))
def b_Y7_announce_119a (S : Cst) (x0 : Nat) (x1 : Option Nat) (x2 : Int32) (x3 : Int32) (x4 : Int32) (x5 : Int32) (x6 : Int32) : Int32 × Cst := (b_Y7_announce_181a S x0 x1 x2 x3 x4 x5 x6)
def q_Y7_announce_119a (S : Cst) (x0 : Nat) (lc : Nat) (ls : Nat) (x1 : Option Nat) (x2 : Int32) (x3 : Int32) (x4 : Int32) (x5 : Int32) (x6 : Int32) : Prop := (q_Y7_announce_181a S x0 lc ls x1 x2 x3 x4 x5 x6)
def b_Y7_announce_100 (S : Cst) (x0 : Nat) (x1 : Option Nat) (x2 : Int32) (x3 : Int32) (x4 : Int32) (x5 : Int32) (y0 : Int32) : Int32 × Cst := if y0 = 0 then (b_Y7_announce_122 S x0 x1 x2 x3 x4 x5 y0) else if (giC S (x1.getD 0) 2) = 4 then (b_Y7_announce_119a ((f_Y7_commit S x0).2) x0 x1 x2 x3 x4 x5 y0) else (b_Y7_announce_122 S x0 x1 x2 x3 x4 x5 y0)
def q_Y7_announce_100 (S : Cst) (x0 : Nat) (lc : Nat) (ls : Nat) (x1 : Option Nat) (x2 : Int32) (x3 : Int32) (x4 : Int32) (x5 : Int32) (y0 : Int32) : Prop := (if y0 = 0 then (q_Y7_announce_122 S x0 lc ls x1 x2 x3 x4 x5 y0) else (iR S x1 3) ∧ (if (giC S (x1.getD 0) 2) = 4 then (p_Y7_commit S x0) ∧ (q_Y7_announce_119a ((f_Y7_commit S x0).2) x0 lc ls x1 x2 x3 x4 x5 y0) else (q_Y7_announce_122 S x0 lc ls x1 x2 x3 x4 x5 y0)))
def b_Y7_announce_89a (S : Cst) (x0 : Nat) (x1 : Option Nat) (x2 : Int32) (x3 : Int32) (x4 : Int32) (x5 : Int32) : Int32 × Cst := if x5 = 1 then (b_Y7_announce_100 S x0 x1 x2 x3 x4 x5 1) else (b_Y7_announce_100 S x0 x1 x2 x3 x4 x5 0)
def q_Y7_announce_89a (S : Cst) (x0 : Nat) (lc : Nat) (ls : Nat) (x1 : Option Nat) (x2 : Int32) (x3 : Int32) (x4 : Int32) (x5 : Int32) : Prop := (if x5 = 1 then (q_Y7_announce_100 S x0 lc ls x1 x2 x3 x4 x5 1) else (q_Y7_announce_100 S x0 lc ls x1 x2 x3 x4 x5 0))
def b_Y7_announce_61 (S : Cst) (x0 : Nat) (x1 : Option Nat) (x2 : Int32) (x3 : Int32) (y0 : Int32) : Int32 × Cst := (b_Y7_announce_89a ((f_Y7_keep S x0 (giC S (x1.getD 0) 2) (f_Y7_outcomeOf S ((grC S x0 0).getD 0) x1 x3 y0) x3 y0).2) x0 x1 x2 x3 y0 (f_Y7_outcomeOf S ((grC S x0 0).getD 0) x1 x3 y0))
def q_Y7_announce_61 (S : Cst) (x0 : Nat) (lc : Nat) (ls : Nat) (x1 : Option Nat) (x2 : Int32) (x3 : Int32) (y0 : Int32) : Prop := (iR S (grC S x0 0) 1) ∧ (p_Y7_outcomeOf S ((grC S x0 0).getD 0) x1 x3 y0) ∧ (iR S x1 3) ∧ ((S.1 ≤ (f_Y7_keep S x0 (giC S (x1.getD 0) 2) (f_Y7_outcomeOf S ((grC S x0 0).getD 0) x1 x3 y0) x3 y0).2.1 ∧ (f_Y7_keep S x0 (giC S (x1.getD 0) 2) (f_Y7_outcomeOf S ((grC S x0 0).getD 0) x1 x3 y0) x3 y0).2.1 ≤ lc) ∧ (S.2.1 ≤ (f_Y7_keep S x0 (giC S (x1.getD 0) 2) (f_Y7_outcomeOf S ((grC S x0 0).getD 0) x1 x3 y0) x3 y0).2.2.1 ∧ (f_Y7_keep S x0 (giC S (x1.getD 0) 2) (f_Y7_outcomeOf S ((grC S x0 0).getD 0) x1 x3 y0) x3 y0).2.2.1 ≤ ls)) ∧ (p_Y7_keep S x0 (f_Y7_keep S x0 (giC S (x1.getD 0) 2) (f_Y7_outcomeOf S ((grC S x0 0).getD 0) x1 x3 y0) x3 y0).2.1 (f_Y7_keep S x0 (giC S (x1.getD 0) 2) (f_Y7_outcomeOf S ((grC S x0 0).getD 0) x1 x3 y0) x3 y0).2.2.1 (giC S (x1.getD 0) 2) (f_Y7_outcomeOf S ((grC S x0 0).getD 0) x1 x3 y0) x3 y0) ∧ (vR S x1) ∧ (q_Y7_announce_89a ((f_Y7_keep S x0 (giC S (x1.getD 0) 2) (f_Y7_outcomeOf S ((grC S x0 0).getD 0) x1 x3 y0) x3 y0).2) x0 lc ls x1 x2 x3 y0 (f_Y7_outcomeOf S ((grC S x0 0).getD 0) x1 x3 y0))
def b_Y7_announce_43 (S : Cst) (x0 : Nat) (x1 : Option Nat) (x2 : Int32) (y0 : Int32) : Int32 × Cst := if x2 = 0 then (b_Y7_announce_61 S x0 x1 x2 y0 0) else (b_Y7_announce_61 S x0 x1 x2 y0 (f_Y2_tally S ((grC S x0 0).getD 0) x1 (0 : Int32)))
def q_Y7_announce_43 (S : Cst) (x0 : Nat) (lc : Nat) (ls : Nat) (x1 : Option Nat) (x2 : Int32) (y0 : Int32) : Prop := (if x2 = 0 then (q_Y7_announce_61 S x0 lc ls x1 x2 y0 0) else (iR S (grC S x0 0) 1) ∧ (p_Y2_tally S ((grC S x0 0).getD 0) x1 (0 : Int32)) ∧ (q_Y7_announce_61 S x0 lc ls x1 x2 y0 (f_Y2_tally S ((grC S x0 0).getD 0) x1 (0 : Int32))))
def b_Y7_announce_25 (S : Cst) (x0 : Nat) (x1 : Option Nat) (y0 : Int32) : Int32 × Cst := if y0 = 0 then (b_Y7_announce_43 S x0 x1 y0 0) else (b_Y7_announce_43 S x0 x1 y0 (f_Y2_tally S ((grC S x0 0).getD 0) x1 (1 : Int32)))
def q_Y7_announce_25 (S : Cst) (x0 : Nat) (lc : Nat) (ls : Nat) (x1 : Option Nat) (y0 : Int32) : Prop := (if y0 = 0 then (q_Y7_announce_43 S x0 lc ls x1 y0 0) else (iR S (grC S x0 0) 1) ∧ (p_Y2_tally S ((grC S x0 0).getD 0) x1 (1 : Int32)) ∧ (q_Y7_announce_43 S x0 lc ls x1 y0 (f_Y2_tally S ((grC S x0 0).getD 0) x1 (1 : Int32))))
def f_Y7_announce (S : Cst) (x0 : Nat) (x1 : Option Nat) : Int32 × Cst := if (f_Y2_hasQuorum S ((grC S x0 0).getD 0)) = 0 then ((0 : Int32), S) else if (giC S (x1.getD 0) 4) = (-1) then (b_Y7_announce_25 S x0 x1 0) else (b_Y7_announce_25 S x0 x1 1)
def p_Y7_announce (S : Cst) (x0 : Nat) (lc : Nat) (ls : Nat) (x1 : Option Nat) : Prop := (iR S (grC S x0 0) 1) ∧ (p_Y2_hasQuorum S ((grC S x0 0).getD 0)) ∧ (if (f_Y2_hasQuorum S ((grC S x0 0).getD 0)) = 0 then True else (iR S x1 3) ∧ (if (giC S (x1.getD 0) 4) = (-1) then (q_Y7_announce_25 S x0 lc ls x1 0) else (q_Y7_announce_25 S x0 lc ls x1 1)))
def e_Y7_announce : List Cond := [.fieldLink RX7 9 "MotionFloor$Assembly" "house" "LMotionFloor$House;", .methodLink RX7 15 yX2_hasQuorum, .instanceMethod yX2_hasQuorum, .selects RX2 yX2_hasQuorum yX2_hasQuorum, .initialized RX2, .fieldLink RX7 21 "MotionFloor$Motion" "seconder" "I", .methodLink RX7 31 yX7_outcomeOf, .static yX7_outcomeOf, .initialized RX7, .fieldLink RX7 37 "MotionFloor$Motion" "kind" "I", .methodLink RX7 40 yX7_keep, .static yX7_keep, .fieldLink RX7 58 "MotionFloor$Assembly" "pending" "LMotionFloor$Pile;", .methodLink RX7 62 yX0_dropTop, .instanceMethod yX0_dropTop, .selects RX0 yX0_dropTop yX0_dropTop, .initialized RX0, .fieldLink RX7 66 "MotionFloor$House" "speaker" "I", .methodLink RX7 54 yX7_carryAlone, .static yX7_carryAlone, .methodLink RX7 51 yX7_table, .static yX7_table, .methodLink RX7 48 yX7_postpone, .static yX7_postpone, .methodLink RX7 44 yX7_commit, .static yX7_commit, .methodLink RX7 27 yX2_tally, .instanceMethod yX2_tally, .selects RX2 yX2_tally yX2_tally]
def v_Y7_announce : List Cond := .code yX7_announce cX7_announce 7 (some .int) :: (e_Y7_announce ++ (wsX00 ++ (wsX40 ++ (wsX20 ++ (v_Y2_hasQuorum ++ (v_Y7_outcomeOf ++ (v_Y7_keep ++ (v_Y0_dropTop ++ (v_Y7_carryAlone ++ (v_Y7_table ++ (v_Y7_postpone ++ (v_Y7_commit ++ (v_Y2_tally ++ [])))))))))))))
theorem te_Y7_announce : GoodIn lw_tbl e_Y7_announce := wGc zc339 (wGc zc637 (wGc zc415 (wGc zc414 (wGc zc77 (wGc zc309 (wGc zc636 (wGc zc635 (wGc zc341 (wGc zc310 (wGc zc634 (wGc zc633 (wGc zc346 (wGc zc364 (wGc zc41 (wGc zc40 (wGc zc39 (wGc zc632 (wGc zc631 (wGc zc630 (wGc zc629 (wGc zc628 (wGc zc627 (wGc zc626 (wGc zc625 (wGc zc624 (wGc zc623 (wGc zc622 (wGc zc621 (wG0)))))))))))))))))))))))))))))
theorem t_Y7_announce : GoodIn lw_tbl v_Y7_announce := wGc zc638 (wGa te_Y7_announce (wGa zcX0 (wGa zcX4 (wGa zcX2 (wGa t_Y2_hasQuorum (wGa t_Y7_outcomeOf (wGa t_Y7_keep (wGa t_Y0_dropTop (wGa t_Y7_carryAlone (wGa t_Y7_table (wGa t_Y7_postpone (wGa t_Y7_commit (wGa t_Y2_tally (wG0))))))))))))))
set_option maxHeartbeats 4000000 in
set_option maxRecDepth 100000 in
theorem c_Y7_announce (l : Launch) (G : va_G) (K : Nat → ClassId) (ad0 : Nat → Nat) (S0 : Cst) (x0 : Nat) (lc : Nat) (ls : Nat) (a1 : Option Nat) (sz : Nat) : Met l yX7_announce v_Y7_announce ({ frames := 5, cells := lc - S0.1, slots := ls - S0.2.1, locals := 148 }) (va_Pc [.ref (ad0 x0), va_re ad0 a1] (cSt G K ad0 sz S0 ((S0.1 ≤ lc ∧ S0.2.1 ≤ ls) ∧ iK S0 x0 0 ∧ p_Y7_announce S0 x0 lc ls a1))) (va_Qi (fun (r : Int32) (u : Cst × (Nat → Nat)) => (r, u.1) = f_Y7_announce S0 x0 a1 ∧ eN S0 u.1 ∧ (∀ q, q < S0.1 → u.2 q = ad0 q)) (fun u t => cBt G K u.2 (va_A (wsC K ad0 S0) sz) u.1 t) (va_A (wsC K ad0 S0) sz)) (lc - S0.1) (ls - S0.2.1) (va_A (wsC K ad0 S0) sz) := by
  refine Met.ofW (cc := cX7_announce) (maxL := 7) (ret := (some .int)) (by decide) rfl ?_
  intro p e s m args below meth c s₁ B hml hv
  obtain ⟨rfl, ⟨hsz, hP, hK, hD0, hTE⟩, hp⟩ := hv
  obtain ⟨k_l, hp⟩ := hp
  obtain ⟨k_x0, hp⟩ := hp
  have hx := B.exec
  have hb := B.bytes
  have hr := B.returns
  have hts := atoms_spec (ws := v_Y7_announce) B.pre
  have t_ := t_Y7_announce
  have mw : ∀ w ∈ e_Y7_announce, w ∈ v_Y7_announce := fun w h => List.mem_cons_of_mem _ (List.mem_append_left _ h)
  have hw := fun w (h : w ∈ e_Y7_announce) => hts w (mw w h)
  have iX0 : ∀ w ∈ wsX00, w ∈ v_Y7_announce := fun w h => List.mem_cons_of_mem _ (List.mem_append_right _ (List.mem_append_left _ h))
  have iX4 : ∀ w ∈ wsX40, w ∈ v_Y7_announce := fun w h => List.mem_cons_of_mem _ (List.mem_append_right _ (List.mem_append_right _ (List.mem_append_left _ h)))
  have iX2 : ∀ w ∈ wsX20, w ∈ v_Y7_announce := fun w h => List.mem_cons_of_mem _ (List.mem_append_right _ (List.mem_append_right _ (List.mem_append_right _ (List.mem_append_left _ h))))
  have j_Y2_hasQuorum : ∀ w ∈ v_Y2_hasQuorum, w ∈ v_Y7_announce := fun w h => List.mem_cons_of_mem _ (List.mem_append_right _ (List.mem_append_right _ (List.mem_append_right _ (List.mem_append_right _ (List.mem_append_left _ h)))))
  have j_Y7_outcomeOf : ∀ w ∈ v_Y7_outcomeOf, w ∈ v_Y7_announce := fun w h => List.mem_cons_of_mem _ (List.mem_append_right _ (List.mem_append_right _ (List.mem_append_right _ (List.mem_append_right _ (List.mem_append_right _ (List.mem_append_left _ h))))))
  have j_Y7_keep : ∀ w ∈ v_Y7_keep, w ∈ v_Y7_announce := fun w h => List.mem_cons_of_mem _ (List.mem_append_right _ (List.mem_append_right _ (List.mem_append_right _ (List.mem_append_right _ (List.mem_append_right _ (List.mem_append_right _ (List.mem_append_left _ h)))))))
  have j_Y0_dropTop : ∀ w ∈ v_Y0_dropTop, w ∈ v_Y7_announce := fun w h => List.mem_cons_of_mem _ (List.mem_append_right _ (List.mem_append_right _ (List.mem_append_right _ (List.mem_append_right _ (List.mem_append_right _ (List.mem_append_right _ (List.mem_append_right _ (List.mem_append_left _ h))))))))
  have j_Y7_carryAlone : ∀ w ∈ v_Y7_carryAlone, w ∈ v_Y7_announce := fun w h => List.mem_cons_of_mem _ (List.mem_append_right _ (List.mem_append_right _ (List.mem_append_right _ (List.mem_append_right _ (List.mem_append_right _ (List.mem_append_right _ (List.mem_append_right _ (List.mem_append_right _ (List.mem_append_left _ h)))))))))
  have j_Y7_table : ∀ w ∈ v_Y7_table, w ∈ v_Y7_announce := fun w h => List.mem_cons_of_mem _ (List.mem_append_right _ (List.mem_append_right _ (List.mem_append_right _ (List.mem_append_right _ (List.mem_append_right _ (List.mem_append_right _ (List.mem_append_right _ (List.mem_append_right _ (List.mem_append_right _ (List.mem_append_left _ h))))))))))
  have j_Y7_postpone : ∀ w ∈ v_Y7_postpone, w ∈ v_Y7_announce := fun w h => List.mem_cons_of_mem _ (List.mem_append_right _ (List.mem_append_right _ (List.mem_append_right _ (List.mem_append_right _ (List.mem_append_right _ (List.mem_append_right _ (List.mem_append_right _ (List.mem_append_right _ (List.mem_append_right _ (List.mem_append_right _ (List.mem_append_left _ h)))))))))))
  have j_Y7_commit : ∀ w ∈ v_Y7_commit, w ∈ v_Y7_announce := fun w h => List.mem_cons_of_mem _ (List.mem_append_right _ (List.mem_append_right _ (List.mem_append_right _ (List.mem_append_right _ (List.mem_append_right _ (List.mem_append_right _ (List.mem_append_right _ (List.mem_append_right _ (List.mem_append_right _ (List.mem_append_right _ (List.mem_append_right _ (List.mem_append_left _ h))))))))))))
  have j_Y2_tally : ∀ w ∈ v_Y2_tally, w ∈ v_Y7_announce := fun w h => List.mem_cons_of_mem _ (List.mem_append_right _ (List.mem_append_right _ (List.mem_append_right _ (List.mem_append_right _ (List.mem_append_right _ (List.mem_append_right _ (List.mem_append_right _ (List.mem_append_right _ (List.mem_append_right _ (List.mem_append_right _ (List.mem_append_right _ (List.mem_append_right _ (List.mem_append_left _ h)))))))))))))
  have hown : s.vm.findClass RX7 = some m.cls := findClass_of_methodNamed B.named
  have hlocks := B.notSynchronized
  subst hsz
  have hD := hD0.self (sz := s.heap.size)
  generalize hAe : va_A (wsC K ad0 S0) s.heap.size = A at hD ⊢
  have hA : ∀ q : Nat, s.heap.size ≤ q → A q := fun q h => by rw [← hAe]; exact Or.inr h
  have hS : va_S A s.heap s.heap [] := va_S.rf
  have hl : lv_has (lg_sl ([.ref (ad0 x0), va_re ad0 a1]) ++ List.replicate (7 - (lg_sl ([.ref (ad0 x0), va_re ad0 a1])).length) Slot.unset).toArray 7 [(0, .ref (ad0 x0)), (1, va_re ad0 a1)] := by
    cases a1 <;> exact lv_entry _ (n := 7) (Nat.le_of_ble_eq_true rfl)
  rw [lg_entry_eq]
  generalize (lg_sl ([.ref (ad0 x0), va_re ad0 a1]) ++ List.replicate (7 - (lg_sl ([.ref (ad0 x0), va_re ad0 a1])).length) Slot.unset).toArray = ls_ at hl ⊢
  refine wGen (fun Q hQ => ?_)
  obtain ⟨X, hX⟩ : ∃ X, f_Y7_announce S0 x0 a1 = X := ⟨_, rfl⟩
  have B_Y7_announce_195 : ∀ (S : Cst) (ad : Nat → Nat) (x1 : Option Nat) (x2 : Int32) (x3 : Int32) (x4 : Int32) (x5 : Int32) (x6 : Int32) (H : Heap) (locs : List Loc) (ls_ : Array Slot), b_Y7_announce_195 S x0 x1 x2 x3 x4 x5 x6 = X → q_Y7_announce_195 S x0 lc ls x1 x2 x3 x4 x5 x6 → nH S0 ad0 lc ls S ad → va_P G vwCl (wsC K ad S) H → va_D A (wsC K ad S) → va_S A s.heap H locs → lv_has ls_ 7 [(0, .ref (ad x0)), (1, va_re ad x1), (2, .int x2), (3, .int x3), (4, .int x4), (5, .int x5), (6, .int x6)] → W p l e ({ frames := 5, cells := lc - S0.1, slots := ls - S0.2.1, locals := 148 } : Room) s m #[Value.ref (ad0 x0), va_re ad0 a1] below meth c H locs (S.1 - S0.1) (S.2.1 - S0.2.1) Q (F0 m 195 ls_ []) := by
    intro S ad x1 x2 x3 x4 x5 x6 H locs ls_ hE hp hZ hP hD hS hl
    unfold b_Y7_announce_195 at hE
    unfold q_Y7_announce_195 at hp
    refine lv_aload_n hx hb dX7_announce_195 rfl (lv_at hl 0 rfl) ?_
    refine va_get (D := G) (ci := 0) (v := va_re ad (grC S x0 0)) (C := RX0) (T := TX0) (N := 11) hx hb hts iX0 hown hK hP x0 (at_0 (k_x0.n hZ.1)) rfl 0 (by decide) (hw (.fieldLink RX7 9 "MotionFloor$Assembly" "house" "LMotionFloor$House;") (List.mem_of_getElem? (i := 0) rfl)) (fun _ h9 => h9) rfl dX7_announce_196 ?_
    refine lv_iconst (v := (-1)) hx hb dX7_announce_199 (by decide) ?_
    obtain ⟨hy30, hp⟩ := hp
    refine cTop2 (r := (grC S x0 0)) hy30.1 ?_
    refine va_put (D := G) (ci := 1) (v := .int (-1)) (ty := .int) (C := RX2) (T := TX2) (N := 8) hx hb hts iX2 tyX2 tyX2_ok nmX2 hown hK hP hD hS ((grC S x0 0).getD 0) (at_1 hy30.2) rfl 6 (by decide) (hw (.fieldLink RX7 66 "MotionFloor$House" "speaker" "I") (List.mem_of_getElem? (i := 17) rfl)) (fun _ h9 => h9) rfl (by decide +kernel) rfl rfl (Nat.le_of_ble_eq_true rfl) dX7_announce_200 (fun H locs hP hD hS => ?_)
    rw [st_1_6 hy30.2] at hP hD
    have hZ := hZ.k (eK.si S ((grC S x0 0).getD 0) 6 ((-1) : Int32))
    refine lv_iload hx hb dX7_announce_203 (lv_at hl 5 rfl) ?_
    refine W.widen (k := lc - S0.1) (n := ls - S0.2.1) (show S.1 - S0.1 ≤ lc - S0.1 from Nat.sub_le_sub_right hZ.2.2.1 _) (show S.2.1 - S0.2.1 ≤ ls - S0.2.1 from Nat.sub_le_sub_right hZ.2.2.2 _) ?_
    subst hQ
    exact W.iret (v := x5) hx hb hr (fun t ht hW => ⟨⟨x5, ((siC S ((grC S x0 0).getD 0) 6 ((-1) : Int32)), ad), rfl, ⟨hE.trans hX.symm, hZ.1, hZ.2.1⟩, by rw [ht]; exact hP, hD⟩, hS.F ht⟩) hS.2.2 dX7_announce_205
  have B_Y7_announce_181a : ∀ (S : Cst) (ad : Nat → Nat) (x1 : Option Nat) (x2 : Int32) (x3 : Int32) (x4 : Int32) (x5 : Int32) (x6 : Int32) (H : Heap) (locs : List Loc) (ls_ : Array Slot), b_Y7_announce_181a S x0 x1 x2 x3 x4 x5 x6 = X → q_Y7_announce_181a S x0 lc ls x1 x2 x3 x4 x5 x6 → nH S0 ad0 lc ls S ad → va_P G vwCl (wsC K ad S) H → va_D A (wsC K ad S) → va_S A s.heap H locs → lv_has ls_ 7 [(0, .ref (ad x0)), (1, va_re ad x1), (2, .int x2), (3, .int x3), (4, .int x4), (5, .int x5), (6, .int x6)] → W p l e ({ frames := 5, cells := lc - S0.1, slots := ls - S0.2.1, locals := 148 } : Room) s m #[Value.ref (ad0 x0), va_re ad0 a1] below meth c H locs (S.1 - S0.1) (S.2.1 - S0.2.1) Q (F0 m 181 ls_ []) := by
    intro S ad x1 x2 x3 x4 x5 x6 H locs ls_ hE hp hZ hP hD hS hl
    unfold b_Y7_announce_181a at hE
    unfold q_Y7_announce_181a at hp
    refine lv_iload hx hb dX7_announce_181 (lv_at hl 5 rfl) ?_
    refine lv_iconst (v := 4) hx hb dX7_announce_183 (by decide) ?_
    refine lv_icmp_ne (tgt := 195) hx hb dX7_announce_184 (by decide) (fun c29 => ?_) (fun c29 => ?_)
    · rw [if_neg c29] at hE hp
      exact B_Y7_announce_195 S ad x1 x2 x3 x4 x5 x6 _ _ _ hE hp hZ hP hD hS (lv_sub hl [0, 1, 2, 3, 4, 5, 6] rfl)
    · rw [if_pos c29] at hE hp
      refine lv_aload_n hx hb dX7_announce_187 rfl (lv_at hl 0 rfl) ?_
      refine lv_aload_n hx hb dX7_announce_188 rfl (lv_at hl 0 rfl) ?_
      refine va_get (D := G) (ci := 0) (v := va_re ad (grC S x0 1)) (C := RX0) (T := TX0) (N := 11) hx hb hts iX0 hown hK hP x0 (at_0 (k_x0.n hZ.1)) rfl 1 (by decide) (hw (.fieldLink RX7 58 "MotionFloor$Assembly" "pending" "LMotionFloor$Pile;") (List.mem_of_getElem? (i := 12) rfl)) (fun _ h9 => h9) rfl dX7_announce_189 ?_
      obtain ⟨hy31, hp⟩ := hp
      refine cTop (r := (grC S x0 1)) hy31.1 ?_
      obtain ⟨hy32, hp⟩ := hp
      refine cGov (va_runV (As := [.ref (ad ((grC S x0 1).getD 0))]) (rest := []) ⟨hx, hb, hml, hown, hts⟩ (c_Y0_dropTop l G K ad S x0 ((grC S x0 1).getD 0) _) (cwV 1 hts (wGV t_ (mw (.methodLink RX7 62 yX0_dropTop) (List.mem_of_getElem? (i := 13) rfl)) (mw (.instanceMethod yX0_dropTop) (List.mem_of_getElem? (i := 14) rfl)) (mw (.selects RX0 yX0_dropTop yX0_dropTop) (List.mem_of_getElem? (i := 15) rfl)) (mw (.initialized RX0) (List.mem_of_getElem? (i := 16) rfl)) j_Y0_dropTop) rfl rfl rfl (by decide +kernel) ⟨Nat.le_of_ble_eq_true rfl, Nat.le_of_ble_eq_true rfl⟩) (cPV hK hTE hP hD 0 rfl (at_0 (k_x0.n hZ.1)) ⟨(k_x0.n hZ.1), hy31.2, hy32⟩) rfl rfl hl.1 rfl (lv_room (Nat.le_of_ble_eq_true rfl)) dX7_announce_192 ⟨(show S.1 - S0.1 ≤ lc - S0.1 from Nat.sub_le_sub_right hZ.2.2.1 _), (show S.2.1 - S0.2.1 ≤ ls - S0.2.1 from Nat.sub_le_sub_right hZ.2.2.2 _)⟩) hP hD hS hA (fun u33 H locs hv hP hD hS => ?_)
      obtain ⟨hv, hz⟩ := hv
      have hZ := hZ.k hz
      refine cCells (cells' := u33.1 - S0.1) (slots' := u33.2.1 - S0.2.1) (by have e : S.1 = u33.1 := hz.1.1; show S.1 - S0.1 + 0 = _; omega) (by have e : S.2.1 = u33.2.1 := hz.1.2; show S.2.1 - S0.2.1 + 0 = _; omega) ?_
      rw [← hv] at hE hp
      dsimp only at hE hp
      exact B_Y7_announce_195 u33 ad x1 x2 x3 x4 x5 x6 _ _ _ hE hp hZ hP hD hS (lv_sub hl [0, 1, 2, 3, 4, 5, 6] rfl)
  have B_Y7_announce_173 : ∀ (S : Cst) (ad : Nat → Nat) (x1 : Option Nat) (x2 : Int32) (x3 : Int32) (x4 : Int32) (x5 : Int32) (x6 : Int32) (H : Heap) (locs : List Loc) (ls_ : Array Slot), b_Y7_announce_173 S x0 x1 x2 x3 x4 x5 x6 = X → q_Y7_announce_173 S x0 lc ls x1 x2 x3 x4 x5 x6 → nH S0 ad0 lc ls S ad → va_P G vwCl (wsC K ad S) H → va_D A (wsC K ad S) → va_S A s.heap H locs → lv_has ls_ 7 [(0, .ref (ad x0)), (1, va_re ad x1), (2, .int x2), (3, .int x3), (4, .int x4), (5, .int x5), (6, .int x6)] → W p l e ({ frames := 5, cells := lc - S0.1, slots := ls - S0.2.1, locals := 148 } : Room) s m #[Value.ref (ad0 x0), va_re ad0 a1] below meth c H locs (S.1 - S0.1) (S.2.1 - S0.2.1) Q (F0 m 173 ls_ []) := by
    intro S ad x1 x2 x3 x4 x5 x6 H locs ls_ hE hp hZ hP hD hS hl
    unfold b_Y7_announce_173 at hE
    unfold q_Y7_announce_173 at hp
    refine lv_aload_n hx hb dX7_announce_173 rfl (lv_at hl 0 rfl) ?_
    refine lv_aload_n hx hb dX7_announce_174 rfl (lv_at hl 0 rfl) ?_
    refine va_get (D := G) (ci := 0) (v := va_re ad (grC S x0 1)) (C := RX0) (T := TX0) (N := 11) hx hb hts iX0 hown hK hP x0 (at_0 (k_x0.n hZ.1)) rfl 1 (by decide) (hw (.fieldLink RX7 58 "MotionFloor$Assembly" "pending" "LMotionFloor$Pile;") (List.mem_of_getElem? (i := 12) rfl)) (fun _ h9 => h9) rfl dX7_announce_175 ?_
    obtain ⟨hy25, hp⟩ := hp
    refine cTop (r := (grC S x0 1)) hy25.1 ?_
    obtain ⟨hy26, hp⟩ := hp
    refine cGov (va_runV (As := [.ref (ad ((grC S x0 1).getD 0))]) (rest := []) ⟨hx, hb, hml, hown, hts⟩ (c_Y0_dropTop l G K ad S x0 ((grC S x0 1).getD 0) _) (cwV 1 hts (wGV t_ (mw (.methodLink RX7 62 yX0_dropTop) (List.mem_of_getElem? (i := 13) rfl)) (mw (.instanceMethod yX0_dropTop) (List.mem_of_getElem? (i := 14) rfl)) (mw (.selects RX0 yX0_dropTop yX0_dropTop) (List.mem_of_getElem? (i := 15) rfl)) (mw (.initialized RX0) (List.mem_of_getElem? (i := 16) rfl)) j_Y0_dropTop) rfl rfl rfl (by decide +kernel) ⟨Nat.le_of_ble_eq_true rfl, Nat.le_of_ble_eq_true rfl⟩) (cPV hK hTE hP hD 0 rfl (at_0 (k_x0.n hZ.1)) ⟨(k_x0.n hZ.1), hy25.2, hy26⟩) rfl rfl hl.1 rfl (lv_room (Nat.le_of_ble_eq_true rfl)) dX7_announce_178 ⟨(show S.1 - S0.1 ≤ lc - S0.1 from Nat.sub_le_sub_right hZ.2.2.1 _), (show S.2.1 - S0.2.1 ≤ ls - S0.2.1 from Nat.sub_le_sub_right hZ.2.2.2 _)⟩) hP hD hS hA (fun u27 H locs hv hP hD hS => ?_)
    obtain ⟨hv, hz⟩ := hv
    have hZ := hZ.k hz
    refine cCells (cells' := u27.1 - S0.1) (slots' := u27.2.1 - S0.2.1) (by have e : S.1 = u27.1 := hz.1.1; show S.1 - S0.1 + 0 = _; omega) (by have e : S.2.1 = u27.2.1 := hz.1.2; show S.2.1 - S0.2.1 + 0 = _; omega) ?_
    rw [← hv] at hE hp
    dsimp only at hE hp
    exact B_Y7_announce_181a u27 ad x1 x2 x3 x4 x5 x6 _ _ _ hE hp hZ hP hD hS (lv_sub hl [0, 1, 2, 3, 4, 5, 6] rfl)
  have B_Y7_announce_163 : ∀ (S : Cst) (ad : Nat → Nat) (x1 : Option Nat) (x2 : Int32) (x3 : Int32) (x4 : Int32) (x5 : Int32) (x6 : Int32) (H : Heap) (locs : List Loc) (ls_ : Array Slot), b_Y7_announce_163 S x0 x1 x2 x3 x4 x5 x6 = X → q_Y7_announce_163 S x0 lc ls x1 x2 x3 x4 x5 x6 → nH S0 ad0 lc ls S ad → va_P G vwCl (wsC K ad S) H → va_D A (wsC K ad S) → va_S A s.heap H locs → lv_has ls_ 7 [(0, .ref (ad x0)), (1, va_re ad x1), (2, .int x2), (3, .int x3), (4, .int x4), (5, .int x5), (6, .int x6)] → W p l e ({ frames := 5, cells := lc - S0.1, slots := ls - S0.2.1, locals := 148 } : Room) s m #[Value.ref (ad0 x0), va_re ad0 a1] below meth c H locs (S.1 - S0.1) (S.2.1 - S0.2.1) Q (F0 m 163 ls_ []) := by
    intro S ad x1 x2 x3 x4 x5 x6 H locs ls_ hE hp hZ hP hD hS hl
    unfold b_Y7_announce_163 at hE
    unfold q_Y7_announce_163 at hp
    refine lv_iload hx hb dX7_announce_163 (lv_at hl 6 rfl) ?_
    refine lv_if_eq (tgt := 173) hx hb dX7_announce_165 (by decide) (fun c24 => ?_) (fun c24 => ?_)
    · rw [if_pos c24] at hE hp
      exact B_Y7_announce_173 S ad x1 x2 x3 x4 x5 x6 _ _ _ hE hp hZ hP hD hS (lv_sub hl [0, 1, 2, 3, 4, 5, 6] rfl)
    · rw [if_neg c24] at hE hp
      refine lv_aload_n hx hb dX7_announce_168 rfl (lv_at hl 0 rfl) ?_
      refine cAload_n (ad := ad) (r := x1) hx hb dX7_announce_169 rfl (lv_at hl 1 rfl) ?_
      obtain ⟨hy35, hp⟩ := hp
      refine cGov (va_runS (As := [.ref (ad x0), va_re ad x1]) (rest := []) ⟨hx, hb, hml, hown, hts⟩ (c_Y7_carryAlone l G K ad S x0 x1 _) (va_cwS 2 hts (wGS t_ (mw (.methodLink RX7 54 yX7_carryAlone) (List.mem_of_getElem? (i := 18) rfl)) (mw (.static yX7_carryAlone) (List.mem_of_getElem? (i := 19) rfl)) (mw (.initialized RX7) (List.mem_of_getElem? (i := 8) rfl)) j_Y7_carryAlone) rfl rfl rfl (by decide +kernel) ⟨Nat.le_of_ble_eq_true rfl, Nat.le_of_ble_eq_true rfl⟩) (cPS hK hTE hP hD ⟨(k_x0.n hZ.1), hy35⟩) rfl rfl hl.1 rfl (lv_room (Nat.le_of_ble_eq_true rfl)) dX7_announce_170 ⟨(show S.1 - S0.1 ≤ lc - S0.1 from Nat.sub_le_sub_right hZ.2.2.1 _), (show S.2.1 - S0.2.1 ≤ ls - S0.2.1 from Nat.sub_le_sub_right hZ.2.2.2 _)⟩) hP hD hS hA (fun u36 H locs hv hP hD hS => ?_)
      obtain ⟨hv, hz⟩ := hv
      have hZ := hZ.k hz
      refine cCells (cells' := u36.1 - S0.1) (slots' := u36.2.1 - S0.2.1) (by have e : S.1 = u36.1 := hz.1.1; show S.1 - S0.1 + 0 = _; omega) (by have e : S.2.1 = u36.2.1 := hz.1.2; show S.2.1 - S0.2.1 + 0 = _; omega) ?_
      rw [← hv] at hE hp
      dsimp only at hE hp
      exact B_Y7_announce_173 u36 ad x1 x2 x3 x4 x5 x6 _ _ _ hE hp hZ hP hD hS (lv_sub hl [0, 1, 2, 3, 4, 5, 6] rfl)
  have B_Y7_announce_160a : ∀ (S : Cst) (ad : Nat → Nat) (x1 : Option Nat) (x2 : Int32) (x3 : Int32) (x4 : Int32) (x5 : Int32) (x6 : Int32) (H : Heap) (locs : List Loc) (ls_ : Array Slot), b_Y7_announce_160a S x0 x1 x2 x3 x4 x5 x6 = X → q_Y7_announce_160a S x0 lc ls x1 x2 x3 x4 x5 x6 → nH S0 ad0 lc ls S ad → va_P G vwCl (wsC K ad S) H → va_D A (wsC K ad S) → va_S A s.heap H locs → lv_has ls_ 7 [(0, .ref (ad x0)), (1, va_re ad x1), (2, .int x2), (3, .int x3), (4, .int x4), (5, .int x5), (6, .int x6)] → W p l e ({ frames := 5, cells := lc - S0.1, slots := ls - S0.2.1, locals := 148 } : Room) s m #[Value.ref (ad0 x0), va_re ad0 a1] below meth c H locs (S.1 - S0.1) (S.2.1 - S0.2.1) Q (F0 m 160 ls_ []) := by
    intro S ad x1 x2 x3 x4 x5 x6 H locs ls_ hE hp hZ hP hD hS hl
    unfold b_Y7_announce_160a at hE
    unfold q_Y7_announce_160a at hp
    refine lv_goto (tgt := 181) hx hb dX7_announce_160 (by decide) ?_
    exact B_Y7_announce_181a S ad x1 x2 x3 x4 x5 x6 _ _ _ hE hp hZ hP hD hS (lv_sub hl [0, 1, 2, 3, 4, 5, 6] rfl)
  have B_Y7_announce_142 : ∀ (S : Cst) (ad : Nat → Nat) (x1 : Option Nat) (x2 : Int32) (x3 : Int32) (x4 : Int32) (x5 : Int32) (x6 : Int32) (H : Heap) (locs : List Loc) (ls_ : Array Slot), b_Y7_announce_142 S x0 x1 x2 x3 x4 x5 x6 = X → q_Y7_announce_142 S x0 lc ls x1 x2 x3 x4 x5 x6 → nH S0 ad0 lc ls S ad → va_P G vwCl (wsC K ad S) H → va_D A (wsC K ad S) → va_S A s.heap H locs → lv_has ls_ 7 [(0, .ref (ad x0)), (1, va_re ad x1), (2, .int x2), (3, .int x3), (4, .int x4), (5, .int x5), (6, .int x6)] → W p l e ({ frames := 5, cells := lc - S0.1, slots := ls - S0.2.1, locals := 148 } : Room) s m #[Value.ref (ad0 x0), va_re ad0 a1] below meth c H locs (S.1 - S0.1) (S.2.1 - S0.2.1) Q (F0 m 142 ls_ []) := by
    intro S ad x1 x2 x3 x4 x5 x6 H locs ls_ hE hp hZ hP hD hS hl
    unfold b_Y7_announce_142 at hE
    unfold q_Y7_announce_142 at hp
    refine lv_iload hx hb dX7_announce_142 (lv_at hl 6 rfl) ?_
    refine lv_if_eq (tgt := 163) hx hb dX7_announce_144 (by decide) (fun c23 => ?_) (fun c23 => ?_)
    · rw [if_pos c23] at hE hp
      exact B_Y7_announce_163 S ad x1 x2 x3 x4 x5 x6 _ _ _ hE hp hZ hP hD hS (lv_sub hl [0, 1, 2, 3, 4, 5, 6] rfl)
    · rw [if_neg c23] at hE hp
      refine cAload_n (ad := ad) (r := x1) hx hb dX7_announce_147 rfl (lv_at hl 1 rfl) ?_
      obtain ⟨hy38, hp⟩ := hp
      refine cTop (r := x1) hy38.1 ?_
      refine va_get (D := G) (ci := 3) (v := .int (giC S (x1.getD 0) 2)) (C := RX4) (T := TX4) (N := 16) hx hb hts iX4 hown hK hP (x1.getD 0) (at_3 hy38.2) rfl 2 (by decide) (hw (.fieldLink RX7 37 "MotionFloor$Motion" "kind" "I") (List.mem_of_getElem? (i := 9) rfl)) (fun _ h9 => h9) rfl dX7_announce_148 ?_
      refine lv_bipush (v := 7) hx hb dX7_announce_151 (by decide) ?_
      refine lv_icmp_ne (tgt := 163) hx hb dX7_announce_153 (by decide) (fun c39 => ?_) (fun c39 => ?_)
      · rw [if_neg c39] at hE hp
        exact B_Y7_announce_163 S ad x1 x2 x3 x4 x5 x6 _ _ _ hE hp hZ hP hD hS (lv_sub hl [0, 1, 2, 3, 4, 5, 6] rfl)
      · rw [if_pos c39] at hE hp
        refine lv_aload_n hx hb dX7_announce_156 rfl (lv_at hl 0 rfl) ?_
        obtain ⟨hy40, hp⟩ := hp
        refine cGov (va_runS (As := [.ref (ad x0)]) (rest := []) ⟨hx, hb, hml, hown, hts⟩ (c_Y7_table l G K ad S x0 _) (va_cwS 1 hts (wGS t_ (mw (.methodLink RX7 51 yX7_table) (List.mem_of_getElem? (i := 20) rfl)) (mw (.static yX7_table) (List.mem_of_getElem? (i := 21) rfl)) (mw (.initialized RX7) (List.mem_of_getElem? (i := 8) rfl)) j_Y7_table) rfl rfl rfl (by decide +kernel) ⟨Nat.le_of_ble_eq_true rfl, Nat.le_of_ble_eq_true rfl⟩) (cPS hK hTE hP hD ⟨(k_x0.n hZ.1), hy40⟩) rfl rfl hl.1 rfl (lv_room (Nat.le_of_ble_eq_true rfl)) dX7_announce_157 ⟨(show S.1 - S0.1 ≤ lc - S0.1 from Nat.sub_le_sub_right hZ.2.2.1 _), (show S.2.1 - S0.2.1 ≤ ls - S0.2.1 from Nat.sub_le_sub_right hZ.2.2.2 _)⟩) hP hD hS hA (fun u41 H locs hv hP hD hS => ?_)
        obtain ⟨hv, hz⟩ := hv
        have hZ := hZ.k hz
        refine cCells (cells' := u41.1 - S0.1) (slots' := u41.2.1 - S0.2.1) (by have e : S.1 = u41.1 := hz.1.1; show S.1 - S0.1 + 0 = _; omega) (by have e : S.2.1 = u41.2.1 := hz.1.2; show S.2.1 - S0.2.1 + 0 = _; omega) ?_
        rw [← hv] at hE hp
        dsimp only at hE hp
        exact B_Y7_announce_160a u41 ad x1 x2 x3 x4 x5 x6 _ _ _ hE hp hZ hP hD hS (lv_sub hl [0, 1, 2, 3, 4, 5, 6] rfl)
  have B_Y7_announce_139a : ∀ (S : Cst) (ad : Nat → Nat) (x1 : Option Nat) (x2 : Int32) (x3 : Int32) (x4 : Int32) (x5 : Int32) (x6 : Int32) (H : Heap) (locs : List Loc) (ls_ : Array Slot), b_Y7_announce_139a S x0 x1 x2 x3 x4 x5 x6 = X → q_Y7_announce_139a S x0 lc ls x1 x2 x3 x4 x5 x6 → nH S0 ad0 lc ls S ad → va_P G vwCl (wsC K ad S) H → va_D A (wsC K ad S) → va_S A s.heap H locs → lv_has ls_ 7 [(0, .ref (ad x0)), (1, va_re ad x1), (2, .int x2), (3, .int x3), (4, .int x4), (5, .int x5), (6, .int x6)] → W p l e ({ frames := 5, cells := lc - S0.1, slots := ls - S0.2.1, locals := 148 } : Room) s m #[Value.ref (ad0 x0), va_re ad0 a1] below meth c H locs (S.1 - S0.1) (S.2.1 - S0.2.1) Q (F0 m 139 ls_ []) := by
    intro S ad x1 x2 x3 x4 x5 x6 H locs ls_ hE hp hZ hP hD hS hl
    unfold b_Y7_announce_139a at hE
    unfold q_Y7_announce_139a at hp
    refine lv_goto (tgt := 181) hx hb dX7_announce_139 (by decide) ?_
    exact B_Y7_announce_181a S ad x1 x2 x3 x4 x5 x6 _ _ _ hE hp hZ hP hD hS (lv_sub hl [0, 1, 2, 3, 4, 5, 6] rfl)
  have B_Y7_announce_122 : ∀ (S : Cst) (ad : Nat → Nat) (x1 : Option Nat) (x2 : Int32) (x3 : Int32) (x4 : Int32) (x5 : Int32) (x6 : Int32) (H : Heap) (locs : List Loc) (ls_ : Array Slot), b_Y7_announce_122 S x0 x1 x2 x3 x4 x5 x6 = X → q_Y7_announce_122 S x0 lc ls x1 x2 x3 x4 x5 x6 → nH S0 ad0 lc ls S ad → va_P G vwCl (wsC K ad S) H → va_D A (wsC K ad S) → va_S A s.heap H locs → lv_has ls_ 7 [(0, .ref (ad x0)), (1, va_re ad x1), (2, .int x2), (3, .int x3), (4, .int x4), (5, .int x5), (6, .int x6)] → W p l e ({ frames := 5, cells := lc - S0.1, slots := ls - S0.2.1, locals := 148 } : Room) s m #[Value.ref (ad0 x0), va_re ad0 a1] below meth c H locs (S.1 - S0.1) (S.2.1 - S0.2.1) Q (F0 m 122 ls_ []) := by
    intro S ad x1 x2 x3 x4 x5 x6 H locs ls_ hE hp hZ hP hD hS hl
    unfold b_Y7_announce_122 at hE
    unfold q_Y7_announce_122 at hp
    refine lv_iload hx hb dX7_announce_122 (lv_at hl 6 rfl) ?_
    refine lv_if_eq (tgt := 142) hx hb dX7_announce_124 (by decide) (fun c22 => ?_) (fun c22 => ?_)
    · rw [if_pos c22] at hE hp
      exact B_Y7_announce_142 S ad x1 x2 x3 x4 x5 x6 _ _ _ hE hp hZ hP hD hS (lv_sub hl [0, 1, 2, 3, 4, 5, 6] rfl)
    · rw [if_neg c22] at hE hp
      refine cAload_n (ad := ad) (r := x1) hx hb dX7_announce_127 rfl (lv_at hl 1 rfl) ?_
      obtain ⟨hy43, hp⟩ := hp
      refine cTop (r := x1) hy43.1 ?_
      refine va_get (D := G) (ci := 3) (v := .int (giC S (x1.getD 0) 2)) (C := RX4) (T := TX4) (N := 16) hx hb hts iX4 hown hK hP (x1.getD 0) (at_3 hy43.2) rfl 2 (by decide) (hw (.fieldLink RX7 37 "MotionFloor$Motion" "kind" "I") (List.mem_of_getElem? (i := 9) rfl)) (fun _ h9 => h9) rfl dX7_announce_128 ?_
      refine lv_iconst (v := 5) hx hb dX7_announce_131 (by decide) ?_
      refine lv_icmp_ne (tgt := 142) hx hb dX7_announce_132 (by decide) (fun c44 => ?_) (fun c44 => ?_)
      · rw [if_neg c44] at hE hp
        exact B_Y7_announce_142 S ad x1 x2 x3 x4 x5 x6 _ _ _ hE hp hZ hP hD hS (lv_sub hl [0, 1, 2, 3, 4, 5, 6] rfl)
      · rw [if_pos c44] at hE hp
        refine lv_aload_n hx hb dX7_announce_135 rfl (lv_at hl 0 rfl) ?_
        obtain ⟨hy45, hp⟩ := hp
        refine cGov (va_runS (As := [.ref (ad x0)]) (rest := []) ⟨hx, hb, hml, hown, hts⟩ (c_Y7_postpone l G K ad S x0 _) (va_cwS 1 hts (wGS t_ (mw (.methodLink RX7 48 yX7_postpone) (List.mem_of_getElem? (i := 22) rfl)) (mw (.static yX7_postpone) (List.mem_of_getElem? (i := 23) rfl)) (mw (.initialized RX7) (List.mem_of_getElem? (i := 8) rfl)) j_Y7_postpone) rfl rfl rfl (by decide +kernel) ⟨Nat.le_of_ble_eq_true rfl, Nat.le_of_ble_eq_true rfl⟩) (cPS hK hTE hP hD ⟨(k_x0.n hZ.1), hy45⟩) rfl rfl hl.1 rfl (lv_room (Nat.le_of_ble_eq_true rfl)) dX7_announce_136 ⟨(show S.1 - S0.1 ≤ lc - S0.1 from Nat.sub_le_sub_right hZ.2.2.1 _), (show S.2.1 - S0.2.1 ≤ ls - S0.2.1 from Nat.sub_le_sub_right hZ.2.2.2 _)⟩) hP hD hS hA (fun u46 H locs hv hP hD hS => ?_)
        obtain ⟨hv, hz⟩ := hv
        have hZ := hZ.k hz
        refine cCells (cells' := u46.1 - S0.1) (slots' := u46.2.1 - S0.2.1) (by have e : S.1 = u46.1 := hz.1.1; show S.1 - S0.1 + 0 = _; omega) (by have e : S.2.1 = u46.2.1 := hz.1.2; show S.2.1 - S0.2.1 + 0 = _; omega) ?_
        rw [← hv] at hE hp
        dsimp only at hE hp
        exact B_Y7_announce_139a u46 ad x1 x2 x3 x4 x5 x6 _ _ _ hE hp hZ hP hD hS (lv_sub hl [0, 1, 2, 3, 4, 5, 6] rfl)
  have B_Y7_announce_119a : ∀ (S : Cst) (ad : Nat → Nat) (x1 : Option Nat) (x2 : Int32) (x3 : Int32) (x4 : Int32) (x5 : Int32) (x6 : Int32) (H : Heap) (locs : List Loc) (ls_ : Array Slot), b_Y7_announce_119a S x0 x1 x2 x3 x4 x5 x6 = X → q_Y7_announce_119a S x0 lc ls x1 x2 x3 x4 x5 x6 → nH S0 ad0 lc ls S ad → va_P G vwCl (wsC K ad S) H → va_D A (wsC K ad S) → va_S A s.heap H locs → lv_has ls_ 7 [(0, .ref (ad x0)), (1, va_re ad x1), (2, .int x2), (3, .int x3), (4, .int x4), (5, .int x5), (6, .int x6)] → W p l e ({ frames := 5, cells := lc - S0.1, slots := ls - S0.2.1, locals := 148 } : Room) s m #[Value.ref (ad0 x0), va_re ad0 a1] below meth c H locs (S.1 - S0.1) (S.2.1 - S0.2.1) Q (F0 m 119 ls_ []) := by
    intro S ad x1 x2 x3 x4 x5 x6 H locs ls_ hE hp hZ hP hD hS hl
    unfold b_Y7_announce_119a at hE
    unfold q_Y7_announce_119a at hp
    refine lv_goto (tgt := 181) hx hb dX7_announce_119 (by decide) ?_
    exact B_Y7_announce_181a S ad x1 x2 x3 x4 x5 x6 _ _ _ hE hp hZ hP hD hS (lv_sub hl [0, 1, 2, 3, 4, 5, 6] rfl)
  have B_Y7_announce_100 : ∀ (S : Cst) (ad : Nat → Nat) (x1 : Option Nat) (x2 : Int32) (x3 : Int32) (x4 : Int32) (x5 : Int32) (y0 : Int32) (H : Heap) (locs : List Loc) (ls_ : Array Slot), b_Y7_announce_100 S x0 x1 x2 x3 x4 x5 y0 = X → q_Y7_announce_100 S x0 lc ls x1 x2 x3 x4 x5 y0 → nH S0 ad0 lc ls S ad → va_P G vwCl (wsC K ad S) H → va_D A (wsC K ad S) → va_S A s.heap H locs → lv_has ls_ 7 [(0, .ref (ad x0)), (1, va_re ad x1), (2, .int x2), (3, .int x3), (4, .int x4), (5, .int x5)] → W p l e ({ frames := 5, cells := lc - S0.1, slots := ls - S0.2.1, locals := 148 } : Room) s m #[Value.ref (ad0 x0), va_re ad0 a1] below meth c H locs (S.1 - S0.1) (S.2.1 - S0.2.1) Q (F0 m 100 ls_ [.int y0]) := by
    intro S ad x1 x2 x3 x4 x5 y0 H locs ls_ hE hp hZ hP hD hS hl
    unfold b_Y7_announce_100 at hE
    unfold q_Y7_announce_100 at hp
    refine lv_istore (i := 6) (lv' := [(6, .int y0), (0, .ref (ad x0)), (1, va_re ad x1), (2, .int x2), (3, .int x3), (4, .int x4), (5, .int x5)]) hx hb dX7_announce_100 hl (by decide) rfl (fun ls_ hl => ?_)
    refine lv_iload hx hb dX7_announce_102 (lv_at hl 0 rfl) ?_
    refine lv_if_eq (tgt := 122) hx hb dX7_announce_104 (by decide) (fun c21 => ?_) (fun c21 => ?_)
    · rw [if_pos c21] at hE hp
      exact B_Y7_announce_122 S ad x1 x2 x3 x4 x5 y0 _ _ _ hE hp hZ hP hD hS (lv_sub hl [1, 2, 3, 4, 5, 6, 0] rfl)
    · rw [if_neg c21] at hE hp
      refine cAload_n (ad := ad) (r := x1) hx hb dX7_announce_107 rfl (lv_at hl 2 rfl) ?_
      obtain ⟨hy48, hp⟩ := hp
      refine cTop (r := x1) hy48.1 ?_
      refine va_get (D := G) (ci := 3) (v := .int (giC S (x1.getD 0) 2)) (C := RX4) (T := TX4) (N := 16) hx hb hts iX4 hown hK hP (x1.getD 0) (at_3 hy48.2) rfl 2 (by decide) (hw (.fieldLink RX7 37 "MotionFloor$Motion" "kind" "I") (List.mem_of_getElem? (i := 9) rfl)) (fun _ h9 => h9) rfl dX7_announce_108 ?_
      refine lv_iconst (v := 4) hx hb dX7_announce_111 (by decide) ?_
      refine lv_icmp_ne (tgt := 122) hx hb dX7_announce_112 (by decide) (fun c49 => ?_) (fun c49 => ?_)
      · rw [if_neg c49] at hE hp
        exact B_Y7_announce_122 S ad x1 x2 x3 x4 x5 y0 _ _ _ hE hp hZ hP hD hS (lv_sub hl [1, 2, 3, 4, 5, 6, 0] rfl)
      · rw [if_pos c49] at hE hp
        refine lv_aload_n hx hb dX7_announce_115 rfl (lv_at hl 1 rfl) ?_
        obtain ⟨hy50, hp⟩ := hp
        refine cGov (va_runS (As := [.ref (ad x0)]) (rest := []) ⟨hx, hb, hml, hown, hts⟩ (c_Y7_commit l G K ad S x0 _) (va_cwS 1 hts (wGS t_ (mw (.methodLink RX7 44 yX7_commit) (List.mem_of_getElem? (i := 24) rfl)) (mw (.static yX7_commit) (List.mem_of_getElem? (i := 25) rfl)) (mw (.initialized RX7) (List.mem_of_getElem? (i := 8) rfl)) j_Y7_commit) rfl rfl rfl (by decide +kernel) ⟨Nat.le_of_ble_eq_true rfl, Nat.le_of_ble_eq_true rfl⟩) (cPS hK hTE hP hD ⟨(k_x0.n hZ.1), hy50⟩) rfl rfl hl.1 rfl (lv_room (Nat.le_of_ble_eq_true rfl)) dX7_announce_116 ⟨(show S.1 - S0.1 ≤ lc - S0.1 from Nat.sub_le_sub_right hZ.2.2.1 _), (show S.2.1 - S0.2.1 ≤ ls - S0.2.1 from Nat.sub_le_sub_right hZ.2.2.2 _)⟩) hP hD hS hA (fun u51 H locs hv hP hD hS => ?_)
        obtain ⟨hv, hz⟩ := hv
        have hZ := hZ.k hz
        refine cCells (cells' := u51.1 - S0.1) (slots' := u51.2.1 - S0.2.1) (by have e : S.1 = u51.1 := hz.1.1; show S.1 - S0.1 + 0 = _; omega) (by have e : S.2.1 = u51.2.1 := hz.1.2; show S.2.1 - S0.2.1 + 0 = _; omega) ?_
        rw [← hv] at hE hp
        dsimp only at hE hp
        exact B_Y7_announce_119a u51 ad x1 x2 x3 x4 x5 y0 _ _ _ hE hp hZ hP hD hS (lv_sub hl [1, 2, 3, 4, 5, 6, 0] rfl)
  have B_Y7_announce_89a : ∀ (S : Cst) (ad : Nat → Nat) (x1 : Option Nat) (x2 : Int32) (x3 : Int32) (x4 : Int32) (x5 : Int32) (H : Heap) (locs : List Loc) (ls_ : Array Slot), b_Y7_announce_89a S x0 x1 x2 x3 x4 x5 = X → q_Y7_announce_89a S x0 lc ls x1 x2 x3 x4 x5 → nH S0 ad0 lc ls S ad → va_P G vwCl (wsC K ad S) H → va_D A (wsC K ad S) → va_S A s.heap H locs → lv_has ls_ 7 [(0, .ref (ad x0)), (1, va_re ad x1), (2, .int x2), (3, .int x3), (4, .int x4), (5, .int x5)] → W p l e ({ frames := 5, cells := lc - S0.1, slots := ls - S0.2.1, locals := 148 } : Room) s m #[Value.ref (ad0 x0), va_re ad0 a1] below meth c H locs (S.1 - S0.1) (S.2.1 - S0.2.1) Q (F0 m 89 ls_ []) := by
    intro S ad x1 x2 x3 x4 x5 H locs ls_ hE hp hZ hP hD hS hl
    unfold b_Y7_announce_89a at hE
    unfold q_Y7_announce_89a at hp
    refine lv_iload hx hb dX7_announce_89 (lv_at hl 5 rfl) ?_
    refine lv_iconst (v := 1) hx hb dX7_announce_91 (by decide) ?_
    refine lv_icmp_ne (tgt := 99) hx hb dX7_announce_92 (by decide) (fun c20 => ?_) (fun c20 => ?_)
    · rw [if_neg c20] at hE hp
      refine lv_iconst (v := 0) hx hb dX7_announce_99 (by decide) ?_
      exact B_Y7_announce_100 S ad x1 x2 x3 x4 x5 0 _ _ _ hE hp hZ hP hD hS (lv_sub hl [0, 1, 2, 3, 4, 5] rfl)
    · rw [if_pos c20] at hE hp
      refine lv_iconst (v := 1) hx hb dX7_announce_95 (by decide) ?_
      refine lv_goto (tgt := 100) hx hb dX7_announce_96 (by decide) ?_
      exact B_Y7_announce_100 S ad x1 x2 x3 x4 x5 1 _ _ _ hE hp hZ hP hD hS (lv_sub hl [0, 1, 2, 3, 4, 5] rfl)
  have B_Y7_announce_61 : ∀ (S : Cst) (ad : Nat → Nat) (x1 : Option Nat) (x2 : Int32) (x3 : Int32) (y0 : Int32) (H : Heap) (locs : List Loc) (ls_ : Array Slot), b_Y7_announce_61 S x0 x1 x2 x3 y0 = X → q_Y7_announce_61 S x0 lc ls x1 x2 x3 y0 → nH S0 ad0 lc ls S ad → va_P G vwCl (wsC K ad S) H → va_D A (wsC K ad S) → va_S A s.heap H locs → lv_has ls_ 7 [(0, .ref (ad x0)), (1, va_re ad x1), (2, .int x2), (3, .int x3)] → W p l e ({ frames := 5, cells := lc - S0.1, slots := ls - S0.2.1, locals := 148 } : Room) s m #[Value.ref (ad0 x0), va_re ad0 a1] below meth c H locs (S.1 - S0.1) (S.2.1 - S0.2.1) Q (F0 m 61 ls_ [.int y0]) := by
    intro S ad x1 x2 x3 y0 H locs ls_ hE hp hZ hP hD hS hl
    unfold b_Y7_announce_61 at hE
    unfold q_Y7_announce_61 at hp
    refine lv_istore (i := 4) (lv' := [(4, .int y0), (0, .ref (ad x0)), (1, va_re ad x1), (2, .int x2), (3, .int x3)]) hx hb dX7_announce_61 hl (by decide) rfl (fun ls_ hl => ?_)
    refine lv_aload_n hx hb dX7_announce_63 rfl (lv_at hl 1 rfl) ?_
    refine va_get (D := G) (ci := 0) (v := va_re ad (grC S x0 0)) (C := RX0) (T := TX0) (N := 11) hx hb hts iX0 hown hK hP x0 (at_0 (k_x0.n hZ.1)) rfl 0 (by decide) (hw (.fieldLink RX7 9 "MotionFloor$Assembly" "house" "LMotionFloor$House;") (List.mem_of_getElem? (i := 0) rfl)) (fun _ h9 => h9) rfl dX7_announce_64 ?_
    refine cAload_n (ad := ad) (r := x1) hx hb dX7_announce_67 rfl (lv_at hl 2 rfl) ?_
    refine lv_iload_n hx hb dX7_announce_68 rfl (lv_at hl 4 rfl) ?_
    refine lv_iload hx hb dX7_announce_69 (lv_at hl 0 rfl) ?_
    obtain ⟨hy10, hp⟩ := hp
    refine cTop4 (r := (grC S x0 0)) hy10.1 ?_
    obtain ⟨hy11, hp⟩ := hp
    refine cGoi (va_runS (As := [.ref (ad ((grC S x0 0).getD 0)), va_re ad x1, .int x3, .int y0]) (rest := []) ⟨hx, hb, hml, hown, hts⟩ (c_Y7_outcomeOf l G K ad S ((grC S x0 0).getD 0) x1 x3 y0 _) (va_cwS 4 hts (wGS t_ (mw (.methodLink RX7 31 yX7_outcomeOf) (List.mem_of_getElem? (i := 6) rfl)) (mw (.static yX7_outcomeOf) (List.mem_of_getElem? (i := 7) rfl)) (mw (.initialized RX7) (List.mem_of_getElem? (i := 8) rfl)) j_Y7_outcomeOf) rfl rfl rfl (by decide +kernel) ⟨Nat.le_of_ble_eq_true rfl, Nat.le_of_ble_eq_true rfl⟩) (cPS hK hTE hP hD ⟨hy10.2, hy11⟩) rfl rfl hl.1 rfl (lv_room (Nat.le_of_ble_eq_true rfl)) dX7_announce_71 ⟨(show S.1 - S0.1 ≤ lc - S0.1 from Nat.sub_le_sub_right hZ.2.2.1 _), (show S.2.1 - S0.2.1 ≤ ls - S0.2.1 from Nat.sub_le_sub_right hZ.2.2.2 _)⟩) hP hD hS hA (fun r13 u12 H locs hv hP hD hS => ?_)
    have h1 := congrArg Prod.fst hv
    have h2 := (congrArg Prod.snd hv).symm
    dsimp only at h1 h2
    subst h1
    subst h2
    refine lv_istore (i := 5) (lv' := [(5, .int (f_Y7_outcomeOf S ((grC S x0 0).getD 0) x1 x3 y0)), (4, .int y0), (0, .ref (ad x0)), (1, va_re ad x1), (2, .int x2), (3, .int x3)]) hx hb dX7_announce_74 hl (by decide) rfl (fun ls_ hl => ?_)
    refine lv_aload_n hx hb dX7_announce_76 rfl (lv_at hl 2 rfl) ?_
    refine cAload_n (ad := ad) (r := x1) hx hb dX7_announce_77 rfl (lv_at hl 3 rfl) ?_
    obtain ⟨hy14, hp⟩ := hp
    refine cTop (r := x1) hy14.1 ?_
    refine va_get (D := G) (ci := 3) (v := .int (giC S (x1.getD 0) 2)) (C := RX4) (T := TX4) (N := 16) hx hb hts iX4 hown hK hP (x1.getD 0) (at_3 hy14.2) rfl 2 (by decide) (hw (.fieldLink RX7 37 "MotionFloor$Motion" "kind" "I") (List.mem_of_getElem? (i := 9) rfl)) (fun _ h9 => h9) rfl dX7_announce_78 ?_
    refine lv_iload hx hb dX7_announce_81 (lv_at hl 0 rfl) ?_
    refine lv_iload_n hx hb dX7_announce_83 rfl (lv_at hl 5 rfl) ?_
    refine lv_iload hx hb dX7_announce_84 (lv_at hl 1 rfl) ?_
    obtain ⟨hy15, hp⟩ := hp
    obtain ⟨hy16, hp⟩ := hp
    refine cNov (va_runS (As := [.ref (ad x0), .int (giC S (x1.getD 0) 2), .int (f_Y7_outcomeOf S ((grC S x0 0).getD 0) x1 x3 y0), .int x3, .int y0]) (rest := []) ⟨hx, hb, hml, hown, hts⟩ (c_Y7_keep l G K ad S x0 (f_Y7_keep S x0 (giC S (x1.getD 0) 2) (f_Y7_outcomeOf S ((grC S x0 0).getD 0) x1 x3 y0) x3 y0).2.1 (f_Y7_keep S x0 (giC S (x1.getD 0) 2) (f_Y7_outcomeOf S ((grC S x0 0).getD 0) x1 x3 y0) x3 y0).2.2.1 (giC S (x1.getD 0) 2) (f_Y7_outcomeOf S ((grC S x0 0).getD 0) x1 x3 y0) x3 y0 _) (va_cwS 5 hts (wGS t_ (mw (.methodLink RX7 40 yX7_keep) (List.mem_of_getElem? (i := 10) rfl)) (mw (.static yX7_keep) (List.mem_of_getElem? (i := 11) rfl)) (mw (.initialized RX7) (List.mem_of_getElem? (i := 8) rfl)) j_Y7_keep) rfl rfl rfl (by decide +kernel) ⟨Nat.le_of_ble_eq_true rfl, Nat.le_of_ble_eq_true rfl⟩) (cPS hK hTE hP hD ⟨⟨hy15.1.1, hy15.2.1⟩, (k_x0.n hZ.1), hy16⟩) rfl rfl hl.1 rfl (lv_room (Nat.le_of_ble_eq_true rfl)) dX7_announce_86 ⟨by show _ ≤ lc - S0.1; have := hZ.1.1.1; have := hy15.1; omega, by show _ ≤ ls - S0.2.1; have := hZ.1.1.2; have := hy15.2; omega⟩) hP hD hS hA (fun u17 H locs hv hP hD hS => ?_)
    obtain ⟨hv, hz, ha⟩ := hv
    obtain ⟨hy19, hp⟩ := hp
    have e1 : (f_Y7_keep S x0 (giC S (x1.getD 0) 2) (f_Y7_outcomeOf S ((grC S x0 0).getD 0) x1 x3 y0) x3 y0).2.1 = u17.1.1 := by rw [← hv]
    have e2 : (f_Y7_keep S x0 (giC S (x1.getD 0) 2) (f_Y7_outcomeOf S ((grC S x0 0).getD 0) x1 x3 y0) x3 y0).2.2.1 = u17.1.2.1 := by rw [← hv]
    refine cCells (cells' := u17.1.1 - S0.1) (slots' := u17.1.2.1 - S0.2.1) (by have := hZ.1.1.1; have := hy15.1; omega) (by have := hZ.1.1.2; have := hy15.2; omega) ?_
    rw [← ha x0 (k_x0.n hZ.1).1] at hl
    rw [← re_ad (r := x1) ha hy19] at hl
    have hZ := hZ.n hz ha (by rw [← e1]; exact hy15.1.2) (by rw [← e2]; exact hy15.2.2)
    rw [← hv] at hE hp
    dsimp only at hE hp
    exact B_Y7_announce_89a u17.1 u17.2 x1 x2 x3 y0 (f_Y7_outcomeOf S ((grC S x0 0).getD 0) x1 x3 y0) _ _ _ hE hp hZ hP hD hS (lv_sub hl [2, 3, 4, 5, 1, 0] rfl)
  have B_Y7_announce_43 : ∀ (S : Cst) (ad : Nat → Nat) (x1 : Option Nat) (x2 : Int32) (y0 : Int32) (H : Heap) (locs : List Loc) (ls_ : Array Slot), b_Y7_announce_43 S x0 x1 x2 y0 = X → q_Y7_announce_43 S x0 lc ls x1 x2 y0 → nH S0 ad0 lc ls S ad → va_P G vwCl (wsC K ad S) H → va_D A (wsC K ad S) → va_S A s.heap H locs → lv_has ls_ 7 [(0, .ref (ad x0)), (1, va_re ad x1), (2, .int x2)] → W p l e ({ frames := 5, cells := lc - S0.1, slots := ls - S0.2.1, locals := 148 } : Room) s m #[Value.ref (ad0 x0), va_re ad0 a1] below meth c H locs (S.1 - S0.1) (S.2.1 - S0.2.1) Q (F0 m 43 ls_ [.int y0]) := by
    intro S ad x1 x2 y0 H locs ls_ hE hp hZ hP hD hS hl
    unfold b_Y7_announce_43 at hE
    unfold q_Y7_announce_43 at hp
    refine lv_istore_n (i := 3) (lv' := [(3, .int y0), (0, .ref (ad x0)), (1, va_re ad x1), (2, .int x2)]) hx hb dX7_announce_43 rfl hl (by decide) rfl (fun ls_ hl => ?_)
    refine lv_iload_n hx hb dX7_announce_44 rfl (lv_at hl 3 rfl) ?_
    refine lv_if_eq (tgt := 60) hx hb dX7_announce_45 (by decide) (fun c9 => ?_) (fun c9 => ?_)
    · rw [if_pos c9] at hE hp
      refine lv_iconst (v := 0) hx hb dX7_announce_60 (by decide) ?_
      exact B_Y7_announce_61 S ad x1 x2 y0 0 _ _ _ hE hp hZ hP hD hS (lv_sub hl [1, 2, 3, 0] rfl)
    · rw [if_neg c9] at hE hp
      refine lv_aload_n hx hb dX7_announce_48 rfl (lv_at hl 1 rfl) ?_
      refine va_get (D := G) (ci := 0) (v := va_re ad (grC S x0 0)) (C := RX0) (T := TX0) (N := 11) hx hb hts iX0 hown hK hP x0 (at_0 (k_x0.n hZ.1)) rfl 0 (by decide) (hw (.fieldLink RX7 9 "MotionFloor$Assembly" "house" "LMotionFloor$House;") (List.mem_of_getElem? (i := 0) rfl)) (fun _ h9 => h9) rfl dX7_announce_49 ?_
      refine cAload_n (ad := ad) (r := x1) hx hb dX7_announce_52 rfl (lv_at hl 2 rfl) ?_
      refine lv_iconst (v := 0) hx hb dX7_announce_53 (by decide) ?_
      obtain ⟨hy53, hp⟩ := hp
      refine cTop3 (r := (grC S x0 0)) hy53.1 ?_
      obtain ⟨hy54, hp⟩ := hp
      refine cGoi (va_runV (As := [va_re ad x1, .int 0]) (rest := []) ⟨hx, hb, hml, hown, hts⟩ (c_Y2_tally l G K ad S ((grC S x0 0).getD 0) x1 (0 : Int32) _) (cwV 2 hts (wGV t_ (mw (.methodLink RX7 27 yX2_tally) (List.mem_of_getElem? (i := 26) rfl)) (mw (.instanceMethod yX2_tally) (List.mem_of_getElem? (i := 27) rfl)) (mw (.selects RX2 yX2_tally yX2_tally) (List.mem_of_getElem? (i := 28) rfl)) (mw (.initialized RX2) (List.mem_of_getElem? (i := 4) rfl)) j_Y2_tally) rfl rfl rfl (by decide +kernel) ⟨Nat.le_of_ble_eq_true rfl, Nat.le_of_ble_eq_true rfl⟩) (cPV hK hTE hP hD 1 rfl (at_1 hy53.2) ⟨hy53.2, hy54⟩) rfl rfl hl.1 rfl (lv_room (Nat.le_of_ble_eq_true rfl)) dX7_announce_54 ⟨(show S.1 - S0.1 ≤ lc - S0.1 from Nat.sub_le_sub_right hZ.2.2.1 _), (show S.2.1 - S0.2.1 ≤ ls - S0.2.1 from Nat.sub_le_sub_right hZ.2.2.2 _)⟩) hP hD hS hA (fun r56 u55 H locs hv hP hD hS => ?_)
      have h1 := congrArg Prod.fst hv
      have h2 := (congrArg Prod.snd hv).symm
      dsimp only at h1 h2
      subst h1
      subst h2
      refine lv_goto (tgt := 61) hx hb dX7_announce_57 (by decide) ?_
      exact B_Y7_announce_61 S ad x1 x2 y0 (f_Y2_tally S ((grC S x0 0).getD 0) x1 (0 : Int32)) _ _ _ hE hp hZ hP hD hS (lv_sub hl [1, 2, 3, 0] rfl)
  have B_Y7_announce_25 : ∀ (S : Cst) (ad : Nat → Nat) (x1 : Option Nat) (y0 : Int32) (H : Heap) (locs : List Loc) (ls_ : Array Slot), b_Y7_announce_25 S x0 x1 y0 = X → q_Y7_announce_25 S x0 lc ls x1 y0 → nH S0 ad0 lc ls S ad → va_P G vwCl (wsC K ad S) H → va_D A (wsC K ad S) → va_S A s.heap H locs → lv_has ls_ 7 [(0, .ref (ad x0)), (1, va_re ad x1)] → W p l e ({ frames := 5, cells := lc - S0.1, slots := ls - S0.2.1, locals := 148 } : Room) s m #[Value.ref (ad0 x0), va_re ad0 a1] below meth c H locs (S.1 - S0.1) (S.2.1 - S0.2.1) Q (F0 m 25 ls_ [.int y0]) := by
    intro S ad x1 y0 H locs ls_ hE hp hZ hP hD hS hl
    unfold b_Y7_announce_25 at hE
    unfold q_Y7_announce_25 at hp
    refine lv_istore_n (i := 2) (lv' := [(2, .int y0), (0, .ref (ad x0)), (1, va_re ad x1)]) hx hb dX7_announce_25 rfl hl (by decide) (by simp [List.filter, re_cat]) (fun ls_ hl => ?_)
    refine lv_iload_n hx hb dX7_announce_26 rfl (lv_at hl 0 rfl) ?_
    refine lv_if_eq (tgt := 42) hx hb dX7_announce_27 (by decide) (fun c8 => ?_) (fun c8 => ?_)
    · rw [if_pos c8] at hE hp
      refine lv_iconst (v := 0) hx hb dX7_announce_42 (by decide) ?_
      exact B_Y7_announce_43 S ad x1 y0 0 _ _ _ hE hp hZ hP hD hS (lv_sub hl [1, 2, 0] rfl)
    · rw [if_neg c8] at hE hp
      refine lv_aload_n hx hb dX7_announce_30 rfl (lv_at hl 1 rfl) ?_
      refine va_get (D := G) (ci := 0) (v := va_re ad (grC S x0 0)) (C := RX0) (T := TX0) (N := 11) hx hb hts iX0 hown hK hP x0 (at_0 (k_x0.n hZ.1)) rfl 0 (by decide) (hw (.fieldLink RX7 9 "MotionFloor$Assembly" "house" "LMotionFloor$House;") (List.mem_of_getElem? (i := 0) rfl)) (fun _ h9 => h9) rfl dX7_announce_31 ?_
      refine cAload_n (ad := ad) (r := x1) hx hb dX7_announce_34 rfl (lv_at hl 2 rfl) ?_
      refine lv_iconst (v := 1) hx hb dX7_announce_35 (by decide) ?_
      obtain ⟨hy57, hp⟩ := hp
      refine cTop3 (r := (grC S x0 0)) hy57.1 ?_
      obtain ⟨hy58, hp⟩ := hp
      refine cGoi (va_runV (As := [va_re ad x1, .int 1]) (rest := []) ⟨hx, hb, hml, hown, hts⟩ (c_Y2_tally l G K ad S ((grC S x0 0).getD 0) x1 (1 : Int32) _) (cwV 2 hts (wGV t_ (mw (.methodLink RX7 27 yX2_tally) (List.mem_of_getElem? (i := 26) rfl)) (mw (.instanceMethod yX2_tally) (List.mem_of_getElem? (i := 27) rfl)) (mw (.selects RX2 yX2_tally yX2_tally) (List.mem_of_getElem? (i := 28) rfl)) (mw (.initialized RX2) (List.mem_of_getElem? (i := 4) rfl)) j_Y2_tally) rfl rfl rfl (by decide +kernel) ⟨Nat.le_of_ble_eq_true rfl, Nat.le_of_ble_eq_true rfl⟩) (cPV hK hTE hP hD 1 rfl (at_1 hy57.2) ⟨hy57.2, hy58⟩) rfl rfl hl.1 rfl (lv_room (Nat.le_of_ble_eq_true rfl)) dX7_announce_36 ⟨(show S.1 - S0.1 ≤ lc - S0.1 from Nat.sub_le_sub_right hZ.2.2.1 _), (show S.2.1 - S0.2.1 ≤ ls - S0.2.1 from Nat.sub_le_sub_right hZ.2.2.2 _)⟩) hP hD hS hA (fun r60 u59 H locs hv hP hD hS => ?_)
      have h1 := congrArg Prod.fst hv
      have h2 := (congrArg Prod.snd hv).symm
      dsimp only at h1 h2
      subst h1
      subst h2
      refine lv_goto (tgt := 43) hx hb dX7_announce_39 (by decide) ?_
      exact B_Y7_announce_43 S ad x1 y0 (f_Y2_tally S ((grC S x0 0).getD 0) x1 (1 : Int32)) _ _ _ hE hp hZ hP hD hS (lv_sub hl [1, 2, 0] rfl)
  have B_M : ∀ (S : Cst) (ad : Nat → Nat) (x1 : Option Nat) (H : Heap) (locs : List Loc) (ls_ : Array Slot), f_Y7_announce S x0 x1 = X → p_Y7_announce S x0 lc ls x1 → nH S0 ad0 lc ls S ad → va_P G vwCl (wsC K ad S) H → va_D A (wsC K ad S) → va_S A s.heap H locs → lv_has ls_ 7 [(0, .ref (ad x0)), (1, va_re ad x1)] → W p l e ({ frames := 5, cells := lc - S0.1, slots := ls - S0.2.1, locals := 148 } : Room) s m #[Value.ref (ad0 x0), va_re ad0 a1] below meth c H locs (S.1 - S0.1) (S.2.1 - S0.2.1) Q (F0 m 0 ls_ []) := by
    intro S ad x1 H locs ls_ hE hp hZ hP hD hS hl
    unfold f_Y7_announce at hE
    unfold p_Y7_announce at hp
    refine lv_aload_n hx hb dX7_announce_0 rfl (lv_at hl 0 rfl) ?_
    refine va_get (D := G) (ci := 0) (v := va_re ad (grC S x0 0)) (C := RX0) (T := TX0) (N := 11) hx hb hts iX0 hown hK hP x0 (at_0 (k_x0.n hZ.1)) rfl 0 (by decide) (hw (.fieldLink RX7 9 "MotionFloor$Assembly" "house" "LMotionFloor$House;") (List.mem_of_getElem? (i := 0) rfl)) (fun _ h9 => h9) rfl dX7_announce_1 ?_
    obtain ⟨hy1, hp⟩ := hp
    refine cTop (r := (grC S x0 0)) hy1.1 ?_
    obtain ⟨hy2, hp⟩ := hp
    refine cGoi (va_runV (As := []) (rest := []) ⟨hx, hb, hml, hown, hts⟩ (c_Y2_hasQuorum l G K ad S ((grC S x0 0).getD 0) _) (cwV 0 hts (wGV t_ (mw (.methodLink RX7 15 yX2_hasQuorum) (List.mem_of_getElem? (i := 1) rfl)) (mw (.instanceMethod yX2_hasQuorum) (List.mem_of_getElem? (i := 2) rfl)) (mw (.selects RX2 yX2_hasQuorum yX2_hasQuorum) (List.mem_of_getElem? (i := 3) rfl)) (mw (.initialized RX2) (List.mem_of_getElem? (i := 4) rfl)) j_Y2_hasQuorum) rfl rfl rfl (by decide +kernel) ⟨Nat.le_of_ble_eq_true rfl, Nat.le_of_ble_eq_true rfl⟩) (cPV hK hTE hP hD 1 rfl (at_1 hy1.2) ⟨hy1.2, hy2⟩) rfl rfl hl.1 rfl (lv_room (Nat.le_of_ble_eq_true rfl)) dX7_announce_4 ⟨(show S.1 - S0.1 ≤ lc - S0.1 from Nat.sub_le_sub_right hZ.2.2.1 _), (show S.2.1 - S0.2.1 ≤ ls - S0.2.1 from Nat.sub_le_sub_right hZ.2.2.2 _)⟩) hP hD hS hA (fun r4 u3 H locs hv hP hD hS => ?_)
    have h1 := congrArg Prod.fst hv
    have h2 := (congrArg Prod.snd hv).symm
    dsimp only at h1 h2
    subst h1
    subst h2
    refine lv_if_ne (tgt := 12) hx hb dX7_announce_7 (by decide) (fun c5 => ?_) (fun c5 => ?_)
    · rw [if_neg c5] at hE hp
      refine cAload_n (ad := ad) (r := x1) hx hb dX7_announce_12 rfl (lv_at hl 1 rfl) ?_
      obtain ⟨hy6, hp⟩ := hp
      refine cTop (r := x1) hy6.1 ?_
      refine va_get (D := G) (ci := 3) (v := .int (giC S (x1.getD 0) 4)) (C := RX4) (T := TX4) (N := 16) hx hb hts iX4 hown hK hP (x1.getD 0) (at_3 hy6.2) rfl 4 (by decide) (hw (.fieldLink RX7 21 "MotionFloor$Motion" "seconder" "I") (List.mem_of_getElem? (i := 5) rfl)) (fun _ h9 => h9) rfl dX7_announce_13 ?_
      refine lv_iconst (v := (-1)) hx hb dX7_announce_16 (by decide) ?_
      refine lv_icmp_eq (tgt := 24) hx hb dX7_announce_17 (by decide) (fun c7 => ?_) (fun c7 => ?_)
      · rw [if_pos c7] at hE hp
        refine lv_iconst (v := 0) hx hb dX7_announce_24 (by decide) ?_
        exact B_Y7_announce_25 S ad x1 0 _ _ _ hE hp hZ hP hD hS (lv_sub hl [0, 1] rfl)
      · rw [if_neg c7] at hE hp
        refine lv_iconst (v := 1) hx hb dX7_announce_20 (by decide) ?_
        refine lv_goto (tgt := 25) hx hb dX7_announce_21 (by decide) ?_
        exact B_Y7_announce_25 S ad x1 1 _ _ _ hE hp hZ hP hD hS (lv_sub hl [0, 1] rfl)
    · rw [if_pos c5] at hE hp
      refine lv_iconst (v := 0) hx hb dX7_announce_10 (by decide) ?_
      refine W.widen (k := lc - S0.1) (n := ls - S0.2.1) (show S.1 - S0.1 ≤ lc - S0.1 from Nat.sub_le_sub_right hZ.2.2.1 _) (show S.2.1 - S0.2.1 ≤ ls - S0.2.1 from Nat.sub_le_sub_right hZ.2.2.2 _) ?_
      subst hQ
      exact W.iret (v := (0 : Int32)) hx hb hr (fun t ht hW => ⟨⟨(0 : Int32), (S, ad), rfl, ⟨hE.trans hX.symm, hZ.1, hZ.2.1⟩, by rw [ht]; exact hP, hD⟩, hS.F ht⟩) hS.2.2 dX7_announce_11
  exact cCells (Nat.sub_self _).symm (Nat.sub_self _).symm (B_M S0 ad0 a1 _ _ _ hX hp (nH.rf S0 ad0 k_l) hP hD hS hl)
