theorem gdX12_check_0 : ckS (List.drop 0 cX12_check.data.toList) 0 [(0, .aload_n 0, 1), (1, .getfield 20, 3), (4, .aload_n 0, 1), (5, .getfield 16, 3), (8, .getfield 96, 3), (11, .invokevirtual 36, 3), (14, .iconst 0, 1), (15, .istore_n 1, 1), (16, .iload_n 1, 1), (17, .aload_n 0, 1), (18, .getfield 161, 3), (21, .if_icmp .ge 129, 3), (24, .bipush 6, 2), (26, .iload_n 1, 1), (27, .imul, 1), (28, .istore_n 2, 1), (29, .aload_n 0, 1), (30, .getfield 33, 3), (33, .iload_n 2, 1), (34, .iaload, 1), (35, .invokestatic 174, 3), (38, .istore_n 3, 1), (39, .iload_n 3, 1), (40, .iconst (-1), 1), (41, .if_icmp .ne 5, 3), (44, .iload_n 1, 1), (45, .ireturn, 1), (46, .iload_n 3, 1), (47, .iconst 1, 1), (48, .iadd, 1), (49, .istore 4, 2), (51, .iload 4, 2), (53, .iconst 4, 1), (54, .if_icmp .gt 23, 3), (57, .aload_n 0, 1), (58, .getfield 33, 3), (61, .iload_n 2, 1), (62, .iload 4, 2), (64, .iadd, 1), (65, .iaload, 1)] = true := by decide +kernel
theorem dX12_check_0 : decode cX12_check 0 = .ok (.aload_n 0, 1) := ckS_g gdX12_check_0 0 rfl
theorem dX12_check_1 : decode cX12_check 1 = .ok (.getfield 20, 3) := ckS_g gdX12_check_0 1 rfl
theorem dX12_check_4 : decode cX12_check 4 = .ok (.aload_n 0, 1) := ckS_g gdX12_check_0 2 rfl
theorem dX12_check_5 : decode cX12_check 5 = .ok (.getfield 16, 3) := ckS_g gdX12_check_0 3 rfl
theorem dX12_check_8 : decode cX12_check 8 = .ok (.getfield 96, 3) := ckS_g gdX12_check_0 4 rfl
theorem dX12_check_11 : decode cX12_check 11 = .ok (.invokevirtual 36, 3) := ckS_g gdX12_check_0 5 rfl
theorem dX12_check_14 : decode cX12_check 14 = .ok (.iconst 0, 1) := ckS_g gdX12_check_0 6 rfl
theorem dX12_check_15 : decode cX12_check 15 = .ok (.istore_n 1, 1) := ckS_g gdX12_check_0 7 rfl
theorem dX12_check_16 : decode cX12_check 16 = .ok (.iload_n 1, 1) := ckS_g gdX12_check_0 8 rfl
theorem dX12_check_17 : decode cX12_check 17 = .ok (.aload_n 0, 1) := ckS_g gdX12_check_0 9 rfl
theorem dX12_check_18 : decode cX12_check 18 = .ok (.getfield 161, 3) := ckS_g gdX12_check_0 10 rfl
theorem dX12_check_21 : decode cX12_check 21 = .ok (.if_icmp .ge 129, 3) := ckS_g gdX12_check_0 11 rfl
theorem dX12_check_24 : decode cX12_check 24 = .ok (.bipush 6, 2) := ckS_g gdX12_check_0 12 rfl
theorem dX12_check_26 : decode cX12_check 26 = .ok (.iload_n 1, 1) := ckS_g gdX12_check_0 13 rfl
theorem dX12_check_27 : decode cX12_check 27 = .ok (.imul, 1) := ckS_g gdX12_check_0 14 rfl
theorem dX12_check_28 : decode cX12_check 28 = .ok (.istore_n 2, 1) := ckS_g gdX12_check_0 15 rfl
theorem dX12_check_29 : decode cX12_check 29 = .ok (.aload_n 0, 1) := ckS_g gdX12_check_0 16 rfl
theorem dX12_check_30 : decode cX12_check 30 = .ok (.getfield 33, 3) := ckS_g gdX12_check_0 17 rfl
theorem dX12_check_33 : decode cX12_check 33 = .ok (.iload_n 2, 1) := ckS_g gdX12_check_0 18 rfl
theorem dX12_check_34 : decode cX12_check 34 = .ok (.iaload, 1) := ckS_g gdX12_check_0 19 rfl
theorem dX12_check_35 : decode cX12_check 35 = .ok (.invokestatic 174, 3) := ckS_g gdX12_check_0 20 rfl
theorem dX12_check_38 : decode cX12_check 38 = .ok (.istore_n 3, 1) := ckS_g gdX12_check_0 21 rfl
theorem dX12_check_39 : decode cX12_check 39 = .ok (.iload_n 3, 1) := ckS_g gdX12_check_0 22 rfl
theorem dX12_check_40 : decode cX12_check 40 = .ok (.iconst (-1), 1) := ckS_g gdX12_check_0 23 rfl
theorem dX12_check_41 : decode cX12_check 41 = .ok (.if_icmp .ne 5, 3) := ckS_g gdX12_check_0 24 rfl
theorem dX12_check_44 : decode cX12_check 44 = .ok (.iload_n 1, 1) := ckS_g gdX12_check_0 25 rfl
theorem dX12_check_45 : decode cX12_check 45 = .ok (.ireturn, 1) := ckS_g gdX12_check_0 26 rfl
theorem dX12_check_46 : decode cX12_check 46 = .ok (.iload_n 3, 1) := ckS_g gdX12_check_0 27 rfl
theorem dX12_check_47 : decode cX12_check 47 = .ok (.iconst 1, 1) := ckS_g gdX12_check_0 28 rfl
theorem dX12_check_48 : decode cX12_check 48 = .ok (.iadd, 1) := ckS_g gdX12_check_0 29 rfl
theorem dX12_check_49 : decode cX12_check 49 = .ok (.istore 4, 2) := ckS_g gdX12_check_0 30 rfl
theorem dX12_check_51 : decode cX12_check 51 = .ok (.iload 4, 2) := ckS_g gdX12_check_0 31 rfl
theorem dX12_check_53 : decode cX12_check 53 = .ok (.iconst 4, 1) := ckS_g gdX12_check_0 32 rfl
theorem dX12_check_54 : decode cX12_check 54 = .ok (.if_icmp .gt 23, 3) := ckS_g gdX12_check_0 33 rfl
theorem dX12_check_57 : decode cX12_check 57 = .ok (.aload_n 0, 1) := ckS_g gdX12_check_0 34 rfl
theorem dX12_check_58 : decode cX12_check 58 = .ok (.getfield 33, 3) := ckS_g gdX12_check_0 35 rfl
theorem dX12_check_61 : decode cX12_check 61 = .ok (.iload_n 2, 1) := ckS_g gdX12_check_0 36 rfl
theorem dX12_check_62 : decode cX12_check 62 = .ok (.iload 4, 2) := ckS_g gdX12_check_0 37 rfl
theorem dX12_check_64 : decode cX12_check 64 = .ok (.iadd, 1) := ckS_g gdX12_check_0 38 rfl
theorem dX12_check_65 : decode cX12_check 65 = .ok (.iaload, 1) := ckS_g gdX12_check_0 39 rfl
theorem gdX12_check_66 : ckS (List.drop 66 cX12_check.data.toList) 66 [(66, .ifCond .eq 5, 3), (69, .iload_n 1, 1), (70, .ireturn, 1), (71, .iinc 4 1, 3), (74, .goto (-23), 3), (77, .aload_n 0, 1), (78, .getfield 20, 3), (81, .aload_n 0, 1), (82, .getfield 33, 3), (85, .iload_n 2, 1), (86, .iaload, 1), (87, .aload_n 0, 1), (88, .getfield 33, 3), (91, .iload_n 2, 1), (92, .iconst 1, 1), (93, .iadd, 1), (94, .iaload, 1), (95, .aload_n 0, 1), (96, .getfield 33, 3), (99, .iload_n 2, 1), (100, .iconst 2, 1), (101, .iadd, 1), (102, .iaload, 1), (103, .aload_n 0, 1), (104, .getfield 33, 3), (107, .iload_n 2, 1), (108, .iconst 3, 1), (109, .iadd, 1), (110, .iaload, 1), (111, .aload_n 0, 1), (112, .getfield 33, 3), (115, .iload_n 2, 1), (116, .iconst 4, 1), (117, .iadd, 1), (118, .iaload, 1), (119, .invokevirtual 40, 3), (122, .istore 4, 2), (124, .iload 4, 2), (126, .ifCond .lt 16, 3), (129, .iload 4, 2)] = true := by decide +kernel
theorem dX12_check_66 : decode cX12_check 66 = .ok (.ifCond .eq 5, 3) := ckS_g gdX12_check_66 0 rfl
theorem dX12_check_69 : decode cX12_check 69 = .ok (.iload_n 1, 1) := ckS_g gdX12_check_66 1 rfl
theorem dX12_check_70 : decode cX12_check 70 = .ok (.ireturn, 1) := ckS_g gdX12_check_66 2 rfl
theorem dX12_check_71 : decode cX12_check 71 = .ok (.iinc 4 1, 3) := ckS_g gdX12_check_66 3 rfl
theorem dX12_check_74 : decode cX12_check 74 = .ok (.goto (-23), 3) := ckS_g gdX12_check_66 4 rfl
theorem dX12_check_77 : decode cX12_check 77 = .ok (.aload_n 0, 1) := ckS_g gdX12_check_66 5 rfl
theorem dX12_check_78 : decode cX12_check 78 = .ok (.getfield 20, 3) := ckS_g gdX12_check_66 6 rfl
theorem dX12_check_81 : decode cX12_check 81 = .ok (.aload_n 0, 1) := ckS_g gdX12_check_66 7 rfl
theorem dX12_check_82 : decode cX12_check 82 = .ok (.getfield 33, 3) := ckS_g gdX12_check_66 8 rfl
theorem dX12_check_85 : decode cX12_check 85 = .ok (.iload_n 2, 1) := ckS_g gdX12_check_66 9 rfl
theorem dX12_check_86 : decode cX12_check 86 = .ok (.iaload, 1) := ckS_g gdX12_check_66 10 rfl
theorem dX12_check_87 : decode cX12_check 87 = .ok (.aload_n 0, 1) := ckS_g gdX12_check_66 11 rfl
theorem dX12_check_88 : decode cX12_check 88 = .ok (.getfield 33, 3) := ckS_g gdX12_check_66 12 rfl
theorem dX12_check_91 : decode cX12_check 91 = .ok (.iload_n 2, 1) := ckS_g gdX12_check_66 13 rfl
theorem dX12_check_92 : decode cX12_check 92 = .ok (.iconst 1, 1) := ckS_g gdX12_check_66 14 rfl
theorem dX12_check_93 : decode cX12_check 93 = .ok (.iadd, 1) := ckS_g gdX12_check_66 15 rfl
theorem dX12_check_94 : decode cX12_check 94 = .ok (.iaload, 1) := ckS_g gdX12_check_66 16 rfl
theorem dX12_check_95 : decode cX12_check 95 = .ok (.aload_n 0, 1) := ckS_g gdX12_check_66 17 rfl
theorem dX12_check_96 : decode cX12_check 96 = .ok (.getfield 33, 3) := ckS_g gdX12_check_66 18 rfl
theorem dX12_check_99 : decode cX12_check 99 = .ok (.iload_n 2, 1) := ckS_g gdX12_check_66 19 rfl
theorem dX12_check_100 : decode cX12_check 100 = .ok (.iconst 2, 1) := ckS_g gdX12_check_66 20 rfl
theorem dX12_check_101 : decode cX12_check 101 = .ok (.iadd, 1) := ckS_g gdX12_check_66 21 rfl
theorem dX12_check_102 : decode cX12_check 102 = .ok (.iaload, 1) := ckS_g gdX12_check_66 22 rfl
theorem dX12_check_103 : decode cX12_check 103 = .ok (.aload_n 0, 1) := ckS_g gdX12_check_66 23 rfl
theorem dX12_check_104 : decode cX12_check 104 = .ok (.getfield 33, 3) := ckS_g gdX12_check_66 24 rfl
theorem dX12_check_107 : decode cX12_check 107 = .ok (.iload_n 2, 1) := ckS_g gdX12_check_66 25 rfl
theorem dX12_check_108 : decode cX12_check 108 = .ok (.iconst 3, 1) := ckS_g gdX12_check_66 26 rfl
theorem dX12_check_109 : decode cX12_check 109 = .ok (.iadd, 1) := ckS_g gdX12_check_66 27 rfl
theorem dX12_check_110 : decode cX12_check 110 = .ok (.iaload, 1) := ckS_g gdX12_check_66 28 rfl
theorem dX12_check_111 : decode cX12_check 111 = .ok (.aload_n 0, 1) := ckS_g gdX12_check_66 29 rfl
theorem dX12_check_112 : decode cX12_check 112 = .ok (.getfield 33, 3) := ckS_g gdX12_check_66 30 rfl
theorem dX12_check_115 : decode cX12_check 115 = .ok (.iload_n 2, 1) := ckS_g gdX12_check_66 31 rfl
theorem dX12_check_116 : decode cX12_check 116 = .ok (.iconst 4, 1) := ckS_g gdX12_check_66 32 rfl
theorem dX12_check_117 : decode cX12_check 117 = .ok (.iadd, 1) := ckS_g gdX12_check_66 33 rfl
theorem dX12_check_118 : decode cX12_check 118 = .ok (.iaload, 1) := ckS_g gdX12_check_66 34 rfl
theorem dX12_check_119 : decode cX12_check 119 = .ok (.invokevirtual 40, 3) := ckS_g gdX12_check_66 35 rfl
theorem dX12_check_122 : decode cX12_check 122 = .ok (.istore 4, 2) := ckS_g gdX12_check_66 36 rfl
theorem dX12_check_124 : decode cX12_check 124 = .ok (.iload 4, 2) := ckS_g gdX12_check_66 37 rfl
theorem dX12_check_126 : decode cX12_check 126 = .ok (.ifCond .lt 16, 3) := ckS_g gdX12_check_66 38 rfl
theorem dX12_check_129 : decode cX12_check 129 = .ok (.iload 4, 2) := ckS_g gdX12_check_66 39 rfl
theorem gdX12_check_131 : ckS (List.drop 131 cX12_check.data.toList) 131 [(131, .aload_n 0, 1), (132, .getfield 33, 3), (135, .iload_n 2, 1), (136, .iconst 5, 1), (137, .iadd, 1), (138, .iaload, 1), (139, .if_icmp .eq 5, 3), (142, .iload_n 1, 1), (143, .ireturn, 1), (144, .iinc 1 1, 3), (147, .goto (-131), 3), (150, .iconst (-1), 1), (151, .ireturn, 1)] = true := by decide +kernel
theorem dX12_check_131 : decode cX12_check 131 = .ok (.aload_n 0, 1) := ckS_g gdX12_check_131 0 rfl
theorem dX12_check_132 : decode cX12_check 132 = .ok (.getfield 33, 3) := ckS_g gdX12_check_131 1 rfl
theorem dX12_check_135 : decode cX12_check 135 = .ok (.iload_n 2, 1) := ckS_g gdX12_check_131 2 rfl
theorem dX12_check_136 : decode cX12_check 136 = .ok (.iconst 5, 1) := ckS_g gdX12_check_131 3 rfl
theorem dX12_check_137 : decode cX12_check 137 = .ok (.iadd, 1) := ckS_g gdX12_check_131 4 rfl
theorem dX12_check_138 : decode cX12_check 138 = .ok (.iaload, 1) := ckS_g gdX12_check_131 5 rfl
theorem dX12_check_139 : decode cX12_check 139 = .ok (.if_icmp .eq 5, 3) := ckS_g gdX12_check_131 6 rfl
theorem dX12_check_142 : decode cX12_check 142 = .ok (.iload_n 1, 1) := ckS_g gdX12_check_131 7 rfl
theorem dX12_check_143 : decode cX12_check 143 = .ok (.ireturn, 1) := ckS_g gdX12_check_131 8 rfl
theorem dX12_check_144 : decode cX12_check 144 = .ok (.iinc 1 1, 3) := ckS_g gdX12_check_131 9 rfl
theorem dX12_check_147 : decode cX12_check 147 = .ok (.goto (-131), 3) := ckS_g gdX12_check_131 10 rfl
theorem dX12_check_150 : decode cX12_check 150 = .ok (.iconst (-1), 1) := ckS_g gdX12_check_131 11 rfl
theorem dX12_check_151 : decode cX12_check 151 = .ok (.ireturn, 1) := ckS_g gdX12_check_131 12 rfl
set_option maxRecDepth 100000 in
theorem z303 : wZ (.methodLink RX12 174 yX12_numbers) := ⟨wT7 (List.mem_of_getElem? (i := 32) (by decide +kernel)), Or.inl rfl⟩
set_option maxRecDepth 100000 in
theorem z304 : wZ (.code yX12_check cX12_check 5 (some .int)) := ⟨wT7 (List.mem_of_getElem? (i := 31) rfl), Or.inl rfl⟩
def b_X12_check_142 (S : MS) (x1 x2 x3 x4 : Int32) : Int32 × MS := (x1, S)
def q_X12_check_142 (S : MS) (x1 x2 x3 x4 : Int32) : Prop := True
def b_X12_check_a122 (S : MS) (x1 x2 x3 x4 y0 : Int32) : (Int32 × MS) ⊕ (MS × Int32) := if y0 < 0 then Sum.inl ((b_X12_check_142 S x1 x2 x3 y0)) else if y0 = (S.1.2 5 (x2 + 5).toNatClampNeg) then Sum.inr (S, (x1 + 1)) else Sum.inl ((b_X12_check_142 S x1 x2 x3 y0))
def q_X12_check_a122 (S : MS) (x1 x2 x3 x4 y0 : Int32) : Prop := (if y0 < 0 then (q_X12_check_142 S x1 x2 x3 y0) else (vp_in (x2 + 5) 3600) ∧ (if y0 = (S.1.2 5 (x2 + 5).toNatClampNeg) then True else (q_X12_check_142 S x1 x2 x3 y0)))
def st_X12_check_51 (S : MS) (x1 x2 x3 x4 : Int32) : ((Int32 × MS) ⊕ (MS × Int32)) ⊕ (MS × Int32 × Int32 × Int32 × Int32) := if 4 < x4 then Sum.inl ((b_X12_check_a122 (mS S ((f_X11_act S.2.2 (S.1.2 5 x2.toNatClampNeg) (S.1.2 5 (x2 + 1).toNatClampNeg) (S.1.2 5 (x2 + 2).toNatClampNeg) (S.1.2 5 (x2 + 3).toNatClampNeg) (S.1.2 5 (x2 + 4).toNatClampNeg)).2)) x1 x2 x3 x4 (f_X11_act S.2.2 (S.1.2 5 x2.toNatClampNeg) (S.1.2 5 (x2 + 1).toNatClampNeg) (S.1.2 5 (x2 + 2).toNatClampNeg) (S.1.2 5 (x2 + 3).toNatClampNeg) (S.1.2 5 (x2 + 4).toNatClampNeg)).1)) else if (S.1.2 5 (x2 + x4).toNatClampNeg) = 0 then Sum.inr (S, x1, x2, x3, (x4 + 1)) else Sum.inl (Sum.inl ((x1, S)))
def ps_X12_check_51 (S : MS) (x1 x2 x3 x4 : Int32) : Prop := (if 4 < x4 then (vp_in x2 3600) ∧ (vp_in (x2 + 1) 3600) ∧ (vp_in (x2 + 2) 3600) ∧ (vp_in (x2 + 3) 3600) ∧ (vp_in (x2 + 4) 3600) ∧ (p_X11_act S.2.2 (S.1.2 5 x2.toNatClampNeg) (S.1.2 5 (x2 + 1).toNatClampNeg) (S.1.2 5 (x2 + 2).toNatClampNeg) (S.1.2 5 (x2 + 3).toNatClampNeg) (S.1.2 5 (x2 + 4).toNatClampNeg)) ∧ (q_X12_check_a122 (mS S ((f_X11_act S.2.2 (S.1.2 5 x2.toNatClampNeg) (S.1.2 5 (x2 + 1).toNatClampNeg) (S.1.2 5 (x2 + 2).toNatClampNeg) (S.1.2 5 (x2 + 3).toNatClampNeg) (S.1.2 5 (x2 + 4).toNatClampNeg)).2)) x1 x2 x3 x4 (f_X11_act S.2.2 (S.1.2 5 x2.toNatClampNeg) (S.1.2 5 (x2 + 1).toNatClampNeg) (S.1.2 5 (x2 + 2).toNatClampNeg) (S.1.2 5 (x2 + 3).toNatClampNeg) (S.1.2 5 (x2 + 4).toNatClampNeg)).1) else (vp_in (x2 + x4) 3600) ∧ (if (S.1.2 5 (x2 + x4).toNatClampNeg) = 0 then True else True))
def lp_X12_check_51 : Nat → MS → Int32 → Int32 → Int32 → Int32 → (Int32 × MS) ⊕ (MS × Int32)
  | 0, S, _, _, _, _ => Sum.inl ((0, S))
  | n + 1, S, x1, x2, x3, x4 => match st_X12_check_51 S x1 x2 x3 x4 with
    | Sum.inl r => r
    | Sum.inr q => lp_X12_check_51 n q.1 q.2.1 q.2.2.1 q.2.2.2.1 q.2.2.2.2
def lq_X12_check_51 : Nat → MS → Int32 → Int32 → Int32 → Int32 → Prop
  | 0, _, _, _, _, _ => False
  | n + 1, S, x1, x2, x3, x4 => ps_X12_check_51 S x1 x2 x3 x4 ∧ (match st_X12_check_51 S x1 x2 x3 x4 with
    | Sum.inl _ => True
    | Sum.inr q => lq_X12_check_51 n q.1 q.2.1 q.2.2.1 q.2.2.2.1 q.2.2.2.2)
def st_X12_check_16 (S : MS) (x1 : Int32) : (Int32 × MS) ⊕ (MS × Int32) := if (S.1.1 6) ≤ x1 then Sum.inl (((-1), S)) else if (f_X12_numbers (S.1.2 5 (6 * x1).toNatClampNeg)) = (-1) then Sum.inl ((x1, S)) else (lp_X12_check_51 100000 S x1 (6 * x1) (f_X12_numbers (S.1.2 5 (6 * x1).toNatClampNeg)) ((f_X12_numbers (S.1.2 5 (6 * x1).toNatClampNeg)) + 1))
def ps_X12_check_16 (S : MS) (x1 : Int32) : Prop := (if (S.1.1 6) ≤ x1 then True else (vp_in (6 * x1) 3600) ∧ (p_X12_numbers (S.1.2 5 (6 * x1).toNatClampNeg)) ∧ (if (f_X12_numbers (S.1.2 5 (6 * x1).toNatClampNeg)) = (-1) then True else (lq_X12_check_51 100000 S x1 (6 * x1) (f_X12_numbers (S.1.2 5 (6 * x1).toNatClampNeg)) ((f_X12_numbers (S.1.2 5 (6 * x1).toNatClampNeg)) + 1))))
def lp_X12_check_16 : Nat → MS → Int32 → Int32 × MS
  | 0, S, _ => (0, S)
  | n + 1, S, x1 => match st_X12_check_16 S x1 with
    | Sum.inl r => r
    | Sum.inr q => lp_X12_check_16 n q.1 q.2
def lq_X12_check_16 : Nat → MS → Int32 → Prop
  | 0, _, _ => False
  | n + 1, S, x1 => ps_X12_check_16 S x1 ∧ (match st_X12_check_16 S x1 with
    | Sum.inl _ => True
    | Sum.inr q => lq_X12_check_16 n q.1 q.2)
def b_X12_check_a14 (S : MS)  : Int32 × MS := (lp_X12_check_16 100000 S 0)
def q_X12_check_a14 (S : MS)  : Prop := (lq_X12_check_16 100000 S 0)
def f_X12_check (S : MS)  : Int32 × MS := (b_X12_check_a14 (mS S ((f_X11_begin S.2.2 (S.2.1.1 0)).2)) )
def p_X12_check (S : MS)  : Prop := (p_X11_begin S.2.2 (S.2.1.1 0)) ∧ (q_X12_check_a14 (mS S ((f_X11_begin S.2.2 (S.2.1.1 0)).2)) )
def e_X12_check : List Cond := [.fieldLink RX12 20 "MotionFloorModel" "spare" "LMotionFloorModel$Hall;", .fieldLink RX12 16 "MotionFloorModel" "hall" "LMotionFloorModel$Hall;", .fieldLink RX12 96 "MotionFloorModel$Hall" "seats" "I", .methodLink RX12 36 yX11_begin, .instanceMethod yX11_begin, .selects RX11 yX11_begin yX11_begin, .initialized RX11, .fieldLink RX12 161 "MotionFloorModel" "tolds" "I", .fieldLink RX12 33 "MotionFloorModel" "told" "[I", .methodLink RX12 174 yX12_numbers, .static yX12_numbers, .initialized RX12, .methodLink RX12 40 yX11_act, .instanceMethod yX11_act, .selects RX11 yX11_act yX11_act]
def v_X12_check : List Cond := .code yX12_check cX12_check 5 (some .int) :: (e_X12_check ++ (wsX120 ++ (wsX110 ++ (v_X11_begin ++ (v_X12_numbers ++ (v_X11_act ++ []))))))
theorem te_X12_check : GoodIn lw_tbl e_X12_check := wGc z299 (wGc z219 (wGc z270 (wGc z218 (wGc z217 (wGc z216 (wGc z51 (wGc z283 (wGc z301 (wGc z303 (wGc z198 (wGc z1 (wGc z223 (wGc z222 (wGc z221 (wG0)))))))))))))))
theorem t_X12_check : GoodIn lw_tbl v_X12_check := wGc z304 (wGa te_X12_check (wGa zcX12 (wGa zcX11 (wGa t_X11_begin (wGa t_X12_numbers (wGa t_X11_act (wG0)))))))
set_option maxHeartbeats 4000000 in
set_option maxRecDepth 100000 in
theorem c_X12_check (l : Launch) (G : va_G) (K : Nat → ClassId) (m0 : Nat) (gm : Nat → Nat) (h1 : Nat) (g1 : Nat → Nat) (h2 : Nat) (g2 : Nat → Nat) (S0 : MS)  (sz : Nat) : Met l yX12_check v_X12_check ({ frames := 6, cells := 0, slots := 0, locals := 156 }) (va_Pc [.ref m0] (mSt G K m0 gm h1 g1 h2 g2 sz S0 (p_X12_check S0))) (va_Qi (fun (r : Int32) (u : MS) => (r, u) = f_X12_check S0) (mB G K m0 gm h1 g1 h2 g2 (va_A (mW K m0 gm h1 g1 h2 g2 S0) sz)) (va_A (mW K m0 gm h1 g1 h2 g2 S0) sz)) 0 0 (va_A (mW K m0 gm h1 g1 h2 g2 S0) sz) := by
  refine Met.ofW (cc := cX12_check) (maxL := 5) (ret := (some .int)) (by decide) rfl ?_
  intro p e s m args below meth c s₁ B hml hv
  obtain ⟨rfl, ⟨hsz, hP, hK, hD0, hTE⟩, hp⟩ := hv
  have hx := B.exec
  have hb := B.bytes
  have hr := B.returns
  have hts := atoms_spec (ws := v_X12_check) B.pre
  have t_ := t_X12_check
  have mw : ∀ w ∈ e_X12_check, w ∈ v_X12_check := fun w h => List.mem_cons_of_mem _ (List.mem_append_left _ h)
  have hw := fun w (h : w ∈ e_X12_check) => hts w (mw w h)
  have iX12 : ∀ w ∈ wsX120, w ∈ v_X12_check := fun w h => List.mem_cons_of_mem _ (List.mem_append_right _ (List.mem_append_left _ h))
  have iX11 : ∀ w ∈ wsX110, w ∈ v_X12_check := fun w h => List.mem_cons_of_mem _ (List.mem_append_right _ (List.mem_append_right _ (List.mem_append_left _ h)))
  have j_X11_begin : ∀ w ∈ v_X11_begin, w ∈ v_X12_check := fun w h => List.mem_cons_of_mem _ (List.mem_append_right _ (List.mem_append_right _ (List.mem_append_right _ (List.mem_append_left _ h))))
  have j_X12_numbers : ∀ w ∈ v_X12_numbers, w ∈ v_X12_check := fun w h => List.mem_cons_of_mem _ (List.mem_append_right _ (List.mem_append_right _ (List.mem_append_right _ (List.mem_append_right _ (List.mem_append_left _ h)))))
  have j_X11_act : ∀ w ∈ v_X11_act, w ∈ v_X12_check := fun w h => List.mem_cons_of_mem _ (List.mem_append_right _ (List.mem_append_right _ (List.mem_append_right _ (List.mem_append_right _ (List.mem_append_right _ (List.mem_append_left _ h))))))
  have hown : s.vm.findClass RX12 = some m.cls := findClass_of_methodNamed B.named
  have hlocks := B.notSynchronized
  subst hsz
  have hD := hD0.self (sz := s.heap.size)
  generalize hAe : va_A (mW K m0 gm h1 g1 h2 g2 S0) s.heap.size = A at hD ⊢
  have hA : ∀ q : Nat, s.heap.size ≤ q → A q := fun q h => by rw [← hAe]; exact Or.inr h
  have hS : va_S A s.heap s.heap [] := va_S.rf
  have hl := lv_entry ([.ref m0]) (n := 5) (Nat.le_of_ble_eq_true rfl)
  rw [lg_entry_eq]
  generalize (lg_sl ([.ref m0]) ++ List.replicate (5 - (lg_sl ([.ref m0])).length) Slot.unset).toArray = ls at hl ⊢
  have hl : lv_has ls 5 [(0, .ref m0)] := hl
  refine wGen (fun Q hQ => ?_)
  obtain ⟨X, hX⟩ : ∃ X, f_X12_check S0 = X := ⟨_, rfl⟩
  have B_142 : ∀ (S : MS) (x1 x2 x3 x4 : Int32) (H : Heap) (locs : List Loc) (ls : Array Slot), b_X12_check_142 S x1 x2 x3 x4 = X → q_X12_check_142 S x1 x2 x3 x4 → va_P G vwCl (mW K m0 gm h1 g1 h2 g2 S) H → va_D A (mW K m0 gm h1 g1 h2 g2 S) → va_S A s.heap H locs → lv_has ls 5 [(0, .ref m0), (1, .int x1), (2, .int x2), (3, .int x3), (4, .int x4)] → W p l e ({ frames := 6, cells := 0, slots := 0, locals := 156 } : Room) s m #[Value.ref m0] below meth c H locs 0 0 Q (F0 m 142 ls []) := by
    intro S x1 x2 x3 x4 H locs ls hE hp hP hD hS hl
    unfold b_X12_check_142 at hE
    unfold q_X12_check_142 at hp
    refine lv_iload_n hx hb dX12_check_142 rfl (lv_at hl 1 rfl) ?_
    subst hQ
    exact W.iret (v := x1) hx hb hr (fun t ht hW => ⟨⟨x1, S, rfl, hE.trans hX.symm, by rw [ht]; exact hP, hD⟩, hS.F ht⟩) hS.2.2 dX12_check_143
  have L_16 : ∀ (n : Nat) (S : MS) (x1 : Int32) (H : Heap) (locs : List Loc) (ls : Array Slot), lp_X12_check_16 n S x1 = X → lq_X12_check_16 n S x1 → va_P G vwCl (mW K m0 gm h1 g1 h2 g2 S) H → va_D A (mW K m0 gm h1 g1 h2 g2 S) → va_S A s.heap H locs → lv_has ls 5 [(0, .ref m0), (1, .int x1)] → W p l e ({ frames := 6, cells := 0, slots := 0, locals := 156 } : Room) s m #[Value.ref m0] below meth c H locs 0 0 Q (F0 m 16 ls []) := by
    intro n1
    induction n1 with
    | zero => intro S x1 H locs ls hE hp; exact False.elim hp
    | succ n1 ih1 =>
      intro S x1 H locs ls hO1 hp hP hD hS hl
      rw [lp_X12_check_16] at hO1
      rw [lq_X12_check_16] at hp
      obtain ⟨hp, hq1⟩ := hp
      generalize hE : st_X12_check_16 S x1 = Y1 at hO1 hq1
      unfold st_X12_check_16 at hE
      unfold ps_X12_check_16 at hp
      have L_51 : ∀ (n : Nat) (S : MS) (x1 x2 x3 x4 : Int32) (H : Heap) (locs : List Loc) (ls : Array Slot), lp_X12_check_51 n S x1 x2 x3 x4 = Y1 → lq_X12_check_51 n S x1 x2 x3 x4 → va_P G vwCl (mW K m0 gm h1 g1 h2 g2 S) H → va_D A (mW K m0 gm h1 g1 h2 g2 S) → va_S A s.heap H locs → lv_has ls 5 [(0, .ref m0), (1, .int x1), (2, .int x2), (3, .int x3), (4, .int x4)] → W p l e ({ frames := 6, cells := 0, slots := 0, locals := 156 } : Room) s m #[Value.ref m0] below meth c H locs 0 0 Q (F0 m 51 ls []) := by
        intro n2
        induction n2 with
        | zero => intro S x1 x2 x3 x4 H locs ls hE hp; exact False.elim hp
        | succ n2 ih2 =>
          intro S x1 x2 x3 x4 H locs ls hO2 hp hP hD hS hl
          rw [lp_X12_check_51] at hO2
          rw [lq_X12_check_51] at hp
          obtain ⟨hp, hq2⟩ := hp
          generalize hE : st_X12_check_51 S x1 x2 x3 x4 = Y2 at hO2 hq2
          unfold st_X12_check_51 at hE
          unfold ps_X12_check_51 at hp
          refine lv_iload hx hb dX12_check_51 (lv_at hl 4 rfl) ?_
          refine lv_iconst (v := 4) hx hb dX12_check_53 (by decide) ?_
          refine lv_icmp_gt (tgt := 77) hx hb dX12_check_54 (by decide) (fun c8 => ?_) (fun c8 => ?_)
          · rw [if_pos c8] at hE hp
            subst hE
            have hE := hO2
            dsimp only at hE
            refine lv_aload_n hx hb dX12_check_77 rfl (lv_at hl 0 rfl) ?_
            refine va_get (D := G) (ci := 9) (v := .ref h2) (C := RX12) (T := TX12) (N := 7) hx hb hts iX12 hown hK hP 0 rfl rfl 1 (by decide) (hw (.fieldLink RX12 20 "MotionFloorModel" "spare" "LMotionFloorModel$Hall;") (List.mem_of_getElem? (i := 0) rfl)) (fun _ h9 => h9) rfl dX12_check_78 ?_
            refine lv_aload_n hx hb dX12_check_81 rfl (lv_at hl 0 rfl) ?_
            refine va_get (D := G) (ci := 9) (v := .ref (gm 5)) (C := RX12) (T := TX12) (N := 7) hx hb hts iX12 hown hK hP 0 rfl rfl 5 (by decide) (hw (.fieldLink RX12 33 "MotionFloorModel" "told" "[I") (List.mem_of_getElem? (i := 8) rfl)) (fun _ h9 => h9) rfl dX12_check_82 ?_
            refine lv_iload_n hx hb dX12_check_85 rfl (lv_at hl 2 rfl) ?_
            obtain ⟨hy9, hp⟩ := hp
            refine va_iald hx hb hK hP 4 0 rfl rfl hy9 dX12_check_86 ?_
            refine lv_aload_n hx hb dX12_check_87 rfl (lv_at hl 0 rfl) ?_
            refine va_get (D := G) (ci := 9) (v := .ref (gm 5)) (C := RX12) (T := TX12) (N := 7) hx hb hts iX12 hown hK hP 0 rfl rfl 5 (by decide) (hw (.fieldLink RX12 33 "MotionFloorModel" "told" "[I") (List.mem_of_getElem? (i := 8) rfl)) (fun _ h9 => h9) rfl dX12_check_88 ?_
            refine lv_iload_n hx hb dX12_check_91 rfl (lv_at hl 2 rfl) ?_
            refine lv_iconst (v := 1) hx hb dX12_check_92 (by decide) ?_
            refine lv_iadd hx hb dX12_check_93 ?_
            obtain ⟨hy10, hp⟩ := hp
            refine va_iald hx hb hK hP 4 0 rfl rfl hy10 dX12_check_94 ?_
            refine lv_aload_n hx hb dX12_check_95 rfl (lv_at hl 0 rfl) ?_
            refine va_get (D := G) (ci := 9) (v := .ref (gm 5)) (C := RX12) (T := TX12) (N := 7) hx hb hts iX12 hown hK hP 0 rfl rfl 5 (by decide) (hw (.fieldLink RX12 33 "MotionFloorModel" "told" "[I") (List.mem_of_getElem? (i := 8) rfl)) (fun _ h9 => h9) rfl dX12_check_96 ?_
            refine lv_iload_n hx hb dX12_check_99 rfl (lv_at hl 2 rfl) ?_
            refine lv_iconst (v := 2) hx hb dX12_check_100 (by decide) ?_
            refine lv_iadd hx hb dX12_check_101 ?_
            obtain ⟨hy11, hp⟩ := hp
            refine va_iald hx hb hK hP 4 0 rfl rfl hy11 dX12_check_102 ?_
            refine lv_aload_n hx hb dX12_check_103 rfl (lv_at hl 0 rfl) ?_
            refine va_get (D := G) (ci := 9) (v := .ref (gm 5)) (C := RX12) (T := TX12) (N := 7) hx hb hts iX12 hown hK hP 0 rfl rfl 5 (by decide) (hw (.fieldLink RX12 33 "MotionFloorModel" "told" "[I") (List.mem_of_getElem? (i := 8) rfl)) (fun _ h9 => h9) rfl dX12_check_104 ?_
            refine lv_iload_n hx hb dX12_check_107 rfl (lv_at hl 2 rfl) ?_
            refine lv_iconst (v := 3) hx hb dX12_check_108 (by decide) ?_
            refine lv_iadd hx hb dX12_check_109 ?_
            obtain ⟨hy12, hp⟩ := hp
            refine va_iald hx hb hK hP 4 0 rfl rfl hy12 dX12_check_110 ?_
            refine lv_aload_n hx hb dX12_check_111 rfl (lv_at hl 0 rfl) ?_
            refine va_get (D := G) (ci := 9) (v := .ref (gm 5)) (C := RX12) (T := TX12) (N := 7) hx hb hts iX12 hown hK hP 0 rfl rfl 5 (by decide) (hw (.fieldLink RX12 33 "MotionFloorModel" "told" "[I") (List.mem_of_getElem? (i := 8) rfl)) (fun _ h9 => h9) rfl dX12_check_112 ?_
            refine lv_iload_n hx hb dX12_check_115 rfl (lv_at hl 2 rfl) ?_
            refine lv_iconst (v := 4) hx hb dX12_check_116 (by decide) ?_
            refine lv_iadd hx hb dX12_check_117 ?_
            obtain ⟨hy13, hp⟩ := hp
            refine va_iald hx hb hK hP 4 0 rfl rfl hy13 dX12_check_118 ?_
            obtain ⟨hy14, hp⟩ := hp
            refine mGoi_s (va_runV (As := [.int (S.1.2 5 x2.toNatClampNeg), .int (S.1.2 5 (x2 + 1).toNatClampNeg), .int (S.1.2 5 (x2 + 2).toNatClampNeg), .int (S.1.2 5 (x2 + 3).toNatClampNeg), .int (S.1.2 5 (x2 + 4).toNatClampNeg)]) (rest := []) ⟨hx, hb, hml, hown, hts⟩ (c_X11_act l G K h2 g2 S.2.2 (S.1.2 5 x2.toNatClampNeg) (S.1.2 5 (x2 + 1).toNatClampNeg) (S.1.2 5 (x2 + 2).toNatClampNeg) (S.1.2 5 (x2 + 3).toNatClampNeg) (S.1.2 5 (x2 + 4).toNatClampNeg) _) (cwV 5 hts (wGV t_ (mw (.methodLink RX12 40 yX11_act) (List.mem_of_getElem? (i := 12) rfl)) (mw (.instanceMethod yX11_act) (List.mem_of_getElem? (i := 13) rfl)) (mw (.selects RX11 yX11_act yX11_act) (List.mem_of_getElem? (i := 14) rfl)) (mw (.initialized RX11) (List.mem_of_getElem? (i := 6) rfl)) j_X11_act) rfl rfl rfl (by decide +kernel) ⟨Nat.le_of_ble_eq_true rfl, Nat.le_of_ble_eq_true rfl⟩) (hPV hK hTE (mP_s hP) (mD_s hD) hy14) rfl rfl hl.1 rfl (lv_room (Nat.le_of_ble_eq_true rfl)) dX12_check_119 ⟨Nat.le_of_ble_eq_true rfl, Nat.le_of_ble_eq_true rfl⟩) hP hD hS hA (fun r16 u15 H locs hv hP hD hS => ?_)
            rw [← hv] at hE hp
            dsimp only at hE hp
            unfold b_X12_check_a122 at hE
            unfold q_X12_check_a122 at hp
            refine lv_istore (lv' := [(4, .int r16), (0, .ref m0), (1, .int x1), (2, .int x2), (3, .int x3)]) hx hb dX12_check_122 hl (by decide) rfl (fun ls hl => ?_)
            refine lv_iload hx hb dX12_check_124 (lv_at hl 0 rfl) ?_
            refine lv_if_lt (tgt := 142) hx hb dX12_check_126 (by decide) (fun c17 => ?_) (fun c17 => ?_)
            · rw [if_pos c17] at hE hp
              subst hE
              have hE := hO1
              dsimp only at hE
              exact B_142 (mS S u15) x1 x2 x3 r16 _ _ _ hE hp hP hD hS (lv_sub hl [1, 2, 3, 4, 0] rfl)
            · rw [if_neg c17] at hE hp
              refine lv_iload hx hb dX12_check_129 (lv_at hl 0 rfl) ?_
              refine lv_aload_n hx hb dX12_check_131 rfl (lv_at hl 1 rfl) ?_
              refine va_get (D := G) (ci := 9) (v := .ref (gm 5)) (C := RX12) (T := TX12) (N := 7) hx hb hts iX12 hown hK hP 0 rfl rfl 5 (by decide) (hw (.fieldLink RX12 33 "MotionFloorModel" "told" "[I") (List.mem_of_getElem? (i := 8) rfl)) (fun _ h9 => h9) rfl dX12_check_132 ?_
              refine lv_iload_n hx hb dX12_check_135 rfl (lv_at hl 3 rfl) ?_
              refine lv_iconst (v := 5) hx hb dX12_check_136 (by decide) ?_
              refine lv_iadd hx hb dX12_check_137 ?_
              obtain ⟨hy18, hp⟩ := hp
              refine va_iald hx hb hK hP 4 0 rfl rfl hy18 dX12_check_138 ?_
              refine lv_icmp_eq (tgt := 144) hx hb dX12_check_139 (by decide) (fun c19 => ?_) (fun c19 => ?_)
              · rw [if_pos c19] at hE hp
                refine lv_iinc (v := (x1 + 1)) (lv' := [(1, .int (x1 + 1)), (4, .int r16), (0, .ref m0), (2, .int x2), (3, .int x3)]) hx hb dX12_check_144 hl (k := 2) rfl rfl (by decide) rfl (fun ls hl => ?_)
                refine lv_goto (tgt := 16) hx hb dX12_check_147 (by decide) ?_
                subst hE
                dsimp only at hO1 hq1
                exact ih1 (mS S u15) (x1 + 1) _ _ _ hO1 hq1 hP hD hS (lv_sub hl [2, 0] rfl)
              · rw [if_neg c19] at hE hp
                subst hE
                have hE := hO1
                dsimp only at hE
                exact B_142 (mS S u15) x1 x2 x3 r16 _ _ _ hE hp hP hD hS (lv_sub hl [1, 2, 3, 4, 0] rfl)
          · rw [if_neg c8] at hE hp
            refine lv_aload_n hx hb dX12_check_57 rfl (lv_at hl 0 rfl) ?_
            refine va_get (D := G) (ci := 9) (v := .ref (gm 5)) (C := RX12) (T := TX12) (N := 7) hx hb hts iX12 hown hK hP 0 rfl rfl 5 (by decide) (hw (.fieldLink RX12 33 "MotionFloorModel" "told" "[I") (List.mem_of_getElem? (i := 8) rfl)) (fun _ h9 => h9) rfl dX12_check_58 ?_
            refine lv_iload_n hx hb dX12_check_61 rfl (lv_at hl 2 rfl) ?_
            refine lv_iload hx hb dX12_check_62 (lv_at hl 4 rfl) ?_
            refine lv_iadd hx hb dX12_check_64 ?_
            obtain ⟨hy23, hp⟩ := hp
            refine va_iald hx hb hK hP 4 0 rfl rfl hy23 dX12_check_65 ?_
            refine lv_if_eq (tgt := 71) hx hb dX12_check_66 (by decide) (fun c24 => ?_) (fun c24 => ?_)
            · rw [if_pos c24] at hE hp
              refine lv_iinc (v := (x4 + 1)) (lv' := [(4, .int (x4 + 1)), (0, .ref m0), (1, .int x1), (2, .int x2), (3, .int x3)]) hx hb dX12_check_71 hl (k := 4) rfl rfl (by decide) rfl (fun ls hl => ?_)
              refine lv_goto (tgt := 51) hx hb dX12_check_74 (by decide) ?_
              subst hE
              dsimp only at hO2 hq2
              exact ih2 S x1 x2 x3 (x4 + 1) _ _ _ hO2 hq2 hP hD hS (lv_sub hl [1, 2, 3, 4, 0] rfl)
            · rw [if_neg c24] at hE hp
              subst hE
              have hE := hO2
              dsimp only at hE
              subst hE
              have hE := hO1
              dsimp only at hE
              refine lv_iload_n hx hb dX12_check_69 rfl (lv_at hl 1 rfl) ?_
              subst hQ
              exact W.iret (v := x1) hx hb hr (fun t ht hW => ⟨⟨x1, S, rfl, hE.trans hX.symm, by rw [ht]; exact hP, hD⟩, hS.F ht⟩) hS.2.2 dX12_check_70
      refine lv_iload_n hx hb dX12_check_16 rfl (lv_at hl 1 rfl) ?_
      refine lv_aload_n hx hb dX12_check_17 rfl (lv_at hl 0 rfl) ?_
      refine va_get (D := G) (ci := 9) (v := .int (S.1.1 6)) (C := RX12) (T := TX12) (N := 7) hx hb hts iX12 hown hK hP 0 rfl rfl 6 (by decide) (hw (.fieldLink RX12 161 "MotionFloorModel" "tolds" "I") (List.mem_of_getElem? (i := 7) rfl)) (fun _ h9 => h9) rfl dX12_check_18 ?_
      refine lv_icmp_ge (tgt := 150) hx hb dX12_check_21 (by decide) (fun c4 => ?_) (fun c4 => ?_)
      · rw [if_pos c4] at hE hp
        subst hE
        have hE := hO1
        dsimp only at hE
        refine lv_iconst (v := (-1)) hx hb dX12_check_150 (by decide) ?_
        subst hQ
        exact W.iret (v := (-1)) hx hb hr (fun t ht hW => ⟨⟨(-1), S, rfl, hE.trans hX.symm, by rw [ht]; exact hP, hD⟩, hS.F ht⟩) hS.2.2 dX12_check_151
      · rw [if_neg c4] at hE hp
        refine lv_bipush (v := 6) hx hb dX12_check_24 (by decide) ?_
        refine lv_iload_n hx hb dX12_check_26 rfl (lv_at hl 1 rfl) ?_
        refine lv_imul hx hb dX12_check_27 ?_
        refine lv_istore_n (lv' := [(2, .int (6 * x1)), (0, .ref m0), (1, .int x1)]) hx hb dX12_check_28 rfl hl (by decide) rfl (fun ls hl => ?_)
        refine lv_aload_n hx hb dX12_check_29 rfl (lv_at hl 1 rfl) ?_
        refine va_get (D := G) (ci := 9) (v := .ref (gm 5)) (C := RX12) (T := TX12) (N := 7) hx hb hts iX12 hown hK hP 0 rfl rfl 5 (by decide) (hw (.fieldLink RX12 33 "MotionFloorModel" "told" "[I") (List.mem_of_getElem? (i := 8) rfl)) (fun _ h9 => h9) rfl dX12_check_30 ?_
        refine lv_iload_n hx hb dX12_check_33 rfl (lv_at hl 0 rfl) ?_
        obtain ⟨hy5, hp⟩ := hp
        refine va_iald hx hb hK hP 4 0 rfl rfl hy5 dX12_check_34 ?_
        obtain ⟨hy6, hp⟩ := hp
        refine nGoi (va_runS (As := [.int (S.1.2 5 (6 * x1).toNatClampNeg)]) (rest := []) ⟨hx, hb, hml, hown, hts⟩ (c_X12_numbers l G K (S.1.2 5 (6 * x1).toNatClampNeg) _) (va_cwS 1 hts (wGS t_ (mw (.methodLink RX12 174 yX12_numbers) (List.mem_of_getElem? (i := 9) rfl)) (mw (.static yX12_numbers) (List.mem_of_getElem? (i := 10) rfl)) (mw (.initialized RX12) (List.mem_of_getElem? (i := 11) rfl)) j_X12_numbers) rfl rfl rfl (by decide +kernel) ⟨Nat.le_of_ble_eq_true rfl, Nat.le_of_ble_eq_true rfl⟩) (nPS hK hTE hy6) rfl rfl hl.1 rfl (lv_room (Nat.le_of_ble_eq_true rfl)) dX12_check_35 ⟨Nat.le_of_ble_eq_true rfl, Nat.le_of_ble_eq_true rfl⟩) hP hS hA (fun r H locs hv hP hS => ?_)
        subst hv
        refine lv_istore_n (lv' := [(3, .int (f_X12_numbers (S.1.2 5 (6 * x1).toNatClampNeg))), (2, .int (6 * x1)), (0, .ref m0), (1, .int x1)]) hx hb dX12_check_38 rfl hl (by decide) rfl (fun ls hl => ?_)
        refine lv_iload_n hx hb dX12_check_39 rfl (lv_at hl 0 rfl) ?_
        refine lv_iconst (v := (-1)) hx hb dX12_check_40 (by decide) ?_
        refine lv_icmp_ne (tgt := 46) hx hb dX12_check_41 (by decide) (fun c7 => ?_) (fun c7 => ?_)
        · rw [if_neg c7] at hE hp
          refine lv_iload_n hx hb dX12_check_46 rfl (lv_at hl 0 rfl) ?_
          refine lv_iconst (v := 1) hx hb dX12_check_47 (by decide) ?_
          refine lv_iadd hx hb dX12_check_48 ?_
          refine lv_istore (lv' := [(4, .int ((f_X12_numbers (S.1.2 5 (6 * x1).toNatClampNeg)) + 1)), (3, .int (f_X12_numbers (S.1.2 5 (6 * x1).toNatClampNeg))), (2, .int (6 * x1)), (0, .ref m0), (1, .int x1)]) hx hb dX12_check_49 hl (by decide) rfl (fun ls hl => ?_)
          exact L_51 100000 S x1 (6 * x1) (f_X12_numbers (S.1.2 5 (6 * x1).toNatClampNeg)) ((f_X12_numbers (S.1.2 5 (6 * x1).toNatClampNeg)) + 1) _ _ _ hE hp hP hD hS (lv_sub hl [3, 4, 2, 1, 0] rfl)
        · rw [if_pos c7] at hE hp
          subst hE
          have hE := hO1
          dsimp only at hE
          refine lv_iload_n hx hb dX12_check_44 rfl (lv_at hl 3 rfl) ?_
          subst hQ
          exact W.iret (v := x1) hx hb hr (fun t ht hW => ⟨⟨x1, S, rfl, hE.trans hX.symm, by rw [ht]; exact hP, hD⟩, hS.F ht⟩) hS.2.2 dX12_check_45
  have B_M : ∀ (S : MS) (H : Heap) (locs : List Loc) (ls : Array Slot), f_X12_check S = X → p_X12_check S → va_P G vwCl (mW K m0 gm h1 g1 h2 g2 S) H → va_D A (mW K m0 gm h1 g1 h2 g2 S) → va_S A s.heap H locs → lv_has ls 5 [(0, .ref m0)] → W p l e ({ frames := 6, cells := 0, slots := 0, locals := 156 } : Room) s m #[Value.ref m0] below meth c H locs 0 0 Q (F0 m 0 ls []) := by
    intro S H locs ls hE hp hP hD hS hl
    unfold f_X12_check at hE
    unfold p_X12_check at hp
    refine lv_aload_n hx hb dX12_check_0 rfl (lv_at hl 0 rfl) ?_
    refine va_get (D := G) (ci := 9) (v := .ref h2) (C := RX12) (T := TX12) (N := 7) hx hb hts iX12 hown hK hP 0 rfl rfl 1 (by decide) (hw (.fieldLink RX12 20 "MotionFloorModel" "spare" "LMotionFloorModel$Hall;") (List.mem_of_getElem? (i := 0) rfl)) (fun _ h9 => h9) rfl dX12_check_1 ?_
    refine lv_aload_n hx hb dX12_check_4 rfl (lv_at hl 0 rfl) ?_
    refine va_get (D := G) (ci := 9) (v := .ref h1) (C := RX12) (T := TX12) (N := 7) hx hb hts iX12 hown hK hP 0 rfl rfl 0 (by decide) (hw (.fieldLink RX12 16 "MotionFloorModel" "hall" "LMotionFloorModel$Hall;") (List.mem_of_getElem? (i := 1) rfl)) (fun _ h9 => h9) rfl dX12_check_5 ?_
    refine va_get (D := G) (ci := 8) (v := .int (S.2.1.1 0)) (C := RX11) (T := TX11) (N := 42) hx hb hts iX11 hown hK hP 5 rfl rfl 0 (by decide) (hw (.fieldLink RX12 96 "MotionFloorModel$Hall" "seats" "I") (List.mem_of_getElem? (i := 2) rfl)) (fun _ h9 => h9) rfl dX12_check_8 ?_
    obtain ⟨hy1, hp⟩ := hp
    refine mGov_s (va_runV (As := [.int (S.2.1.1 0)]) (rest := []) ⟨hx, hb, hml, hown, hts⟩ (c_X11_begin l G K h2 g2 S.2.2 (S.2.1.1 0) _) (cwV 1 hts (wGV t_ (mw (.methodLink RX12 36 yX11_begin) (List.mem_of_getElem? (i := 3) rfl)) (mw (.instanceMethod yX11_begin) (List.mem_of_getElem? (i := 4) rfl)) (mw (.selects RX11 yX11_begin yX11_begin) (List.mem_of_getElem? (i := 5) rfl)) (mw (.initialized RX11) (List.mem_of_getElem? (i := 6) rfl)) j_X11_begin) rfl rfl rfl (by decide +kernel) ⟨Nat.le_of_ble_eq_true rfl, Nat.le_of_ble_eq_true rfl⟩) (hPV hK hTE (mP_s hP) (mD_s hD) hy1) rfl rfl hl.1 rfl (lv_room (Nat.le_of_ble_eq_true rfl)) dX12_check_11 ⟨Nat.le_of_ble_eq_true rfl, Nat.le_of_ble_eq_true rfl⟩) hP hD hS hA (fun u2 H locs hv hP hD hS => ?_)
    rw [← hv] at hE hp
    dsimp only at hE hp
    unfold b_X12_check_a14 at hE
    unfold q_X12_check_a14 at hp
    refine lv_iconst (v := 0) hx hb dX12_check_14 (by decide) ?_
    refine lv_istore_n (lv' := [(1, .int 0), (0, .ref m0)]) hx hb dX12_check_15 rfl hl (by decide) rfl (fun ls hl => ?_)
    exact L_16 100000 (mS S u2) 0 _ _ _ hE hp hP hD hS (lv_sub hl [1, 0] rfl)
  exact B_M S0 _ _ _ hX hp hP hD hS hl
theorem gdX12_strike_0 : ckS (List.drop 0 cX12_strike.data.toList) 0 [(0, .aload_n 0, 1), (1, .getfield 161, 3), (4, .istore_n 1, 1), (5, .aload_n 0, 1), (6, .iconst 0, 1), (7, .putfield 161, 3), (10, .iload_n 1, 1), (11, .ireturn, 1)] = true := by decide +kernel
theorem dX12_strike_0 : decode cX12_strike 0 = .ok (.aload_n 0, 1) := ckS_g gdX12_strike_0 0 rfl
theorem dX12_strike_1 : decode cX12_strike 1 = .ok (.getfield 161, 3) := ckS_g gdX12_strike_0 1 rfl
theorem dX12_strike_4 : decode cX12_strike 4 = .ok (.istore_n 1, 1) := ckS_g gdX12_strike_0 2 rfl
theorem dX12_strike_5 : decode cX12_strike 5 = .ok (.aload_n 0, 1) := ckS_g gdX12_strike_0 3 rfl
theorem dX12_strike_6 : decode cX12_strike 6 = .ok (.iconst 0, 1) := ckS_g gdX12_strike_0 4 rfl
theorem dX12_strike_7 : decode cX12_strike 7 = .ok (.putfield 161, 3) := ckS_g gdX12_strike_0 5 rfl
theorem dX12_strike_10 : decode cX12_strike 10 = .ok (.iload_n 1, 1) := ckS_g gdX12_strike_0 6 rfl
theorem dX12_strike_11 : decode cX12_strike 11 = .ok (.ireturn, 1) := ckS_g gdX12_strike_0 7 rfl
set_option maxRecDepth 100000 in
theorem z305 : wZ (.code yX12_strike cX12_strike 2 (some .int)) := ⟨wT7 (List.mem_of_getElem? (i := 36) rfl), Or.inl rfl⟩
def f_X12_strike (S : MS)  : Int32 × MS := ((S.1.1 6), (mO S (sI S.1 6 0)))
def p_X12_strike (S : MS)  : Prop := True
def e_X12_strike : List Cond := [.fieldLink RX12 161 "MotionFloorModel" "tolds" "I"]
def v_X12_strike : List Cond := .code yX12_strike cX12_strike 2 (some .int) :: (e_X12_strike ++ (wsX120 ++ []))
theorem te_X12_strike : GoodIn lw_tbl e_X12_strike := wGc z283 (wG0)
theorem t_X12_strike : GoodIn lw_tbl v_X12_strike := wGc z305 (wGa te_X12_strike (wGa zcX12 (wG0)))
set_option maxHeartbeats 4000000 in
set_option maxRecDepth 100000 in
theorem c_X12_strike (l : Launch) (G : va_G) (K : Nat → ClassId) (m0 : Nat) (gm : Nat → Nat) (h1 : Nat) (g1 : Nat → Nat) (h2 : Nat) (g2 : Nat → Nat) (S0 : MS)  (sz : Nat) : Met l yX12_strike v_X12_strike ({ frames := 0, cells := 0, slots := 0, locals := 0 }) (va_Pc [.ref m0] (mSt G K m0 gm h1 g1 h2 g2 sz S0 (p_X12_strike S0))) (va_Qi (fun (r : Int32) (u : MS) => (r, u) = f_X12_strike S0) (mB G K m0 gm h1 g1 h2 g2 (va_A (mW K m0 gm h1 g1 h2 g2 S0) sz)) (va_A (mW K m0 gm h1 g1 h2 g2 S0) sz)) 0 0 (va_A (mW K m0 gm h1 g1 h2 g2 S0) sz) := by
  refine Met.ofW (cc := cX12_strike) (maxL := 2) (ret := (some .int)) (by decide) rfl ?_
  intro p e s m args below meth c s₁ B hml hv
  obtain ⟨rfl, ⟨hsz, hP, hK, hD0, hTE⟩, hp⟩ := hv
  have hx := B.exec
  have hb := B.bytes
  have hr := B.returns
  have hts := atoms_spec (ws := v_X12_strike) B.pre
  have t_ := t_X12_strike
  have mw : ∀ w ∈ e_X12_strike, w ∈ v_X12_strike := fun w h => List.mem_cons_of_mem _ (List.mem_append_left _ h)
  have hw := fun w (h : w ∈ e_X12_strike) => hts w (mw w h)
  have iX12 : ∀ w ∈ wsX120, w ∈ v_X12_strike := fun w h => List.mem_cons_of_mem _ (List.mem_append_right _ (List.mem_append_left _ h))
  have hown : s.vm.findClass RX12 = some m.cls := findClass_of_methodNamed B.named
  have hlocks := B.notSynchronized
  subst hsz
  have hD := hD0.self (sz := s.heap.size)
  generalize hAe : va_A (mW K m0 gm h1 g1 h2 g2 S0) s.heap.size = A at hD ⊢
  have hA : ∀ q : Nat, s.heap.size ≤ q → A q := fun q h => by rw [← hAe]; exact Or.inr h
  have hS : va_S A s.heap s.heap [] := va_S.rf
  have hl := lv_entry ([.ref m0]) (n := 2) (Nat.le_of_ble_eq_true rfl)
  rw [lg_entry_eq]
  generalize (lg_sl ([.ref m0]) ++ List.replicate (2 - (lg_sl ([.ref m0])).length) Slot.unset).toArray = ls at hl ⊢
  have hl : lv_has ls 2 [(0, .ref m0)] := hl
  refine wGen (fun Q hQ => ?_)
  obtain ⟨X, hX⟩ : ∃ X, f_X12_strike S0 = X := ⟨_, rfl⟩
  have B_M : ∀ (S : MS) (H : Heap) (locs : List Loc) (ls : Array Slot), f_X12_strike S = X → p_X12_strike S → va_P G vwCl (mW K m0 gm h1 g1 h2 g2 S) H → va_D A (mW K m0 gm h1 g1 h2 g2 S) → va_S A s.heap H locs → lv_has ls 2 [(0, .ref m0)] → W p l e ({ frames := 0, cells := 0, slots := 0, locals := 0 } : Room) s m #[Value.ref m0] below meth c H locs 0 0 Q (F0 m 0 ls []) := by
    intro S H locs ls hE hp hP hD hS hl
    unfold f_X12_strike at hE
    unfold p_X12_strike at hp
    refine lv_aload_n hx hb dX12_strike_0 rfl (lv_at hl 0 rfl) ?_
    refine va_get (D := G) (ci := 9) (v := .int (S.1.1 6)) (C := RX12) (T := TX12) (N := 7) hx hb hts iX12 hown hK hP 0 rfl rfl 6 (by decide) (hw (.fieldLink RX12 161 "MotionFloorModel" "tolds" "I") (List.mem_of_getElem? (i := 0) rfl)) (fun _ h9 => h9) rfl dX12_strike_1 ?_
    refine lv_istore_n (lv' := [(1, .int (S.1.1 6)), (0, .ref m0)]) hx hb dX12_strike_4 rfl hl (by decide) rfl (fun ls hl => ?_)
    refine lv_aload_n hx hb dX12_strike_5 rfl (lv_at hl 1 rfl) ?_
    refine lv_iconst (v := 0) hx hb dX12_strike_6 (by decide) ?_
    refine va_put (D := G) (ci := 9) (v := .int 0) (ty := .int) (C := RX12) (T := TX12) (N := 7) hx hb hts iX12 tyX12 tyX12_ok nmX12 hown hK hP hD hS 0 rfl rfl 6 (by decide) (hw (.fieldLink RX12 161 "MotionFloorModel" "tolds" "I") (List.mem_of_getElem? (i := 0) rfl)) (fun _ h9 => h9) rfl (by decide +kernel) rfl rfl (Nat.le_of_ble_eq_true rfl) dX12_strike_7 (fun H locs hP hD hS => ?_)
    rw [mI_o_6b] at hP hD
    refine lv_iload_n hx hb dX12_strike_10 rfl (lv_at hl 0 rfl) ?_
    subst hQ
    exact W.iret (v := (S.1.1 6)) hx hb hr (fun t ht hW => ⟨⟨(S.1.1 6), (mO S (sI S.1 6 0)), rfl, hE.trans hX.symm, by rw [ht]; exact hP, hD⟩, hS.F ht⟩) hS.2.2 dX12_strike_11
  exact B_M S0 _ _ _ hX hp hP hD hS hl
theorem gdX12_image_0 : ckS (List.drop 0 cX12_image.data.toList) 0 [(0, .iload_n 1, 1), (1, .iconst 0, 1), (2, .iconst 1, 1), (3, .invokestatic 1, 3), (6, .ifCond .ne 6, 3), (9, .bipush (-9), 2), (11, .ireturn, 1), (12, .aload_n 0, 1), (13, .getfield 23, 3), (16, .iload_n 1, 1), (17, .aload_n 0, 1), (18, .getfield 16, 3), (21, .getfield 96, 3), (24, .iastore, 1), (25, .aload_n 0, 1), (26, .getfield 27, 3), (29, .iload_n 1, 1), (30, .aload_n 0, 1), (31, .getfield 16, 3), (34, .getfield 48, 3), (37, .iastore, 1), (38, .iconst 0, 1), (39, .istore_n 2, 1), (40, .iload_n 2, 1), (41, .bipush 6, 2), (43, .aload_n 0, 1), (44, .getfield 16, 3), (47, .getfield 48, 3), (50, .imul, 1), (51, .if_icmp .ge 30, 3), (54, .aload_n 0, 1), (55, .getfield 30, 3), (58, .sipush 3600, 3), (61, .iload_n 1, 1), (62, .imul, 1), (63, .iload_n 2, 1), (64, .iadd, 1), (65, .aload_n 0, 1), (66, .getfield 16, 3), (69, .getfield 167, 3)] = true := by decide +kernel
theorem dX12_image_0 : decode cX12_image 0 = .ok (.iload_n 1, 1) := ckS_g gdX12_image_0 0 rfl
theorem dX12_image_1 : decode cX12_image 1 = .ok (.iconst 0, 1) := ckS_g gdX12_image_0 1 rfl
theorem dX12_image_2 : decode cX12_image 2 = .ok (.iconst 1, 1) := ckS_g gdX12_image_0 2 rfl
theorem dX12_image_3 : decode cX12_image 3 = .ok (.invokestatic 1, 3) := ckS_g gdX12_image_0 3 rfl
theorem dX12_image_6 : decode cX12_image 6 = .ok (.ifCond .ne 6, 3) := ckS_g gdX12_image_0 4 rfl
theorem dX12_image_9 : decode cX12_image 9 = .ok (.bipush (-9), 2) := ckS_g gdX12_image_0 5 rfl
theorem dX12_image_11 : decode cX12_image 11 = .ok (.ireturn, 1) := ckS_g gdX12_image_0 6 rfl
theorem dX12_image_12 : decode cX12_image 12 = .ok (.aload_n 0, 1) := ckS_g gdX12_image_0 7 rfl
theorem dX12_image_13 : decode cX12_image 13 = .ok (.getfield 23, 3) := ckS_g gdX12_image_0 8 rfl
theorem dX12_image_16 : decode cX12_image 16 = .ok (.iload_n 1, 1) := ckS_g gdX12_image_0 9 rfl
theorem dX12_image_17 : decode cX12_image 17 = .ok (.aload_n 0, 1) := ckS_g gdX12_image_0 10 rfl
theorem dX12_image_18 : decode cX12_image 18 = .ok (.getfield 16, 3) := ckS_g gdX12_image_0 11 rfl
theorem dX12_image_21 : decode cX12_image 21 = .ok (.getfield 96, 3) := ckS_g gdX12_image_0 12 rfl
theorem dX12_image_24 : decode cX12_image 24 = .ok (.iastore, 1) := ckS_g gdX12_image_0 13 rfl
theorem dX12_image_25 : decode cX12_image 25 = .ok (.aload_n 0, 1) := ckS_g gdX12_image_0 14 rfl
theorem dX12_image_26 : decode cX12_image 26 = .ok (.getfield 27, 3) := ckS_g gdX12_image_0 15 rfl
theorem dX12_image_29 : decode cX12_image 29 = .ok (.iload_n 1, 1) := ckS_g gdX12_image_0 16 rfl
theorem dX12_image_30 : decode cX12_image 30 = .ok (.aload_n 0, 1) := ckS_g gdX12_image_0 17 rfl
theorem dX12_image_31 : decode cX12_image 31 = .ok (.getfield 16, 3) := ckS_g gdX12_image_0 18 rfl
theorem dX12_image_34 : decode cX12_image 34 = .ok (.getfield 48, 3) := ckS_g gdX12_image_0 19 rfl
theorem dX12_image_37 : decode cX12_image 37 = .ok (.iastore, 1) := ckS_g gdX12_image_0 20 rfl
theorem dX12_image_38 : decode cX12_image 38 = .ok (.iconst 0, 1) := ckS_g gdX12_image_0 21 rfl
theorem dX12_image_39 : decode cX12_image 39 = .ok (.istore_n 2, 1) := ckS_g gdX12_image_0 22 rfl
theorem dX12_image_40 : decode cX12_image 40 = .ok (.iload_n 2, 1) := ckS_g gdX12_image_0 23 rfl
theorem dX12_image_41 : decode cX12_image 41 = .ok (.bipush 6, 2) := ckS_g gdX12_image_0 24 rfl
theorem dX12_image_43 : decode cX12_image 43 = .ok (.aload_n 0, 1) := ckS_g gdX12_image_0 25 rfl
theorem dX12_image_44 : decode cX12_image 44 = .ok (.getfield 16, 3) := ckS_g gdX12_image_0 26 rfl
theorem dX12_image_47 : decode cX12_image 47 = .ok (.getfield 48, 3) := ckS_g gdX12_image_0 27 rfl
theorem dX12_image_50 : decode cX12_image 50 = .ok (.imul, 1) := ckS_g gdX12_image_0 28 rfl
theorem dX12_image_51 : decode cX12_image 51 = .ok (.if_icmp .ge 30, 3) := ckS_g gdX12_image_0 29 rfl
theorem dX12_image_54 : decode cX12_image 54 = .ok (.aload_n 0, 1) := ckS_g gdX12_image_0 30 rfl
theorem dX12_image_55 : decode cX12_image 55 = .ok (.getfield 30, 3) := ckS_g gdX12_image_0 31 rfl
theorem dX12_image_58 : decode cX12_image 58 = .ok (.sipush 3600, 3) := ckS_g gdX12_image_0 32 rfl
theorem dX12_image_61 : decode cX12_image 61 = .ok (.iload_n 1, 1) := ckS_g gdX12_image_0 33 rfl
theorem dX12_image_62 : decode cX12_image 62 = .ok (.imul, 1) := ckS_g gdX12_image_0 34 rfl
theorem dX12_image_63 : decode cX12_image 63 = .ok (.iload_n 2, 1) := ckS_g gdX12_image_0 35 rfl
theorem dX12_image_64 : decode cX12_image 64 = .ok (.iadd, 1) := ckS_g gdX12_image_0 36 rfl
theorem dX12_image_65 : decode cX12_image 65 = .ok (.aload_n 0, 1) := ckS_g gdX12_image_0 37 rfl
theorem dX12_image_66 : decode cX12_image 66 = .ok (.getfield 16, 3) := ckS_g gdX12_image_0 38 rfl
theorem dX12_image_69 : decode cX12_image 69 = .ok (.getfield 167, 3) := ckS_g gdX12_image_0 39 rfl
theorem gdX12_image_72 : ckS (List.drop 72 cX12_image.data.toList) 72 [(72, .iload_n 2, 1), (73, .iaload, 1), (74, .iastore, 1), (75, .iinc 2 1, 3), (78, .goto (-38), 3), (81, .aload_n 0, 1), (82, .getfield 16, 3), (85, .getfield 48, 3), (88, .ireturn, 1)] = true := by decide +kernel
theorem dX12_image_72 : decode cX12_image 72 = .ok (.iload_n 2, 1) := ckS_g gdX12_image_72 0 rfl
theorem dX12_image_73 : decode cX12_image 73 = .ok (.iaload, 1) := ckS_g gdX12_image_72 1 rfl
theorem dX12_image_74 : decode cX12_image 74 = .ok (.iastore, 1) := ckS_g gdX12_image_72 2 rfl
theorem dX12_image_75 : decode cX12_image 75 = .ok (.iinc 2 1, 3) := ckS_g gdX12_image_72 3 rfl
theorem dX12_image_78 : decode cX12_image 78 = .ok (.goto (-38), 3) := ckS_g gdX12_image_72 4 rfl
theorem dX12_image_81 : decode cX12_image 81 = .ok (.aload_n 0, 1) := ckS_g gdX12_image_72 5 rfl
theorem dX12_image_82 : decode cX12_image 82 = .ok (.getfield 16, 3) := ckS_g gdX12_image_72 6 rfl
theorem dX12_image_85 : decode cX12_image 85 = .ok (.getfield 48, 3) := ckS_g gdX12_image_72 7 rfl
theorem dX12_image_88 : decode cX12_image 88 = .ok (.ireturn, 1) := ckS_g gdX12_image_72 8 rfl
set_option maxRecDepth 100000 in
theorem z306 : wZ (.fieldLink RX12 30 "MotionFloorModel" "images" "[I") := ⟨wT5 (List.mem_of_getElem? (i := 204) (by decide +kernel)), Or.inl rfl⟩
set_option maxRecDepth 100000 in
theorem z307 : wZ (.fieldLink RX12 27 "MotionFloorModel" "imageEntries" "[I") := ⟨wT5 (List.mem_of_getElem? (i := 203) (by decide +kernel)), Or.inl rfl⟩
set_option maxRecDepth 100000 in
theorem z308 : wZ (.fieldLink RX12 23 "MotionFloorModel" "imageSeats" "[I") := ⟨wT5 (List.mem_of_getElem? (i := 202) (by decide +kernel)), Or.inl rfl⟩
set_option maxRecDepth 100000 in
theorem z309 : wZ (.code yX12_image cX12_image 3 (some .int)) := ⟨wT7 (List.mem_of_getElem? (i := 40) rfl), Or.inl rfl⟩
def st_X12_image_40 (S : MS) (x1 x2 : Int32) : (Int32 × MS) ⊕ (MS × Int32 × Int32) := if (6 * (S.2.1.1 7)) ≤ x2 then Sum.inl (((S.2.1.1 7), S)) else Sum.inr ((mO S (sA S.1 4 ((3600 * x1) + x2).toNatClampNeg (S.2.1.2 40 x2.toNatClampNeg))), x1, (x2 + 1))
def ps_X12_image_40 (S : MS) (x1 x2 : Int32) : Prop := (if (6 * (S.2.1.1 7)) ≤ x2 then True else (vp_in x2 3600) ∧ (vp_in ((3600 * x1) + x2) 7200) ∧ True)
def lp_X12_image_40 : Nat → MS → Int32 → Int32 → Int32 × MS
  | 0, S, _, _ => (0, S)
  | n + 1, S, x1, x2 => match st_X12_image_40 S x1 x2 with
    | Sum.inl r => r
    | Sum.inr q => lp_X12_image_40 n q.1 q.2.1 q.2.2
def lq_X12_image_40 : Nat → MS → Int32 → Int32 → Prop
  | 0, _, _, _ => False
  | n + 1, S, x1, x2 => ps_X12_image_40 S x1 x2 ∧ (match st_X12_image_40 S x1 x2 with
    | Sum.inl _ => True
    | Sum.inr q => lq_X12_image_40 n q.1 q.2.1 q.2.2)
def f_X12_image (S : MS) (x1 : Int32) : Int32 × MS := if (f_X12_in x1 0 1) = 0 then ((-9), S) else (lp_X12_image_40 100000 (mO (mO S (sA S.1 2 x1.toNatClampNeg (S.2.1.1 0))) (sA ((mO S (sA S.1 2 x1.toNatClampNeg (S.2.1.1 0))).1) 3 x1.toNatClampNeg (((mO S (sA S.1 2 x1.toNatClampNeg (S.2.1.1 0))).2.1).1 7))) x1 0)
def p_X12_image (S : MS) (x1 : Int32) : Prop := (p_X12_in x1 0 1) ∧ (if (f_X12_in x1 0 1) = 0 then True else (vp_in x1 2) ∧ (vp_in x1 2) ∧ (lq_X12_image_40 100000 (mO (mO S (sA S.1 2 x1.toNatClampNeg (S.2.1.1 0))) (sA ((mO S (sA S.1 2 x1.toNatClampNeg (S.2.1.1 0))).1) 3 x1.toNatClampNeg (((mO S (sA S.1 2 x1.toNatClampNeg (S.2.1.1 0))).2.1).1 7))) x1 0))
def e_X12_image : List Cond := [.methodLink RX12 1 yX12_in, .static yX12_in, .initialized RX12, .fieldLink RX12 23 "MotionFloorModel" "imageSeats" "[I", .fieldLink RX12 16 "MotionFloorModel" "hall" "LMotionFloorModel$Hall;", .fieldLink RX12 96 "MotionFloorModel$Hall" "seats" "I", .fieldLink RX12 27 "MotionFloorModel" "imageEntries" "[I", .fieldLink RX12 48 "MotionFloorModel$Hall" "entries" "I", .fieldLink RX12 30 "MotionFloorModel" "images" "[I", .fieldLink RX12 167 "MotionFloorModel$Hall" "minutes" "[I"]
def v_X12_image : List Cond := .code yX12_image cX12_image 3 (some .int) :: (e_X12_image ++ (wsX120 ++ (wsX110 ++ (v_X12_in ++ []))))
theorem te_X12_image : GoodIn lw_tbl e_X12_image := wGc z3 (wGc z2 (wGc z1 (wGc z308 (wGc z219 (wGc z270 (wGc z307 (wGc z246 (wGc z306 (wGc z297 (wG0))))))))))
theorem t_X12_image : GoodIn lw_tbl v_X12_image := wGc z309 (wGa te_X12_image (wGa zcX12 (wGa zcX11 (wGa t_X12_in (wG0)))))
set_option maxHeartbeats 4000000 in
set_option maxRecDepth 100000 in
theorem c_X12_image (l : Launch) (G : va_G) (K : Nat → ClassId) (m0 : Nat) (gm : Nat → Nat) (h1 : Nat) (g1 : Nat → Nat) (h2 : Nat) (g2 : Nat → Nat) (S0 : MS) (a1 : Int32) (sz : Nat) : Met l yX12_image v_X12_image ({ frames := 1, cells := 0, slots := 0, locals := 22 }) (va_Pc [.ref m0, .int a1] (mSt G K m0 gm h1 g1 h2 g2 sz S0 (p_X12_image S0 a1))) (va_Qi (fun (r : Int32) (u : MS) => (r, u) = f_X12_image S0 a1) (mB G K m0 gm h1 g1 h2 g2 (va_A (mW K m0 gm h1 g1 h2 g2 S0) sz)) (va_A (mW K m0 gm h1 g1 h2 g2 S0) sz)) 0 0 (va_A (mW K m0 gm h1 g1 h2 g2 S0) sz) := by
  refine Met.ofW (cc := cX12_image) (maxL := 3) (ret := (some .int)) (by decide) rfl ?_
  intro p e s m args below meth c s₁ B hml hv
  obtain ⟨rfl, ⟨hsz, hP, hK, hD0, hTE⟩, hp⟩ := hv
  have hx := B.exec
  have hb := B.bytes
  have hr := B.returns
  have hts := atoms_spec (ws := v_X12_image) B.pre
  have t_ := t_X12_image
  have mw : ∀ w ∈ e_X12_image, w ∈ v_X12_image := fun w h => List.mem_cons_of_mem _ (List.mem_append_left _ h)
  have hw := fun w (h : w ∈ e_X12_image) => hts w (mw w h)
  have iX12 : ∀ w ∈ wsX120, w ∈ v_X12_image := fun w h => List.mem_cons_of_mem _ (List.mem_append_right _ (List.mem_append_left _ h))
  have iX11 : ∀ w ∈ wsX110, w ∈ v_X12_image := fun w h => List.mem_cons_of_mem _ (List.mem_append_right _ (List.mem_append_right _ (List.mem_append_left _ h)))
  have j_X12_in : ∀ w ∈ v_X12_in, w ∈ v_X12_image := fun w h => List.mem_cons_of_mem _ (List.mem_append_right _ (List.mem_append_right _ (List.mem_append_right _ (List.mem_append_left _ h))))
  have hown : s.vm.findClass RX12 = some m.cls := findClass_of_methodNamed B.named
  have hlocks := B.notSynchronized
  subst hsz
  have hD := hD0.self (sz := s.heap.size)
  generalize hAe : va_A (mW K m0 gm h1 g1 h2 g2 S0) s.heap.size = A at hD ⊢
  have hA : ∀ q : Nat, s.heap.size ≤ q → A q := fun q h => by rw [← hAe]; exact Or.inr h
  have hS : va_S A s.heap s.heap [] := va_S.rf
  have hl := lv_entry ([.ref m0, .int a1]) (n := 3) (Nat.le_of_ble_eq_true rfl)
  rw [lg_entry_eq]
  generalize (lg_sl ([.ref m0, .int a1]) ++ List.replicate (3 - (lg_sl ([.ref m0, .int a1])).length) Slot.unset).toArray = ls at hl ⊢
  have hl : lv_has ls 3 [(0, .ref m0), (1, .int a1)] := hl
  refine wGen (fun Q hQ => ?_)
  obtain ⟨X, hX⟩ : ∃ X, f_X12_image S0 a1 = X := ⟨_, rfl⟩
  have L_40 : ∀ (n : Nat) (S : MS) (x1 x2 : Int32) (H : Heap) (locs : List Loc) (ls : Array Slot), lp_X12_image_40 n S x1 x2 = X → lq_X12_image_40 n S x1 x2 → va_P G vwCl (mW K m0 gm h1 g1 h2 g2 S) H → va_D A (mW K m0 gm h1 g1 h2 g2 S) → va_S A s.heap H locs → lv_has ls 3 [(0, .ref m0), (1, .int x1), (2, .int x2)] → W p l e ({ frames := 1, cells := 0, slots := 0, locals := 22 } : Room) s m #[Value.ref m0, Value.int a1] below meth c H locs 0 0 Q (F0 m 40 ls []) := by
    intro n1
    induction n1 with
    | zero => intro S x1 x2 H locs ls hE hp; exact False.elim hp
    | succ n1 ih1 =>
      intro S x1 x2 H locs ls hO1 hp hP hD hS hl
      rw [lp_X12_image_40] at hO1
      rw [lq_X12_image_40] at hp
      obtain ⟨hp, hq1⟩ := hp
      generalize hE : st_X12_image_40 S x1 x2 = Y1 at hO1 hq1
      unfold st_X12_image_40 at hE
      unfold ps_X12_image_40 at hp
      refine lv_iload_n hx hb dX12_image_40 rfl (lv_at hl 2 rfl) ?_
      refine lv_bipush (v := 6) hx hb dX12_image_41 (by decide) ?_
      refine lv_aload_n hx hb dX12_image_43 rfl (lv_at hl 0 rfl) ?_
      refine va_get (D := G) (ci := 9) (v := .ref h1) (C := RX12) (T := TX12) (N := 7) hx hb hts iX12 hown hK hP 0 rfl rfl 0 (by decide) (hw (.fieldLink RX12 16 "MotionFloorModel" "hall" "LMotionFloorModel$Hall;") (List.mem_of_getElem? (i := 4) rfl)) (fun _ h9 => h9) rfl dX12_image_44 ?_
      refine va_get (D := G) (ci := 8) (v := .int (S.2.1.1 7)) (C := RX11) (T := TX11) (N := 42) hx hb hts iX11 hown hK hP 5 rfl rfl 7 (by decide) (hw (.fieldLink RX12 48 "MotionFloorModel$Hall" "entries" "I") (List.mem_of_getElem? (i := 7) rfl)) (fun _ h9 => h9) rfl dX12_image_47 ?_
      refine lv_imul hx hb dX12_image_50 ?_
      refine lv_icmp_ge (tgt := 81) hx hb dX12_image_51 (by decide) (fun c5 => ?_) (fun c5 => ?_)
      · rw [if_pos c5] at hE hp
        subst hE
        have hE := hO1
        dsimp only at hE
        refine lv_aload_n hx hb dX12_image_81 rfl (lv_at hl 0 rfl) ?_
        refine va_get (D := G) (ci := 9) (v := .ref h1) (C := RX12) (T := TX12) (N := 7) hx hb hts iX12 hown hK hP 0 rfl rfl 0 (by decide) (hw (.fieldLink RX12 16 "MotionFloorModel" "hall" "LMotionFloorModel$Hall;") (List.mem_of_getElem? (i := 4) rfl)) (fun _ h9 => h9) rfl dX12_image_82 ?_
        refine va_get (D := G) (ci := 8) (v := .int (S.2.1.1 7)) (C := RX11) (T := TX11) (N := 42) hx hb hts iX11 hown hK hP 5 rfl rfl 7 (by decide) (hw (.fieldLink RX12 48 "MotionFloorModel$Hall" "entries" "I") (List.mem_of_getElem? (i := 7) rfl)) (fun _ h9 => h9) rfl dX12_image_85 ?_
        subst hQ
        exact W.iret (v := (S.2.1.1 7)) hx hb hr (fun t ht hW => ⟨⟨(S.2.1.1 7), S, rfl, hE.trans hX.symm, by rw [ht]; exact hP, hD⟩, hS.F ht⟩) hS.2.2 dX12_image_88
      · rw [if_neg c5] at hE hp
        refine lv_aload_n hx hb dX12_image_54 rfl (lv_at hl 0 rfl) ?_
        refine va_get (D := G) (ci := 9) (v := .ref (gm 4)) (C := RX12) (T := TX12) (N := 7) hx hb hts iX12 hown hK hP 0 rfl rfl 4 (by decide) (hw (.fieldLink RX12 30 "MotionFloorModel" "images" "[I") (List.mem_of_getElem? (i := 8) rfl)) (fun _ h9 => h9) rfl dX12_image_55 ?_
        refine lv_sipush (v := 3600) hx hb dX12_image_58 (by decide) ?_
        refine lv_iload_n hx hb dX12_image_61 rfl (lv_at hl 1 rfl) ?_
        refine lv_imul hx hb dX12_image_62 ?_
        refine lv_iload_n hx hb dX12_image_63 rfl (lv_at hl 2 rfl) ?_
        refine lv_iadd hx hb dX12_image_64 ?_
        refine lv_aload_n hx hb dX12_image_65 rfl (lv_at hl 0 rfl) ?_
        refine va_get (D := G) (ci := 9) (v := .ref h1) (C := RX12) (T := TX12) (N := 7) hx hb hts iX12 hown hK hP 0 rfl rfl 0 (by decide) (hw (.fieldLink RX12 16 "MotionFloorModel" "hall" "LMotionFloorModel$Hall;") (List.mem_of_getElem? (i := 4) rfl)) (fun _ h9 => h9) rfl dX12_image_66 ?_
        refine va_get (D := G) (ci := 8) (v := .ref (g1 40)) (C := RX11) (T := TX11) (N := 42) hx hb hts iX11 hown hK hP 5 rfl rfl 40 (by decide) (hw (.fieldLink RX12 167 "MotionFloorModel$Hall" "minutes" "[I") (List.mem_of_getElem? (i := 9) rfl)) (fun _ h9 => h9) rfl dX12_image_69 ?_
        refine lv_iload_n hx hb dX12_image_72 rfl (lv_at hl 2 rfl) ?_
        obtain ⟨hy6, hp⟩ := hp
        refine va_iald hx hb hK hP 31 0 rfl rfl hy6 dX12_image_73 ?_
        obtain ⟨hy7, hp⟩ := hp
        refine va_iast hx hb hK hP hD hS 3 0 rfl rfl hy7 dX12_image_74 (fun H locs hP hD hS => ?_)
        rw [mA_o_4] at hP hD
        refine lv_iinc (v := (x2 + 1)) (lv' := [(2, .int (x2 + 1)), (0, .ref m0), (1, .int x1)]) hx hb dX12_image_75 hl (k := 2) rfl rfl (by decide) rfl (fun ls hl => ?_)
        refine lv_goto (tgt := 40) hx hb dX12_image_78 (by decide) ?_
        subst hE
        dsimp only at hO1 hq1
        exact ih1 (mO S (sA S.1 4 ((3600 * x1) + x2).toNatClampNeg (S.2.1.2 40 x2.toNatClampNeg))) x1 (x2 + 1) _ _ _ hO1 hq1 hP hD hS (lv_sub hl [1, 2, 0] rfl)
  have B_M : ∀ (S : MS) (x1 : Int32) (H : Heap) (locs : List Loc) (ls : Array Slot), f_X12_image S x1 = X → p_X12_image S x1 → va_P G vwCl (mW K m0 gm h1 g1 h2 g2 S) H → va_D A (mW K m0 gm h1 g1 h2 g2 S) → va_S A s.heap H locs → lv_has ls 3 [(0, .ref m0), (1, .int x1)] → W p l e ({ frames := 1, cells := 0, slots := 0, locals := 22 } : Room) s m #[Value.ref m0, Value.int a1] below meth c H locs 0 0 Q (F0 m 0 ls []) := by
    intro S x1 H locs ls hE hp hP hD hS hl
    unfold f_X12_image at hE
    unfold p_X12_image at hp
    refine lv_iload_n hx hb dX12_image_0 rfl (lv_at hl 1 rfl) ?_
    refine lv_iconst (v := 0) hx hb dX12_image_1 (by decide) ?_
    refine lv_iconst (v := 1) hx hb dX12_image_2 (by decide) ?_
    obtain ⟨hy1, hp⟩ := hp
    refine nGoi (va_runS (As := [.int x1, .int 0, .int 1]) (rest := []) ⟨hx, hb, hml, hown, hts⟩ (c_X12_in l G K x1 0 1 _) (va_cwS 3 hts (wGS t_ (mw (.methodLink RX12 1 yX12_in) (List.mem_of_getElem? (i := 0) rfl)) (mw (.static yX12_in) (List.mem_of_getElem? (i := 1) rfl)) (mw (.initialized RX12) (List.mem_of_getElem? (i := 2) rfl)) j_X12_in) rfl rfl rfl (by decide +kernel) ⟨Nat.le_of_ble_eq_true rfl, Nat.le_of_ble_eq_true rfl⟩) (nPS hK hTE hy1) rfl rfl hl.1 rfl (lv_room (Nat.le_of_ble_eq_true rfl)) dX12_image_3 ⟨Nat.le_of_ble_eq_true rfl, Nat.le_of_ble_eq_true rfl⟩) hP hS hA (fun r H locs hv hP hS => ?_)
    subst hv
    refine lv_if_ne (tgt := 12) hx hb dX12_image_6 (by decide) (fun c2 => ?_) (fun c2 => ?_)
    · rw [if_neg c2] at hE hp
      refine lv_aload_n hx hb dX12_image_12 rfl (lv_at hl 0 rfl) ?_
      refine va_get (D := G) (ci := 9) (v := .ref (gm 2)) (C := RX12) (T := TX12) (N := 7) hx hb hts iX12 hown hK hP 0 rfl rfl 2 (by decide) (hw (.fieldLink RX12 23 "MotionFloorModel" "imageSeats" "[I") (List.mem_of_getElem? (i := 3) rfl)) (fun _ h9 => h9) rfl dX12_image_13 ?_
      refine lv_iload_n hx hb dX12_image_16 rfl (lv_at hl 1 rfl) ?_
      refine lv_aload_n hx hb dX12_image_17 rfl (lv_at hl 0 rfl) ?_
      refine va_get (D := G) (ci := 9) (v := .ref h1) (C := RX12) (T := TX12) (N := 7) hx hb hts iX12 hown hK hP 0 rfl rfl 0 (by decide) (hw (.fieldLink RX12 16 "MotionFloorModel" "hall" "LMotionFloorModel$Hall;") (List.mem_of_getElem? (i := 4) rfl)) (fun _ h9 => h9) rfl dX12_image_18 ?_
      refine va_get (D := G) (ci := 8) (v := .int (S.2.1.1 0)) (C := RX11) (T := TX11) (N := 42) hx hb hts iX11 hown hK hP 5 rfl rfl 0 (by decide) (hw (.fieldLink RX12 96 "MotionFloorModel$Hall" "seats" "I") (List.mem_of_getElem? (i := 5) rfl)) (fun _ h9 => h9) rfl dX12_image_21 ?_
      obtain ⟨hy3, hp⟩ := hp
      refine va_iast hx hb hK hP hD hS 1 0 rfl rfl hy3 dX12_image_24 (fun H locs hP hD hS => ?_)
      rw [mA_o_2] at hP hD
      refine lv_aload_n hx hb dX12_image_25 rfl (lv_at hl 0 rfl) ?_
      refine va_get (D := G) (ci := 9) (v := .ref (gm 3)) (C := RX12) (T := TX12) (N := 7) hx hb hts iX12 hown hK hP 0 rfl rfl 3 (by decide) (hw (.fieldLink RX12 27 "MotionFloorModel" "imageEntries" "[I") (List.mem_of_getElem? (i := 6) rfl)) (fun _ h9 => h9) rfl dX12_image_26 ?_
      refine lv_iload_n hx hb dX12_image_29 rfl (lv_at hl 1 rfl) ?_
      refine lv_aload_n hx hb dX12_image_30 rfl (lv_at hl 0 rfl) ?_
      refine va_get (D := G) (ci := 9) (v := .ref h1) (C := RX12) (T := TX12) (N := 7) hx hb hts iX12 hown hK hP 0 rfl rfl 0 (by decide) (hw (.fieldLink RX12 16 "MotionFloorModel" "hall" "LMotionFloorModel$Hall;") (List.mem_of_getElem? (i := 4) rfl)) (fun _ h9 => h9) rfl dX12_image_31 ?_
      refine va_get (D := G) (ci := 8) (v := .int (((mO S (sA S.1 2 x1.toNatClampNeg (S.2.1.1 0))).2.1).1 7)) (C := RX11) (T := TX11) (N := 42) hx hb hts iX11 hown hK hP 5 rfl rfl 7 (by decide) (hw (.fieldLink RX12 48 "MotionFloorModel$Hall" "entries" "I") (List.mem_of_getElem? (i := 7) rfl)) (fun _ h9 => h9) rfl dX12_image_34 ?_
      obtain ⟨hy4, hp⟩ := hp
      refine va_iast hx hb hK hP hD hS 2 0 rfl rfl hy4 dX12_image_37 (fun H locs hP hD hS => ?_)
      rw [mA_o_3] at hP hD
      refine lv_iconst (v := 0) hx hb dX12_image_38 (by decide) ?_
      refine lv_istore_n (lv' := [(2, .int 0), (0, .ref m0), (1, .int x1)]) hx hb dX12_image_39 rfl hl (by decide) rfl (fun ls hl => ?_)
      exact L_40 100000 (mO (mO S (sA S.1 2 x1.toNatClampNeg (S.2.1.1 0))) (sA ((mO S (sA S.1 2 x1.toNatClampNeg (S.2.1.1 0))).1) 3 x1.toNatClampNeg (((mO S (sA S.1 2 x1.toNatClampNeg (S.2.1.1 0))).2.1).1 7))) x1 0 _ _ _ hE hp hP hD hS (lv_sub hl [1, 2, 0] rfl)
    · rw [if_pos c2] at hE hp
      refine lv_bipush (v := (-9)) hx hb dX12_image_9 (by decide) ?_
      subst hQ
      exact W.iret (v := (-9)) hx hb hr (fun t ht hW => ⟨⟨(-9), S, rfl, hE.trans hX.symm, by rw [ht]; exact hP, hD⟩, hS.F ht⟩) hS.2.2 dX12_image_11
  exact B_M S0 a1 _ _ _ hX hp hP hD hS hl
theorem gdX12_back_0 : ckS (List.drop 0 cX12_back.data.toList) 0 [(0, .iload_n 1, 1), (1, .iconst 0, 1), (2, .iconst 1, 1), (3, .invokestatic 1, 3), (6, .ifCond .ne 6, 3), (9, .bipush (-9), 2), (11, .ireturn, 1), (12, .aload_n 0, 1), (13, .getfield 27, 3), (16, .iload_n 1, 1), (17, .iaload, 1), (18, .iconst (-1), 1), (19, .if_icmp .ne 6, 3), (22, .bipush (-11), 2), (24, .ireturn, 1), (25, .aload_n 0, 1), (26, .getfield 16, 3), (29, .aload_n 0, 1), (30, .getfield 23, 3), (33, .iload_n 1, 1), (34, .iaload, 1), (35, .invokevirtual 36, 3), (38, .iconst 0, 1), (39, .istore_n 2, 1), (40, .iload_n 2, 1), (41, .aload_n 0, 1), (42, .getfield 27, 3), (45, .iload_n 1, 1), (46, .iaload, 1), (47, .if_icmp .ge 67, 3), (50, .sipush 3600, 3), (53, .iload_n 1, 1), (54, .imul, 1), (55, .bipush 6, 2), (57, .iload_n 2, 1), (58, .imul, 1), (59, .iadd, 1), (60, .istore_n 3, 1), (61, .aload_n 0, 1), (62, .getfield 16, 3)] = true := by decide +kernel
theorem dX12_back_0 : decode cX12_back 0 = .ok (.iload_n 1, 1) := ckS_g gdX12_back_0 0 rfl
theorem dX12_back_1 : decode cX12_back 1 = .ok (.iconst 0, 1) := ckS_g gdX12_back_0 1 rfl
theorem dX12_back_2 : decode cX12_back 2 = .ok (.iconst 1, 1) := ckS_g gdX12_back_0 2 rfl
theorem dX12_back_3 : decode cX12_back 3 = .ok (.invokestatic 1, 3) := ckS_g gdX12_back_0 3 rfl
theorem dX12_back_6 : decode cX12_back 6 = .ok (.ifCond .ne 6, 3) := ckS_g gdX12_back_0 4 rfl
theorem dX12_back_9 : decode cX12_back 9 = .ok (.bipush (-9), 2) := ckS_g gdX12_back_0 5 rfl
theorem dX12_back_11 : decode cX12_back 11 = .ok (.ireturn, 1) := ckS_g gdX12_back_0 6 rfl
theorem dX12_back_12 : decode cX12_back 12 = .ok (.aload_n 0, 1) := ckS_g gdX12_back_0 7 rfl
theorem dX12_back_13 : decode cX12_back 13 = .ok (.getfield 27, 3) := ckS_g gdX12_back_0 8 rfl
theorem dX12_back_16 : decode cX12_back 16 = .ok (.iload_n 1, 1) := ckS_g gdX12_back_0 9 rfl
theorem dX12_back_17 : decode cX12_back 17 = .ok (.iaload, 1) := ckS_g gdX12_back_0 10 rfl
theorem dX12_back_18 : decode cX12_back 18 = .ok (.iconst (-1), 1) := ckS_g gdX12_back_0 11 rfl
theorem dX12_back_19 : decode cX12_back 19 = .ok (.if_icmp .ne 6, 3) := ckS_g gdX12_back_0 12 rfl
theorem dX12_back_22 : decode cX12_back 22 = .ok (.bipush (-11), 2) := ckS_g gdX12_back_0 13 rfl
theorem dX12_back_24 : decode cX12_back 24 = .ok (.ireturn, 1) := ckS_g gdX12_back_0 14 rfl
theorem dX12_back_25 : decode cX12_back 25 = .ok (.aload_n 0, 1) := ckS_g gdX12_back_0 15 rfl
theorem dX12_back_26 : decode cX12_back 26 = .ok (.getfield 16, 3) := ckS_g gdX12_back_0 16 rfl
theorem dX12_back_29 : decode cX12_back 29 = .ok (.aload_n 0, 1) := ckS_g gdX12_back_0 17 rfl
theorem dX12_back_30 : decode cX12_back 30 = .ok (.getfield 23, 3) := ckS_g gdX12_back_0 18 rfl
theorem dX12_back_33 : decode cX12_back 33 = .ok (.iload_n 1, 1) := ckS_g gdX12_back_0 19 rfl
theorem dX12_back_34 : decode cX12_back 34 = .ok (.iaload, 1) := ckS_g gdX12_back_0 20 rfl
theorem dX12_back_35 : decode cX12_back 35 = .ok (.invokevirtual 36, 3) := ckS_g gdX12_back_0 21 rfl
theorem dX12_back_38 : decode cX12_back 38 = .ok (.iconst 0, 1) := ckS_g gdX12_back_0 22 rfl
theorem dX12_back_39 : decode cX12_back 39 = .ok (.istore_n 2, 1) := ckS_g gdX12_back_0 23 rfl
theorem dX12_back_40 : decode cX12_back 40 = .ok (.iload_n 2, 1) := ckS_g gdX12_back_0 24 rfl
theorem dX12_back_41 : decode cX12_back 41 = .ok (.aload_n 0, 1) := ckS_g gdX12_back_0 25 rfl
theorem dX12_back_42 : decode cX12_back 42 = .ok (.getfield 27, 3) := ckS_g gdX12_back_0 26 rfl
theorem dX12_back_45 : decode cX12_back 45 = .ok (.iload_n 1, 1) := ckS_g gdX12_back_0 27 rfl
theorem dX12_back_46 : decode cX12_back 46 = .ok (.iaload, 1) := ckS_g gdX12_back_0 28 rfl
theorem dX12_back_47 : decode cX12_back 47 = .ok (.if_icmp .ge 67, 3) := ckS_g gdX12_back_0 29 rfl
theorem dX12_back_50 : decode cX12_back 50 = .ok (.sipush 3600, 3) := ckS_g gdX12_back_0 30 rfl
theorem dX12_back_53 : decode cX12_back 53 = .ok (.iload_n 1, 1) := ckS_g gdX12_back_0 31 rfl
theorem dX12_back_54 : decode cX12_back 54 = .ok (.imul, 1) := ckS_g gdX12_back_0 32 rfl
theorem dX12_back_55 : decode cX12_back 55 = .ok (.bipush 6, 2) := ckS_g gdX12_back_0 33 rfl
theorem dX12_back_57 : decode cX12_back 57 = .ok (.iload_n 2, 1) := ckS_g gdX12_back_0 34 rfl
theorem dX12_back_58 : decode cX12_back 58 = .ok (.imul, 1) := ckS_g gdX12_back_0 35 rfl
theorem dX12_back_59 : decode cX12_back 59 = .ok (.iadd, 1) := ckS_g gdX12_back_0 36 rfl
theorem dX12_back_60 : decode cX12_back 60 = .ok (.istore_n 3, 1) := ckS_g gdX12_back_0 37 rfl
theorem dX12_back_61 : decode cX12_back 61 = .ok (.aload_n 0, 1) := ckS_g gdX12_back_0 38 rfl
theorem dX12_back_62 : decode cX12_back 62 = .ok (.getfield 16, 3) := ckS_g gdX12_back_0 39 rfl
theorem gdX12_back_65 : ckS (List.drop 65 cX12_back.data.toList) 65 [(65, .aload_n 0, 1), (66, .getfield 30, 3), (69, .iload_n 3, 1), (70, .iaload, 1), (71, .aload_n 0, 1), (72, .getfield 30, 3), (75, .iload_n 3, 1), (76, .iconst 1, 1), (77, .iadd, 1), (78, .iaload, 1), (79, .aload_n 0, 1), (80, .getfield 30, 3), (83, .iload_n 3, 1), (84, .iconst 2, 1), (85, .iadd, 1), (86, .iaload, 1), (87, .aload_n 0, 1), (88, .getfield 30, 3), (91, .iload_n 3, 1), (92, .iconst 3, 1), (93, .iadd, 1), (94, .iaload, 1), (95, .aload_n 0, 1), (96, .getfield 30, 3), (99, .iload_n 3, 1), (100, .iconst 4, 1), (101, .iadd, 1), (102, .iaload, 1), (103, .invokevirtual 40, 3), (106, .istore 4, 2), (108, .iinc 2 1, 3), (111, .goto (-71), 3), (114, .aload_n 0, 1), (115, .getfield 16, 3), (118, .iconst 0, 1), (119, .putfield 52, 3), (122, .aload_n 0, 1), (123, .getfield 27, 3), (126, .iload_n 1, 1), (127, .iaload, 1)] = true := by decide +kernel
theorem dX12_back_65 : decode cX12_back 65 = .ok (.aload_n 0, 1) := ckS_g gdX12_back_65 0 rfl
theorem dX12_back_66 : decode cX12_back 66 = .ok (.getfield 30, 3) := ckS_g gdX12_back_65 1 rfl
theorem dX12_back_69 : decode cX12_back 69 = .ok (.iload_n 3, 1) := ckS_g gdX12_back_65 2 rfl
theorem dX12_back_70 : decode cX12_back 70 = .ok (.iaload, 1) := ckS_g gdX12_back_65 3 rfl
theorem dX12_back_71 : decode cX12_back 71 = .ok (.aload_n 0, 1) := ckS_g gdX12_back_65 4 rfl
theorem dX12_back_72 : decode cX12_back 72 = .ok (.getfield 30, 3) := ckS_g gdX12_back_65 5 rfl
theorem dX12_back_75 : decode cX12_back 75 = .ok (.iload_n 3, 1) := ckS_g gdX12_back_65 6 rfl
theorem dX12_back_76 : decode cX12_back 76 = .ok (.iconst 1, 1) := ckS_g gdX12_back_65 7 rfl
theorem dX12_back_77 : decode cX12_back 77 = .ok (.iadd, 1) := ckS_g gdX12_back_65 8 rfl
theorem dX12_back_78 : decode cX12_back 78 = .ok (.iaload, 1) := ckS_g gdX12_back_65 9 rfl
theorem dX12_back_79 : decode cX12_back 79 = .ok (.aload_n 0, 1) := ckS_g gdX12_back_65 10 rfl
theorem dX12_back_80 : decode cX12_back 80 = .ok (.getfield 30, 3) := ckS_g gdX12_back_65 11 rfl
theorem dX12_back_83 : decode cX12_back 83 = .ok (.iload_n 3, 1) := ckS_g gdX12_back_65 12 rfl
theorem dX12_back_84 : decode cX12_back 84 = .ok (.iconst 2, 1) := ckS_g gdX12_back_65 13 rfl
theorem dX12_back_85 : decode cX12_back 85 = .ok (.iadd, 1) := ckS_g gdX12_back_65 14 rfl
theorem dX12_back_86 : decode cX12_back 86 = .ok (.iaload, 1) := ckS_g gdX12_back_65 15 rfl
theorem dX12_back_87 : decode cX12_back 87 = .ok (.aload_n 0, 1) := ckS_g gdX12_back_65 16 rfl
theorem dX12_back_88 : decode cX12_back 88 = .ok (.getfield 30, 3) := ckS_g gdX12_back_65 17 rfl
theorem dX12_back_91 : decode cX12_back 91 = .ok (.iload_n 3, 1) := ckS_g gdX12_back_65 18 rfl
theorem dX12_back_92 : decode cX12_back 92 = .ok (.iconst 3, 1) := ckS_g gdX12_back_65 19 rfl
theorem dX12_back_93 : decode cX12_back 93 = .ok (.iadd, 1) := ckS_g gdX12_back_65 20 rfl
theorem dX12_back_94 : decode cX12_back 94 = .ok (.iaload, 1) := ckS_g gdX12_back_65 21 rfl
theorem dX12_back_95 : decode cX12_back 95 = .ok (.aload_n 0, 1) := ckS_g gdX12_back_65 22 rfl
theorem dX12_back_96 : decode cX12_back 96 = .ok (.getfield 30, 3) := ckS_g gdX12_back_65 23 rfl
theorem dX12_back_99 : decode cX12_back 99 = .ok (.iload_n 3, 1) := ckS_g gdX12_back_65 24 rfl
theorem dX12_back_100 : decode cX12_back 100 = .ok (.iconst 4, 1) := ckS_g gdX12_back_65 25 rfl
theorem dX12_back_101 : decode cX12_back 101 = .ok (.iadd, 1) := ckS_g gdX12_back_65 26 rfl
theorem dX12_back_102 : decode cX12_back 102 = .ok (.iaload, 1) := ckS_g gdX12_back_65 27 rfl
theorem dX12_back_103 : decode cX12_back 103 = .ok (.invokevirtual 40, 3) := ckS_g gdX12_back_65 28 rfl
theorem dX12_back_106 : decode cX12_back 106 = .ok (.istore 4, 2) := ckS_g gdX12_back_65 29 rfl
theorem dX12_back_108 : decode cX12_back 108 = .ok (.iinc 2 1, 3) := ckS_g gdX12_back_65 30 rfl
theorem dX12_back_111 : decode cX12_back 111 = .ok (.goto (-71), 3) := ckS_g gdX12_back_65 31 rfl
theorem dX12_back_114 : decode cX12_back 114 = .ok (.aload_n 0, 1) := ckS_g gdX12_back_65 32 rfl
theorem dX12_back_115 : decode cX12_back 115 = .ok (.getfield 16, 3) := ckS_g gdX12_back_65 33 rfl
theorem dX12_back_118 : decode cX12_back 118 = .ok (.iconst 0, 1) := ckS_g gdX12_back_65 34 rfl
theorem dX12_back_119 : decode cX12_back 119 = .ok (.putfield 52, 3) := ckS_g gdX12_back_65 35 rfl
theorem dX12_back_122 : decode cX12_back 122 = .ok (.aload_n 0, 1) := ckS_g gdX12_back_65 36 rfl
theorem dX12_back_123 : decode cX12_back 123 = .ok (.getfield 27, 3) := ckS_g gdX12_back_65 37 rfl
theorem dX12_back_126 : decode cX12_back 126 = .ok (.iload_n 1, 1) := ckS_g gdX12_back_65 38 rfl
theorem dX12_back_127 : decode cX12_back 127 = .ok (.iaload, 1) := ckS_g gdX12_back_65 39 rfl
theorem dX12_back_128 : decode cX12_back 128 = .ok (.ireturn, 1) := by decide +kernel
set_option maxRecDepth 100000 in
theorem z310 : wZ (.code yX12_back cX12_back 5 (some .int)) := ⟨wT7 (List.mem_of_getElem? (i := 44) rfl), Or.inl rfl⟩
def b_X12_back_a106 (S : MS) (x1 x2 x3 y0 : Int32) : (Int32 × MS) ⊕ (MS × Int32 × Int32) := Sum.inr (S, x1, (x2 + 1))
def q_X12_back_a106 (S : MS) (x1 x2 x3 y0 : Int32) : Prop := True
def st_X12_back_40 (S : MS) (x1 x2 : Int32) : (Int32 × MS) ⊕ (MS × Int32 × Int32) := if (S.1.2 3 x1.toNatClampNeg) ≤ x2 then Sum.inl (((((mH S (sI S.2.1 10 0)).1).2 3 x1.toNatClampNeg), (mH S (sI S.2.1 10 0)))) else (b_X12_back_a106 (mH S ((f_X11_act S.2.1 (S.1.2 4 ((3600 * x1) + (6 * x2)).toNatClampNeg) (S.1.2 4 (((3600 * x1) + (6 * x2)) + 1).toNatClampNeg) (S.1.2 4 (((3600 * x1) + (6 * x2)) + 2).toNatClampNeg) (S.1.2 4 (((3600 * x1) + (6 * x2)) + 3).toNatClampNeg) (S.1.2 4 (((3600 * x1) + (6 * x2)) + 4).toNatClampNeg)).2)) x1 x2 ((3600 * x1) + (6 * x2)) (f_X11_act S.2.1 (S.1.2 4 ((3600 * x1) + (6 * x2)).toNatClampNeg) (S.1.2 4 (((3600 * x1) + (6 * x2)) + 1).toNatClampNeg) (S.1.2 4 (((3600 * x1) + (6 * x2)) + 2).toNatClampNeg) (S.1.2 4 (((3600 * x1) + (6 * x2)) + 3).toNatClampNeg) (S.1.2 4 (((3600 * x1) + (6 * x2)) + 4).toNatClampNeg)).1)
def ps_X12_back_40 (S : MS) (x1 x2 : Int32) : Prop := (vp_in x1 2) ∧ (if (S.1.2 3 x1.toNatClampNeg) ≤ x2 then (vp_in x1 2) ∧ True else (vp_in ((3600 * x1) + (6 * x2)) 7200) ∧ (vp_in (((3600 * x1) + (6 * x2)) + 1) 7200) ∧ (vp_in (((3600 * x1) + (6 * x2)) + 2) 7200) ∧ (vp_in (((3600 * x1) + (6 * x2)) + 3) 7200) ∧ (vp_in (((3600 * x1) + (6 * x2)) + 4) 7200) ∧ (p_X11_act S.2.1 (S.1.2 4 ((3600 * x1) + (6 * x2)).toNatClampNeg) (S.1.2 4 (((3600 * x1) + (6 * x2)) + 1).toNatClampNeg) (S.1.2 4 (((3600 * x1) + (6 * x2)) + 2).toNatClampNeg) (S.1.2 4 (((3600 * x1) + (6 * x2)) + 3).toNatClampNeg) (S.1.2 4 (((3600 * x1) + (6 * x2)) + 4).toNatClampNeg)) ∧ (q_X12_back_a106 (mH S ((f_X11_act S.2.1 (S.1.2 4 ((3600 * x1) + (6 * x2)).toNatClampNeg) (S.1.2 4 (((3600 * x1) + (6 * x2)) + 1).toNatClampNeg) (S.1.2 4 (((3600 * x1) + (6 * x2)) + 2).toNatClampNeg) (S.1.2 4 (((3600 * x1) + (6 * x2)) + 3).toNatClampNeg) (S.1.2 4 (((3600 * x1) + (6 * x2)) + 4).toNatClampNeg)).2)) x1 x2 ((3600 * x1) + (6 * x2)) (f_X11_act S.2.1 (S.1.2 4 ((3600 * x1) + (6 * x2)).toNatClampNeg) (S.1.2 4 (((3600 * x1) + (6 * x2)) + 1).toNatClampNeg) (S.1.2 4 (((3600 * x1) + (6 * x2)) + 2).toNatClampNeg) (S.1.2 4 (((3600 * x1) + (6 * x2)) + 3).toNatClampNeg) (S.1.2 4 (((3600 * x1) + (6 * x2)) + 4).toNatClampNeg)).1))
def lp_X12_back_40 : Nat → MS → Int32 → Int32 → Int32 × MS
  | 0, S, _, _ => (0, S)
  | n + 1, S, x1, x2 => match st_X12_back_40 S x1 x2 with
    | Sum.inl r => r
    | Sum.inr q => lp_X12_back_40 n q.1 q.2.1 q.2.2
def lq_X12_back_40 : Nat → MS → Int32 → Int32 → Prop
  | 0, _, _, _ => False
  | n + 1, S, x1, x2 => ps_X12_back_40 S x1 x2 ∧ (match st_X12_back_40 S x1 x2 with
    | Sum.inl _ => True
    | Sum.inr q => lq_X12_back_40 n q.1 q.2.1 q.2.2)
def b_X12_back_a38 (S : MS) (x1 : Int32) : Int32 × MS := (lp_X12_back_40 100000 S x1 0)
def q_X12_back_a38 (S : MS) (x1 : Int32) : Prop := (lq_X12_back_40 100000 S x1 0)
def f_X12_back (S : MS) (x1 : Int32) : Int32 × MS := if (f_X12_in x1 0 1) = 0 then ((-9), S) else if (S.1.2 3 x1.toNatClampNeg) = (-1) then ((-11), S) else (b_X12_back_a38 (mH S ((f_X11_begin S.2.1 (S.1.2 2 x1.toNatClampNeg)).2)) x1)
def p_X12_back (S : MS) (x1 : Int32) : Prop := (p_X12_in x1 0 1) ∧ (if (f_X12_in x1 0 1) = 0 then True else (vp_in x1 2) ∧ (if (S.1.2 3 x1.toNatClampNeg) = (-1) then True else (vp_in x1 2) ∧ (p_X11_begin S.2.1 (S.1.2 2 x1.toNatClampNeg)) ∧ (q_X12_back_a38 (mH S ((f_X11_begin S.2.1 (S.1.2 2 x1.toNatClampNeg)).2)) x1)))
def e_X12_back : List Cond := [.methodLink RX12 1 yX12_in, .static yX12_in, .initialized RX12, .fieldLink RX12 27 "MotionFloorModel" "imageEntries" "[I", .fieldLink RX12 16 "MotionFloorModel" "hall" "LMotionFloorModel$Hall;", .fieldLink RX12 23 "MotionFloorModel" "imageSeats" "[I", .methodLink RX12 36 yX11_begin, .instanceMethod yX11_begin, .selects RX11 yX11_begin yX11_begin, .initialized RX11, .fieldLink RX12 52 "MotionFloorModel$Hall" "why" "I", .fieldLink RX12 30 "MotionFloorModel" "images" "[I", .methodLink RX12 40 yX11_act, .instanceMethod yX11_act, .selects RX11 yX11_act yX11_act]
def v_X12_back : List Cond := .code yX12_back cX12_back 5 (some .int) :: (e_X12_back ++ (wsX120 ++ (wsX110 ++ (v_X12_in ++ (v_X11_begin ++ (v_X11_act ++ []))))))
theorem te_X12_back : GoodIn lw_tbl e_X12_back := wGc z3 (wGc z2 (wGc z1 (wGc z307 (wGc z219 (wGc z308 (wGc z218 (wGc z217 (wGc z216 (wGc z51 (wGc z247 (wGc z306 (wGc z223 (wGc z222 (wGc z221 (wG0)))))))))))))))
theorem t_X12_back : GoodIn lw_tbl v_X12_back := wGc z310 (wGa te_X12_back (wGa zcX12 (wGa zcX11 (wGa t_X12_in (wGa t_X11_begin (wGa t_X11_act (wG0)))))))
set_option maxHeartbeats 4000000 in
set_option maxRecDepth 100000 in
theorem c_X12_back (l : Launch) (G : va_G) (K : Nat → ClassId) (m0 : Nat) (gm : Nat → Nat) (h1 : Nat) (g1 : Nat → Nat) (h2 : Nat) (g2 : Nat → Nat) (S0 : MS) (a1 : Int32) (sz : Nat) : Met l yX12_back v_X12_back ({ frames := 6, cells := 0, slots := 0, locals := 156 }) (va_Pc [.ref m0, .int a1] (mSt G K m0 gm h1 g1 h2 g2 sz S0 (p_X12_back S0 a1))) (va_Qi (fun (r : Int32) (u : MS) => (r, u) = f_X12_back S0 a1) (mB G K m0 gm h1 g1 h2 g2 (va_A (mW K m0 gm h1 g1 h2 g2 S0) sz)) (va_A (mW K m0 gm h1 g1 h2 g2 S0) sz)) 0 0 (va_A (mW K m0 gm h1 g1 h2 g2 S0) sz) := by
  refine Met.ofW (cc := cX12_back) (maxL := 5) (ret := (some .int)) (by decide) rfl ?_
  intro p e s m args below meth c s₁ B hml hv
  obtain ⟨rfl, ⟨hsz, hP, hK, hD0, hTE⟩, hp⟩ := hv
  have hx := B.exec
  have hb := B.bytes
  have hr := B.returns
  have hts := atoms_spec (ws := v_X12_back) B.pre
  have t_ := t_X12_back
  have mw : ∀ w ∈ e_X12_back, w ∈ v_X12_back := fun w h => List.mem_cons_of_mem _ (List.mem_append_left _ h)
  have hw := fun w (h : w ∈ e_X12_back) => hts w (mw w h)
  have iX12 : ∀ w ∈ wsX120, w ∈ v_X12_back := fun w h => List.mem_cons_of_mem _ (List.mem_append_right _ (List.mem_append_left _ h))
  have iX11 : ∀ w ∈ wsX110, w ∈ v_X12_back := fun w h => List.mem_cons_of_mem _ (List.mem_append_right _ (List.mem_append_right _ (List.mem_append_left _ h)))
  have j_X12_in : ∀ w ∈ v_X12_in, w ∈ v_X12_back := fun w h => List.mem_cons_of_mem _ (List.mem_append_right _ (List.mem_append_right _ (List.mem_append_right _ (List.mem_append_left _ h))))
  have j_X11_begin : ∀ w ∈ v_X11_begin, w ∈ v_X12_back := fun w h => List.mem_cons_of_mem _ (List.mem_append_right _ (List.mem_append_right _ (List.mem_append_right _ (List.mem_append_right _ (List.mem_append_left _ h)))))
  have j_X11_act : ∀ w ∈ v_X11_act, w ∈ v_X12_back := fun w h => List.mem_cons_of_mem _ (List.mem_append_right _ (List.mem_append_right _ (List.mem_append_right _ (List.mem_append_right _ (List.mem_append_right _ (List.mem_append_left _ h))))))
  have hown : s.vm.findClass RX12 = some m.cls := findClass_of_methodNamed B.named
  have hlocks := B.notSynchronized
  subst hsz
  have hD := hD0.self (sz := s.heap.size)
  generalize hAe : va_A (mW K m0 gm h1 g1 h2 g2 S0) s.heap.size = A at hD ⊢
  have hA : ∀ q : Nat, s.heap.size ≤ q → A q := fun q h => by rw [← hAe]; exact Or.inr h
  have hS : va_S A s.heap s.heap [] := va_S.rf
  have hl := lv_entry ([.ref m0, .int a1]) (n := 5) (Nat.le_of_ble_eq_true rfl)
  rw [lg_entry_eq]
  generalize (lg_sl ([.ref m0, .int a1]) ++ List.replicate (5 - (lg_sl ([.ref m0, .int a1])).length) Slot.unset).toArray = ls at hl ⊢
  have hl : lv_has ls 5 [(0, .ref m0), (1, .int a1)] := hl
  refine wGen (fun Q hQ => ?_)
  obtain ⟨X, hX⟩ : ∃ X, f_X12_back S0 a1 = X := ⟨_, rfl⟩
  have L_40 : ∀ (n : Nat) (S : MS) (x1 x2 : Int32) (H : Heap) (locs : List Loc) (ls : Array Slot), lp_X12_back_40 n S x1 x2 = X → lq_X12_back_40 n S x1 x2 → va_P G vwCl (mW K m0 gm h1 g1 h2 g2 S) H → va_D A (mW K m0 gm h1 g1 h2 g2 S) → va_S A s.heap H locs → lv_has ls 5 [(0, .ref m0), (1, .int x1), (2, .int x2)] → W p l e ({ frames := 6, cells := 0, slots := 0, locals := 156 } : Room) s m #[Value.ref m0, Value.int a1] below meth c H locs 0 0 Q (F0 m 40 ls []) := by
    intro n1
    induction n1 with
    | zero => intro S x1 x2 H locs ls hE hp; exact False.elim hp
    | succ n1 ih1 =>
      intro S x1 x2 H locs ls hO1 hp hP hD hS hl
      rw [lp_X12_back_40] at hO1
      rw [lq_X12_back_40] at hp
      obtain ⟨hp, hq1⟩ := hp
      generalize hE : st_X12_back_40 S x1 x2 = Y1 at hO1 hq1
      unfold st_X12_back_40 at hE
      unfold ps_X12_back_40 at hp
      refine lv_iload_n hx hb dX12_back_40 rfl (lv_at hl 2 rfl) ?_
      refine lv_aload_n hx hb dX12_back_41 rfl (lv_at hl 0 rfl) ?_
      refine va_get (D := G) (ci := 9) (v := .ref (gm 3)) (C := RX12) (T := TX12) (N := 7) hx hb hts iX12 hown hK hP 0 rfl rfl 3 (by decide) (hw (.fieldLink RX12 27 "MotionFloorModel" "imageEntries" "[I") (List.mem_of_getElem? (i := 3) rfl)) (fun _ h9 => h9) rfl dX12_back_42 ?_
      refine lv_iload_n hx hb dX12_back_45 rfl (lv_at hl 1 rfl) ?_
      obtain ⟨hy9, hp⟩ := hp
      refine va_iald hx hb hK hP 2 0 rfl rfl hy9 dX12_back_46 ?_
      refine lv_icmp_ge (tgt := 114) hx hb dX12_back_47 (by decide) (fun c10 => ?_) (fun c10 => ?_)
      · rw [if_pos c10] at hE hp
        subst hE
        have hE := hO1
        dsimp only at hE
        refine lv_aload_n hx hb dX12_back_114 rfl (lv_at hl 0 rfl) ?_
        refine va_get (D := G) (ci := 9) (v := .ref h1) (C := RX12) (T := TX12) (N := 7) hx hb hts iX12 hown hK hP 0 rfl rfl 0 (by decide) (hw (.fieldLink RX12 16 "MotionFloorModel" "hall" "LMotionFloorModel$Hall;") (List.mem_of_getElem? (i := 4) rfl)) (fun _ h9 => h9) rfl dX12_back_115 ?_
        refine lv_iconst (v := 0) hx hb dX12_back_118 (by decide) ?_
        refine va_put (D := G) (ci := 8) (v := .int 0) (ty := .int) (C := RX11) (T := TX11) (N := 42) hx hb hts iX11 tyX11 tyX11_ok nmX11 hown hK hP hD hS 5 rfl rfl 10 (by decide) (hw (.fieldLink RX12 52 "MotionFloorModel$Hall" "why" "I") (List.mem_of_getElem? (i := 10) rfl)) (fun _ h9 => h9) rfl (by decide +kernel) rfl rfl (Nat.le_of_ble_eq_true rfl) dX12_back_119 (fun H locs hP hD hS => ?_)
        rw [mI_h_10] at hP hD
        refine lv_aload_n hx hb dX12_back_122 rfl (lv_at hl 0 rfl) ?_
        refine va_get (D := G) (ci := 9) (v := .ref (gm 3)) (C := RX12) (T := TX12) (N := 7) hx hb hts iX12 hown hK hP 0 rfl rfl 3 (by decide) (hw (.fieldLink RX12 27 "MotionFloorModel" "imageEntries" "[I") (List.mem_of_getElem? (i := 3) rfl)) (fun _ h9 => h9) rfl dX12_back_123 ?_
        refine lv_iload_n hx hb dX12_back_126 rfl (lv_at hl 1 rfl) ?_
        obtain ⟨hy11, hp⟩ := hp
        refine va_iald hx hb hK hP 2 0 rfl rfl hy11 dX12_back_127 ?_
        subst hQ
        exact W.iret (v := (((mH S (sI S.2.1 10 0)).1).2 3 x1.toNatClampNeg)) hx hb hr (fun t ht hW => ⟨⟨(((mH S (sI S.2.1 10 0)).1).2 3 x1.toNatClampNeg), (mH S (sI S.2.1 10 0)), rfl, hE.trans hX.symm, by rw [ht]; exact hP, hD⟩, hS.F ht⟩) hS.2.2 dX12_back_128
      · rw [if_neg c10] at hE hp
        refine lv_sipush (v := 3600) hx hb dX12_back_50 (by decide) ?_
        refine lv_iload_n hx hb dX12_back_53 rfl (lv_at hl 1 rfl) ?_
        refine lv_imul hx hb dX12_back_54 ?_
        refine lv_bipush (v := 6) hx hb dX12_back_55 (by decide) ?_
        refine lv_iload_n hx hb dX12_back_57 rfl (lv_at hl 2 rfl) ?_
        refine lv_imul hx hb dX12_back_58 ?_
        refine lv_iadd hx hb dX12_back_59 ?_
        refine lv_istore_n (lv' := [(3, .int ((3600 * x1) + (6 * x2))), (0, .ref m0), (1, .int x1), (2, .int x2)]) hx hb dX12_back_60 rfl hl (by decide) rfl (fun ls hl => ?_)
        refine lv_aload_n hx hb dX12_back_61 rfl (lv_at hl 1 rfl) ?_
        refine va_get (D := G) (ci := 9) (v := .ref h1) (C := RX12) (T := TX12) (N := 7) hx hb hts iX12 hown hK hP 0 rfl rfl 0 (by decide) (hw (.fieldLink RX12 16 "MotionFloorModel" "hall" "LMotionFloorModel$Hall;") (List.mem_of_getElem? (i := 4) rfl)) (fun _ h9 => h9) rfl dX12_back_62 ?_
        refine lv_aload_n hx hb dX12_back_65 rfl (lv_at hl 1 rfl) ?_
        refine va_get (D := G) (ci := 9) (v := .ref (gm 4)) (C := RX12) (T := TX12) (N := 7) hx hb hts iX12 hown hK hP 0 rfl rfl 4 (by decide) (hw (.fieldLink RX12 30 "MotionFloorModel" "images" "[I") (List.mem_of_getElem? (i := 11) rfl)) (fun _ h9 => h9) rfl dX12_back_66 ?_
        refine lv_iload_n hx hb dX12_back_69 rfl (lv_at hl 0 rfl) ?_
        obtain ⟨hy12, hp⟩ := hp
        refine va_iald hx hb hK hP 3 0 rfl rfl hy12 dX12_back_70 ?_
        refine lv_aload_n hx hb dX12_back_71 rfl (lv_at hl 1 rfl) ?_
        refine va_get (D := G) (ci := 9) (v := .ref (gm 4)) (C := RX12) (T := TX12) (N := 7) hx hb hts iX12 hown hK hP 0 rfl rfl 4 (by decide) (hw (.fieldLink RX12 30 "MotionFloorModel" "images" "[I") (List.mem_of_getElem? (i := 11) rfl)) (fun _ h9 => h9) rfl dX12_back_72 ?_
        refine lv_iload_n hx hb dX12_back_75 rfl (lv_at hl 0 rfl) ?_
        refine lv_iconst (v := 1) hx hb dX12_back_76 (by decide) ?_
        refine lv_iadd hx hb dX12_back_77 ?_
        obtain ⟨hy13, hp⟩ := hp
        refine va_iald hx hb hK hP 3 0 rfl rfl hy13 dX12_back_78 ?_
        refine lv_aload_n hx hb dX12_back_79 rfl (lv_at hl 1 rfl) ?_
        refine va_get (D := G) (ci := 9) (v := .ref (gm 4)) (C := RX12) (T := TX12) (N := 7) hx hb hts iX12 hown hK hP 0 rfl rfl 4 (by decide) (hw (.fieldLink RX12 30 "MotionFloorModel" "images" "[I") (List.mem_of_getElem? (i := 11) rfl)) (fun _ h9 => h9) rfl dX12_back_80 ?_
        refine lv_iload_n hx hb dX12_back_83 rfl (lv_at hl 0 rfl) ?_
        refine lv_iconst (v := 2) hx hb dX12_back_84 (by decide) ?_
        refine lv_iadd hx hb dX12_back_85 ?_
        obtain ⟨hy14, hp⟩ := hp
        refine va_iald hx hb hK hP 3 0 rfl rfl hy14 dX12_back_86 ?_
        refine lv_aload_n hx hb dX12_back_87 rfl (lv_at hl 1 rfl) ?_
        refine va_get (D := G) (ci := 9) (v := .ref (gm 4)) (C := RX12) (T := TX12) (N := 7) hx hb hts iX12 hown hK hP 0 rfl rfl 4 (by decide) (hw (.fieldLink RX12 30 "MotionFloorModel" "images" "[I") (List.mem_of_getElem? (i := 11) rfl)) (fun _ h9 => h9) rfl dX12_back_88 ?_
        refine lv_iload_n hx hb dX12_back_91 rfl (lv_at hl 0 rfl) ?_
        refine lv_iconst (v := 3) hx hb dX12_back_92 (by decide) ?_
        refine lv_iadd hx hb dX12_back_93 ?_
        obtain ⟨hy15, hp⟩ := hp
        refine va_iald hx hb hK hP 3 0 rfl rfl hy15 dX12_back_94 ?_
        refine lv_aload_n hx hb dX12_back_95 rfl (lv_at hl 1 rfl) ?_
        refine va_get (D := G) (ci := 9) (v := .ref (gm 4)) (C := RX12) (T := TX12) (N := 7) hx hb hts iX12 hown hK hP 0 rfl rfl 4 (by decide) (hw (.fieldLink RX12 30 "MotionFloorModel" "images" "[I") (List.mem_of_getElem? (i := 11) rfl)) (fun _ h9 => h9) rfl dX12_back_96 ?_
        refine lv_iload_n hx hb dX12_back_99 rfl (lv_at hl 0 rfl) ?_
        refine lv_iconst (v := 4) hx hb dX12_back_100 (by decide) ?_
        refine lv_iadd hx hb dX12_back_101 ?_
        obtain ⟨hy16, hp⟩ := hp
        refine va_iald hx hb hK hP 3 0 rfl rfl hy16 dX12_back_102 ?_
        obtain ⟨hy17, hp⟩ := hp
        refine mGoi_h (va_runV (As := [.int (S.1.2 4 ((3600 * x1) + (6 * x2)).toNatClampNeg), .int (S.1.2 4 (((3600 * x1) + (6 * x2)) + 1).toNatClampNeg), .int (S.1.2 4 (((3600 * x1) + (6 * x2)) + 2).toNatClampNeg), .int (S.1.2 4 (((3600 * x1) + (6 * x2)) + 3).toNatClampNeg), .int (S.1.2 4 (((3600 * x1) + (6 * x2)) + 4).toNatClampNeg)]) (rest := []) ⟨hx, hb, hml, hown, hts⟩ (c_X11_act l G K h1 g1 S.2.1 (S.1.2 4 ((3600 * x1) + (6 * x2)).toNatClampNeg) (S.1.2 4 (((3600 * x1) + (6 * x2)) + 1).toNatClampNeg) (S.1.2 4 (((3600 * x1) + (6 * x2)) + 2).toNatClampNeg) (S.1.2 4 (((3600 * x1) + (6 * x2)) + 3).toNatClampNeg) (S.1.2 4 (((3600 * x1) + (6 * x2)) + 4).toNatClampNeg) _) (cwV 5 hts (wGV t_ (mw (.methodLink RX12 40 yX11_act) (List.mem_of_getElem? (i := 12) rfl)) (mw (.instanceMethod yX11_act) (List.mem_of_getElem? (i := 13) rfl)) (mw (.selects RX11 yX11_act yX11_act) (List.mem_of_getElem? (i := 14) rfl)) (mw (.initialized RX11) (List.mem_of_getElem? (i := 9) rfl)) j_X11_act) rfl rfl rfl (by decide +kernel) ⟨Nat.le_of_ble_eq_true rfl, Nat.le_of_ble_eq_true rfl⟩) (hPV hK hTE (mP_h hP) (mD_h hD) hy17) rfl rfl hl.1 rfl (lv_room (Nat.le_of_ble_eq_true rfl)) dX12_back_103 ⟨Nat.le_of_ble_eq_true rfl, Nat.le_of_ble_eq_true rfl⟩) hP hD hS hA (fun r19 u18 H locs hv hP hD hS => ?_)
        rw [← hv] at hE hp
        dsimp only at hE hp
        unfold b_X12_back_a106 at hE
        unfold q_X12_back_a106 at hp
        refine lv_istore (lv' := [(4, .int r19), (3, .int ((3600 * x1) + (6 * x2))), (0, .ref m0), (1, .int x1), (2, .int x2)]) hx hb dX12_back_106 hl (by decide) rfl (fun ls hl => ?_)
        refine lv_iinc (v := (x2 + 1)) (lv' := [(2, .int (x2 + 1)), (4, .int r19), (3, .int ((3600 * x1) + (6 * x2))), (0, .ref m0), (1, .int x1)]) hx hb dX12_back_108 hl (k := 4) rfl rfl (by decide) rfl (fun ls hl => ?_)
        refine lv_goto (tgt := 40) hx hb dX12_back_111 (by decide) ?_
        subst hE
        dsimp only at hO1 hq1
        exact ih1 (mH S u18) x1 (x2 + 1) _ _ _ hO1 hq1 hP hD hS (lv_sub hl [3, 4, 0] rfl)
  have B_M : ∀ (S : MS) (x1 : Int32) (H : Heap) (locs : List Loc) (ls : Array Slot), f_X12_back S x1 = X → p_X12_back S x1 → va_P G vwCl (mW K m0 gm h1 g1 h2 g2 S) H → va_D A (mW K m0 gm h1 g1 h2 g2 S) → va_S A s.heap H locs → lv_has ls 5 [(0, .ref m0), (1, .int x1)] → W p l e ({ frames := 6, cells := 0, slots := 0, locals := 156 } : Room) s m #[Value.ref m0, Value.int a1] below meth c H locs 0 0 Q (F0 m 0 ls []) := by
    intro S x1 H locs ls hE hp hP hD hS hl
    unfold f_X12_back at hE
    unfold p_X12_back at hp
    refine lv_iload_n hx hb dX12_back_0 rfl (lv_at hl 1 rfl) ?_
    refine lv_iconst (v := 0) hx hb dX12_back_1 (by decide) ?_
    refine lv_iconst (v := 1) hx hb dX12_back_2 (by decide) ?_
    obtain ⟨hy1, hp⟩ := hp
    refine nGoi (va_runS (As := [.int x1, .int 0, .int 1]) (rest := []) ⟨hx, hb, hml, hown, hts⟩ (c_X12_in l G K x1 0 1 _) (va_cwS 3 hts (wGS t_ (mw (.methodLink RX12 1 yX12_in) (List.mem_of_getElem? (i := 0) rfl)) (mw (.static yX12_in) (List.mem_of_getElem? (i := 1) rfl)) (mw (.initialized RX12) (List.mem_of_getElem? (i := 2) rfl)) j_X12_in) rfl rfl rfl (by decide +kernel) ⟨Nat.le_of_ble_eq_true rfl, Nat.le_of_ble_eq_true rfl⟩) (nPS hK hTE hy1) rfl rfl hl.1 rfl (lv_room (Nat.le_of_ble_eq_true rfl)) dX12_back_3 ⟨Nat.le_of_ble_eq_true rfl, Nat.le_of_ble_eq_true rfl⟩) hP hS hA (fun r H locs hv hP hS => ?_)
    subst hv
    refine lv_if_ne (tgt := 12) hx hb dX12_back_6 (by decide) (fun c2 => ?_) (fun c2 => ?_)
    · rw [if_neg c2] at hE hp
      refine lv_aload_n hx hb dX12_back_12 rfl (lv_at hl 0 rfl) ?_
      refine va_get (D := G) (ci := 9) (v := .ref (gm 3)) (C := RX12) (T := TX12) (N := 7) hx hb hts iX12 hown hK hP 0 rfl rfl 3 (by decide) (hw (.fieldLink RX12 27 "MotionFloorModel" "imageEntries" "[I") (List.mem_of_getElem? (i := 3) rfl)) (fun _ h9 => h9) rfl dX12_back_13 ?_
      refine lv_iload_n hx hb dX12_back_16 rfl (lv_at hl 1 rfl) ?_
      obtain ⟨hy3, hp⟩ := hp
      refine va_iald hx hb hK hP 2 0 rfl rfl hy3 dX12_back_17 ?_
      refine lv_iconst (v := (-1)) hx hb dX12_back_18 (by decide) ?_
      refine lv_icmp_ne (tgt := 25) hx hb dX12_back_19 (by decide) (fun c4 => ?_) (fun c4 => ?_)
      · rw [if_neg c4] at hE hp
        refine lv_aload_n hx hb dX12_back_25 rfl (lv_at hl 0 rfl) ?_
        refine va_get (D := G) (ci := 9) (v := .ref h1) (C := RX12) (T := TX12) (N := 7) hx hb hts iX12 hown hK hP 0 rfl rfl 0 (by decide) (hw (.fieldLink RX12 16 "MotionFloorModel" "hall" "LMotionFloorModel$Hall;") (List.mem_of_getElem? (i := 4) rfl)) (fun _ h9 => h9) rfl dX12_back_26 ?_
        refine lv_aload_n hx hb dX12_back_29 rfl (lv_at hl 0 rfl) ?_
        refine va_get (D := G) (ci := 9) (v := .ref (gm 2)) (C := RX12) (T := TX12) (N := 7) hx hb hts iX12 hown hK hP 0 rfl rfl 2 (by decide) (hw (.fieldLink RX12 23 "MotionFloorModel" "imageSeats" "[I") (List.mem_of_getElem? (i := 5) rfl)) (fun _ h9 => h9) rfl dX12_back_30 ?_
        refine lv_iload_n hx hb dX12_back_33 rfl (lv_at hl 1 rfl) ?_
        obtain ⟨hy5, hp⟩ := hp
        refine va_iald hx hb hK hP 1 0 rfl rfl hy5 dX12_back_34 ?_
        obtain ⟨hy6, hp⟩ := hp
        refine mGov_h (va_runV (As := [.int (S.1.2 2 x1.toNatClampNeg)]) (rest := []) ⟨hx, hb, hml, hown, hts⟩ (c_X11_begin l G K h1 g1 S.2.1 (S.1.2 2 x1.toNatClampNeg) _) (cwV 1 hts (wGV t_ (mw (.methodLink RX12 36 yX11_begin) (List.mem_of_getElem? (i := 6) rfl)) (mw (.instanceMethod yX11_begin) (List.mem_of_getElem? (i := 7) rfl)) (mw (.selects RX11 yX11_begin yX11_begin) (List.mem_of_getElem? (i := 8) rfl)) (mw (.initialized RX11) (List.mem_of_getElem? (i := 9) rfl)) j_X11_begin) rfl rfl rfl (by decide +kernel) ⟨Nat.le_of_ble_eq_true rfl, Nat.le_of_ble_eq_true rfl⟩) (hPV hK hTE (mP_h hP) (mD_h hD) hy6) rfl rfl hl.1 rfl (lv_room (Nat.le_of_ble_eq_true rfl)) dX12_back_35 ⟨Nat.le_of_ble_eq_true rfl, Nat.le_of_ble_eq_true rfl⟩) hP hD hS hA (fun u7 H locs hv hP hD hS => ?_)
        rw [← hv] at hE hp
        dsimp only at hE hp
        unfold b_X12_back_a38 at hE
        unfold q_X12_back_a38 at hp
        refine lv_iconst (v := 0) hx hb dX12_back_38 (by decide) ?_
        refine lv_istore_n (lv' := [(2, .int 0), (0, .ref m0), (1, .int x1)]) hx hb dX12_back_39 rfl hl (by decide) rfl (fun ls hl => ?_)
        exact L_40 100000 (mH S u7) x1 0 _ _ _ hE hp hP hD hS (lv_sub hl [1, 2, 0] rfl)
      · rw [if_pos c4] at hE hp
        refine lv_bipush (v := (-11)) hx hb dX12_back_22 (by decide) ?_
        subst hQ
        exact W.iret (v := (-11)) hx hb hr (fun t ht hW => ⟨⟨(-11), S, rfl, hE.trans hX.symm, by rw [ht]; exact hP, hD⟩, hS.F ht⟩) hS.2.2 dX12_back_24
    · rw [if_pos c2] at hE hp
      refine lv_bipush (v := (-9)) hx hb dX12_back_9 (by decide) ?_
      subst hQ
      exact W.iret (v := (-9)) hx hb hr (fun t ht hW => ⟨⟨(-9), S, rfl, hE.trans hX.symm, by rw [ht]; exact hP, hD⟩, hS.F ht⟩) hS.2.2 dX12_back_11
  exact B_M S0 a1 _ _ _ hX hp hP hD hS hl
theorem gdX2_has_0 : ckS (List.drop 0 cX2_has.data.toList) 0 [(0, .iload_n 1, 1), (1, .ifCond .lt 24, 3), (4, .iload_n 1, 1), (5, .aload_n 0, 1), (6, .getfield 19, 3), (9, .if_icmp .ge 16, 3), (12, .iload_n 1, 1), (13, .aload_n 0, 1), (14, .getfield 9, 3), (17, .arraylength, 1), (18, .if_icmp .ge 7, 3), (21, .iconst 1, 1), (22, .goto 4, 3), (25, .iconst 0, 1), (26, .ireturn, 1)] = true := by decide +kernel
theorem dX2_has_0 : decode cX2_has 0 = .ok (.iload_n 1, 1) := ckS_g gdX2_has_0 0 rfl
theorem dX2_has_1 : decode cX2_has 1 = .ok (.ifCond .lt 24, 3) := ckS_g gdX2_has_0 1 rfl
theorem dX2_has_4 : decode cX2_has 4 = .ok (.iload_n 1, 1) := ckS_g gdX2_has_0 2 rfl
theorem dX2_has_5 : decode cX2_has 5 = .ok (.aload_n 0, 1) := ckS_g gdX2_has_0 3 rfl
theorem dX2_has_6 : decode cX2_has 6 = .ok (.getfield 19, 3) := ckS_g gdX2_has_0 4 rfl
theorem dX2_has_9 : decode cX2_has 9 = .ok (.if_icmp .ge 16, 3) := ckS_g gdX2_has_0 5 rfl
theorem dX2_has_12 : decode cX2_has 12 = .ok (.iload_n 1, 1) := ckS_g gdX2_has_0 6 rfl
theorem dX2_has_13 : decode cX2_has 13 = .ok (.aload_n 0, 1) := ckS_g gdX2_has_0 7 rfl
theorem dX2_has_14 : decode cX2_has 14 = .ok (.getfield 9, 3) := ckS_g gdX2_has_0 8 rfl
theorem dX2_has_17 : decode cX2_has 17 = .ok (.arraylength, 1) := ckS_g gdX2_has_0 9 rfl
theorem dX2_has_18 : decode cX2_has 18 = .ok (.if_icmp .ge 7, 3) := ckS_g gdX2_has_0 10 rfl
theorem dX2_has_21 : decode cX2_has 21 = .ok (.iconst 1, 1) := ckS_g gdX2_has_0 11 rfl
theorem dX2_has_22 : decode cX2_has 22 = .ok (.goto 4, 3) := ckS_g gdX2_has_0 12 rfl
theorem dX2_has_25 : decode cX2_has 25 = .ok (.iconst 0, 1) := ckS_g gdX2_has_0 13 rfl
theorem dX2_has_26 : decode cX2_has 26 = .ok (.ireturn, 1) := ckS_g gdX2_has_0 14 rfl
set_option maxRecDepth 100000 in
theorem z311 : wZ (.lays "MotionFloor$House" "MotionFloor$House" "seats" "I") := ⟨wT1 (List.mem_of_getElem? (i := 59) (by decide +kernel)), Or.inl rfl⟩
set_option maxRecDepth 100000 in
theorem z312 : wZ (.laysFinal "MotionFloor$House" "MotionFloor$House" "there" "[Z") := ⟨wT1 (List.mem_of_getElem? (i := 61) (by decide +kernel)), Or.inl rfl⟩
set_option maxRecDepth 100000 in
theorem z313 : wZ (.lays "MotionFloor$House" "MotionFloor$House" "present" "I") := ⟨wT1 (List.mem_of_getElem? (i := 63) (by decide +kernel)), Or.inl rfl⟩
set_option maxRecDepth 100000 in
theorem z314 : wZ (.lays "MotionFloor$House" "MotionFloor$House" "chair" "I") := ⟨wT1 (List.mem_of_getElem? (i := 65) (by decide +kernel)), Or.inl rfl⟩
set_option maxRecDepth 100000 in
theorem z315 : wZ (.lays "MotionFloor$House" "MotionFloor$House" "quorum" "I") := ⟨wT1 (List.mem_of_getElem? (i := 67) (by decide +kernel)), Or.inl rfl⟩
set_option maxRecDepth 100000 in
theorem z316 : wZ (.lays "MotionFloor$House" "MotionFloor$House" "limit" "I") := ⟨wT1 (List.mem_of_getElem? (i := 69) (by decide +kernel)), Or.inl rfl⟩
set_option maxRecDepth 100000 in
theorem z317 : wZ (.lays "MotionFloor$House" "MotionFloor$House" "speaker" "I") := ⟨wT1 (List.mem_of_getElem? (i := 71) (by decide +kernel)), Or.inl rfl⟩
set_option maxRecDepth 100000 in
theorem z318 : wZ (.laysFinal "MotionFloor$House" "MotionFloor$House" "majorities" "[I") := ⟨wT1 (List.mem_of_getElem? (i := 73) (by decide +kernel)), Or.inl rfl⟩
theorem zcX2 : GoodIn lw_tbl wsX20 := by
  show GoodIn lw_tbl [.lays "MotionFloor$House" "MotionFloor$House" "seats" "I", .laysFinal "MotionFloor$House" "MotionFloor$House" "there" "[Z", .lays "MotionFloor$House" "MotionFloor$House" "present" "I", .lays "MotionFloor$House" "MotionFloor$House" "chair" "I", .lays "MotionFloor$House" "MotionFloor$House" "quorum" "I", .lays "MotionFloor$House" "MotionFloor$House" "limit" "I", .lays "MotionFloor$House" "MotionFloor$House" "speaker" "I", .laysFinal "MotionFloor$House" "MotionFloor$House" "majorities" "[I"]
  exact wGc z311 (wGc z312 (wGc z313 (wGc z314 (wGc z315 (wGc z316 (wGc z317 (wGc z318 (wG0))))))))
set_option maxRecDepth 100000 in
theorem z319 : wZ (.fieldLink RX2 9 "MotionFloor$House" "there" "[Z") := ⟨wT1 (List.mem_of_getElem? (i := 39) (by decide +kernel)), Or.inl rfl⟩
set_option maxRecDepth 100000 in
theorem z320 : wZ (.fieldLink RX2 19 "MotionFloor$House" "seats" "I") := ⟨wT1 (List.mem_of_getElem? (i := 37) (by decide +kernel)), Or.inl rfl⟩
set_option maxRecDepth 100000 in
theorem z321 : wZ (.code yX2_has cX2_has 2 (some .boolean)) := ⟨wT2 (List.mem_of_getElem? (i := 61) rfl), Or.inl rfl⟩
def b_X2_has_26 (S : HS) (x1 y0 : Int32) : Int32 × HS := (y0, S)
def q_X2_has_26 (S : HS) (x1 y0 : Int32) : Prop := (narrow .boolean (.int y0) = .int y0) ∧ True
def b_X2_has_25 (S : HS) (x1 : Int32) : Int32 × HS := (b_X2_has_26 S x1 0)
def q_X2_has_25 (S : HS) (x1 : Int32) : Prop := (q_X2_has_26 S x1 0)
def f_X2_has (S : HS) (x1 : Int32) : Int32 × HS := if x1 < 0 then (b_X2_has_25 S x1) else if (S.1 0) ≤ x1 then (b_X2_has_25 S x1) else if 200 ≤ x1 then (b_X2_has_25 S x1) else (b_X2_has_26 S x1 1)
def p_X2_has (S : HS) (x1 : Int32) : Prop := (if x1 < 0 then (q_X2_has_25 S x1) else (if (S.1 0) ≤ x1 then (q_X2_has_25 S x1) else (if 200 ≤ x1 then (q_X2_has_25 S x1) else (q_X2_has_26 S x1 1))))
def e_X2_has : List Cond := [.fieldLink RX2 19 "MotionFloor$House" "seats" "I", .fieldLink RX2 9 "MotionFloor$House" "there" "[Z"]
def v_X2_has : List Cond := .code yX2_has cX2_has 2 (some .boolean) :: (e_X2_has ++ (wsX20 ++ []))
theorem te_X2_has : GoodIn lw_tbl e_X2_has := wGc z320 (wGc z319 (wG0))
theorem t_X2_has : GoodIn lw_tbl v_X2_has := wGc z321 (wGa te_X2_has (wGa zcX2 (wG0)))
set_option maxHeartbeats 4000000 in
set_option maxRecDepth 100000 in
theorem c_X2_has (l : Launch) (G : va_G) (K : Nat → ClassId) (h : Nat) (g : Nat → Nat) (S0 : HS) (a1 : Int32) (sz : Nat) : Met l yX2_has v_X2_has ({ frames := 0, cells := 0, slots := 0, locals := 0 }) (va_Pc [.ref h, .int a1] (hoS G K h g sz S0 (p_X2_has S0 a1))) (va_Qi (fun (r : Int32) (u : HS) => (r, u) = f_X2_has S0 a1) (hoB G K h g (va_A (hoW K h g S0) sz)) (va_A (hoW K h g S0) sz)) 0 0 (va_A (hoW K h g S0) sz) := by
  refine Met.ofW (cc := cX2_has) (maxL := 2) (ret := (some .boolean)) (by decide) rfl ?_
  intro p e s m args below meth c s₁ B hml hv
  obtain ⟨rfl, ⟨hsz, hP, hK, hD0, hTE⟩, hp⟩ := hv
  have hx := B.exec
  have hb := B.bytes
  have hr := B.returns
  have hts := atoms_spec (ws := v_X2_has) B.pre
  have t_ := t_X2_has
  have mw : ∀ w ∈ e_X2_has, w ∈ v_X2_has := fun w h => List.mem_cons_of_mem _ (List.mem_append_left _ h)
  have hw := fun w (h : w ∈ e_X2_has) => hts w (mw w h)
  have iX2 : ∀ w ∈ wsX20, w ∈ v_X2_has := fun w h => List.mem_cons_of_mem _ (List.mem_append_right _ (List.mem_append_left _ h))
  have hown : s.vm.findClass RX2 = some m.cls := findClass_of_methodNamed B.named
  have hlocks := B.notSynchronized
  subst hsz
  have hD := hD0.self (sz := s.heap.size)
  generalize hAe : va_A (hoW K h g S0) s.heap.size = A at hD ⊢
  have hA : ∀ q : Nat, s.heap.size ≤ q → A q := fun q h => by rw [← hAe]; exact Or.inr h
  have hS : va_S A s.heap s.heap [] := va_S.rf
  have hl := lv_entry ([.ref h, .int a1]) (n := 2) (Nat.le_of_ble_eq_true rfl)
  rw [lg_entry_eq]
  generalize (lg_sl ([.ref h, .int a1]) ++ List.replicate (2 - (lg_sl ([.ref h, .int a1])).length) Slot.unset).toArray = ls at hl ⊢
  have hl : lv_has ls 2 [(0, .ref h), (1, .int a1)] := hl
  refine wGen (fun Q hQ => ?_)
  obtain ⟨X, hX⟩ : ∃ X, f_X2_has S0 a1 = X := ⟨_, rfl⟩
  have B_26 : ∀ (S : HS) (x1 y0 : Int32) (H : Heap) (locs : List Loc) (ls : Array Slot), b_X2_has_26 S x1 y0 = X → q_X2_has_26 S x1 y0 → va_P G vwCl (hoW K h g S) H → va_D A (hoW K h g S) → va_S A s.heap H locs → lv_has ls 2 [(0, .ref h), (1, .int x1)] → W p l e ({ frames := 0, cells := 0, slots := 0, locals := 0 } : Room) s m #[Value.ref h, Value.int a1] below meth c H locs 0 0 Q (F0 m 26 ls [.int y0]) := by
    intro S x1 y0 H locs ls hE hp hP hD hS hl
    unfold b_X2_has_26 at hE
    unfold q_X2_has_26 at hp
    obtain ⟨hy2, hp⟩ := hp
    subst hQ
    exact W.zret (v := y0) (ty := .boolean) hx hb hr hy2 (fun t ht hW => ⟨⟨y0, S, rfl, hE.trans hX.symm, by rw [ht]; exact hP, hD⟩, hS.F ht⟩) hS.2.2 dX2_has_26
  have B_25 : ∀ (S : HS) (x1 : Int32) (H : Heap) (locs : List Loc) (ls : Array Slot), b_X2_has_25 S x1 = X → q_X2_has_25 S x1 → va_P G vwCl (hoW K h g S) H → va_D A (hoW K h g S) → va_S A s.heap H locs → lv_has ls 2 [(0, .ref h), (1, .int x1)] → W p l e ({ frames := 0, cells := 0, slots := 0, locals := 0 } : Room) s m #[Value.ref h, Value.int a1] below meth c H locs 0 0 Q (F0 m 25 ls []) := by
    intro S x1 H locs ls hE hp hP hD hS hl
    unfold b_X2_has_25 at hE
    unfold q_X2_has_25 at hp
    refine lv_iconst (v := 0) hx hb dX2_has_25 (by decide) ?_
    exact B_26 S x1 0 _ _ _ hE hp hP hD hS (lv_sub hl [0, 1] rfl)
  have B_M : ∀ (S : HS) (x1 : Int32) (H : Heap) (locs : List Loc) (ls : Array Slot), f_X2_has S x1 = X → p_X2_has S x1 → va_P G vwCl (hoW K h g S) H → va_D A (hoW K h g S) → va_S A s.heap H locs → lv_has ls 2 [(0, .ref h), (1, .int x1)] → W p l e ({ frames := 0, cells := 0, slots := 0, locals := 0 } : Room) s m #[Value.ref h, Value.int a1] below meth c H locs 0 0 Q (F0 m 0 ls []) := by
    intro S x1 H locs ls hE hp hP hD hS hl
    unfold f_X2_has at hE
    unfold p_X2_has at hp
    refine lv_iload_n hx hb dX2_has_0 rfl (lv_at hl 1 rfl) ?_
    refine lv_if_lt (tgt := 25) hx hb dX2_has_1 (by decide) (fun c1 => ?_) (fun c1 => ?_)
    · rw [if_pos c1] at hE hp
      exact B_25 S x1 _ _ _ hE hp hP hD hS (lv_sub hl [0, 1] rfl)
    · rw [if_neg c1] at hE hp
      refine lv_iload_n hx hb dX2_has_4 rfl (lv_at hl 1 rfl) ?_
      refine lv_aload_n hx hb dX2_has_5 rfl (lv_at hl 0 rfl) ?_
      refine va_get (D := G) (ci := 1) (v := .int (S.1 0)) (C := RX2) (T := TX2) (N := 8) hx hb hts iX2 hown hK hP 0 rfl rfl 0 (by decide) (hw (.fieldLink RX2 19 "MotionFloor$House" "seats" "I") (List.mem_of_getElem? (i := 0) rfl)) (fun _ h9 => h9) rfl dX2_has_6 ?_
      refine lv_icmp_ge (tgt := 25) hx hb dX2_has_9 (by decide) (fun c3 => ?_) (fun c3 => ?_)
      · rw [if_pos c3] at hE hp
        exact B_25 S x1 _ _ _ hE hp hP hD hS (lv_sub hl [0, 1] rfl)
      · rw [if_neg c3] at hE hp
        refine lv_iload_n hx hb dX2_has_12 rfl (lv_at hl 1 rfl) ?_
        refine lv_aload_n hx hb dX2_has_13 rfl (lv_at hl 0 rfl) ?_
        refine va_get (D := G) (ci := 1) (v := .ref (g 1)) (C := RX2) (T := TX2) (N := 8) hx hb hts iX2 hown hK hP 0 rfl rfl 1 (by decide) (hw (.fieldLink RX2 9 "MotionFloor$House" "there" "[Z") (List.mem_of_getElem? (i := 1) rfl)) (fun _ h9 => h9) rfl dX2_has_14 ?_
        refine va_alen (v := 200) hx hb hK hP 1 1 rfl rfl rfl dX2_has_17 ?_
        refine lv_icmp_ge (tgt := 25) hx hb dX2_has_18 (by decide) (fun c4 => ?_) (fun c4 => ?_)
        · rw [if_pos c4] at hE hp
          exact B_25 S x1 _ _ _ hE hp hP hD hS (lv_sub hl [0, 1] rfl)
        · rw [if_neg c4] at hE hp
          refine lv_iconst (v := 1) hx hb dX2_has_21 (by decide) ?_
          refine lv_goto (tgt := 26) hx hb dX2_has_22 (by decide) ?_
          exact B_26 S x1 1 _ _ _ hE hp hP hD hS (lv_sub hl [0, 1] rfl)
  exact B_M S0 a1 _ _ _ hX hp hP hD hS hl
theorem gdX2_isThere_0 : ckS (List.drop 0 cX2_isThere.data.toList) 0 [(0, .iload_n 1, 1), (1, .ifCond .lt 33, 3), (4, .iload_n 1, 1), (5, .aload_n 0, 1), (6, .getfield 19, 3), (9, .if_icmp .ge 25, 3), (12, .iload_n 1, 1), (13, .aload_n 0, 1), (14, .getfield 9, 3), (17, .arraylength, 1), (18, .if_icmp .ge 16, 3), (21, .aload_n 0, 1), (22, .getfield 9, 3), (25, .iload_n 1, 1), (26, .baload, 1), (27, .ifCond .eq 7, 3), (30, .iconst 1, 1), (31, .goto 4, 3), (34, .iconst 0, 1), (35, .ireturn, 1)] = true := by decide +kernel
theorem dX2_isThere_0 : decode cX2_isThere 0 = .ok (.iload_n 1, 1) := ckS_g gdX2_isThere_0 0 rfl
theorem dX2_isThere_1 : decode cX2_isThere 1 = .ok (.ifCond .lt 33, 3) := ckS_g gdX2_isThere_0 1 rfl
theorem dX2_isThere_4 : decode cX2_isThere 4 = .ok (.iload_n 1, 1) := ckS_g gdX2_isThere_0 2 rfl
theorem dX2_isThere_5 : decode cX2_isThere 5 = .ok (.aload_n 0, 1) := ckS_g gdX2_isThere_0 3 rfl
theorem dX2_isThere_6 : decode cX2_isThere 6 = .ok (.getfield 19, 3) := ckS_g gdX2_isThere_0 4 rfl
theorem dX2_isThere_9 : decode cX2_isThere 9 = .ok (.if_icmp .ge 25, 3) := ckS_g gdX2_isThere_0 5 rfl
theorem dX2_isThere_12 : decode cX2_isThere 12 = .ok (.iload_n 1, 1) := ckS_g gdX2_isThere_0 6 rfl
theorem dX2_isThere_13 : decode cX2_isThere 13 = .ok (.aload_n 0, 1) := ckS_g gdX2_isThere_0 7 rfl
theorem dX2_isThere_14 : decode cX2_isThere 14 = .ok (.getfield 9, 3) := ckS_g gdX2_isThere_0 8 rfl
theorem dX2_isThere_17 : decode cX2_isThere 17 = .ok (.arraylength, 1) := ckS_g gdX2_isThere_0 9 rfl
theorem dX2_isThere_18 : decode cX2_isThere 18 = .ok (.if_icmp .ge 16, 3) := ckS_g gdX2_isThere_0 10 rfl
theorem dX2_isThere_21 : decode cX2_isThere 21 = .ok (.aload_n 0, 1) := ckS_g gdX2_isThere_0 11 rfl
theorem dX2_isThere_22 : decode cX2_isThere 22 = .ok (.getfield 9, 3) := ckS_g gdX2_isThere_0 12 rfl
theorem dX2_isThere_25 : decode cX2_isThere 25 = .ok (.iload_n 1, 1) := ckS_g gdX2_isThere_0 13 rfl
theorem dX2_isThere_26 : decode cX2_isThere 26 = .ok (.baload, 1) := ckS_g gdX2_isThere_0 14 rfl
theorem dX2_isThere_27 : decode cX2_isThere 27 = .ok (.ifCond .eq 7, 3) := ckS_g gdX2_isThere_0 15 rfl
theorem dX2_isThere_30 : decode cX2_isThere 30 = .ok (.iconst 1, 1) := ckS_g gdX2_isThere_0 16 rfl
theorem dX2_isThere_31 : decode cX2_isThere 31 = .ok (.goto 4, 3) := ckS_g gdX2_isThere_0 17 rfl
theorem dX2_isThere_34 : decode cX2_isThere 34 = .ok (.iconst 0, 1) := ckS_g gdX2_isThere_0 18 rfl
theorem dX2_isThere_35 : decode cX2_isThere 35 = .ok (.ireturn, 1) := ckS_g gdX2_isThere_0 19 rfl
set_option maxRecDepth 100000 in
theorem z322 : wZ (.code yX2_isThere cX2_isThere 2 (some .boolean)) := ⟨wT2 (List.mem_of_getElem? (i := 65) rfl), Or.inl rfl⟩
def b_X2_isThere_35 (S : HS) (x1 y0 : Int32) : Int32 × HS := (y0, S)
def q_X2_isThere_35 (S : HS) (x1 y0 : Int32) : Prop := (narrow .boolean (.int y0) = .int y0) ∧ True
def b_X2_isThere_34 (S : HS) (x1 : Int32) : Int32 × HS := (b_X2_isThere_35 S x1 0)
def q_X2_isThere_34 (S : HS) (x1 : Int32) : Prop := (q_X2_isThere_35 S x1 0)
def f_X2_isThere (S : HS) (x1 : Int32) : Int32 × HS := if x1 < 0 then (b_X2_isThere_34 S x1) else if (S.1 0) ≤ x1 then (b_X2_isThere_34 S x1) else if 200 ≤ x1 then (b_X2_isThere_34 S x1) else if (S.2 1 x1.toNatClampNeg) = 0 then (b_X2_isThere_34 S x1) else (b_X2_isThere_35 S x1 1)
def p_X2_isThere (S : HS) (x1 : Int32) : Prop := (if x1 < 0 then (q_X2_isThere_34 S x1) else (if (S.1 0) ≤ x1 then (q_X2_isThere_34 S x1) else (if 200 ≤ x1 then (q_X2_isThere_34 S x1) else (vp_in x1 200) ∧ (if (S.2 1 x1.toNatClampNeg) = 0 then (q_X2_isThere_34 S x1) else (q_X2_isThere_35 S x1 1)))))
def e_X2_isThere : List Cond := [.fieldLink RX2 19 "MotionFloor$House" "seats" "I", .fieldLink RX2 9 "MotionFloor$House" "there" "[Z"]
def v_X2_isThere : List Cond := .code yX2_isThere cX2_isThere 2 (some .boolean) :: (e_X2_isThere ++ (wsX20 ++ []))
theorem te_X2_isThere : GoodIn lw_tbl e_X2_isThere := wGc z320 (wGc z319 (wG0))
theorem t_X2_isThere : GoodIn lw_tbl v_X2_isThere := wGc z322 (wGa te_X2_isThere (wGa zcX2 (wG0)))
set_option maxHeartbeats 4000000 in
set_option maxRecDepth 100000 in
theorem c_X2_isThere (l : Launch) (G : va_G) (K : Nat → ClassId) (h : Nat) (g : Nat → Nat) (S0 : HS) (a1 : Int32) (sz : Nat) : Met l yX2_isThere v_X2_isThere ({ frames := 0, cells := 0, slots := 0, locals := 0 }) (va_Pc [.ref h, .int a1] (hoS G K h g sz S0 (p_X2_isThere S0 a1))) (va_Qi (fun (r : Int32) (u : HS) => (r, u) = f_X2_isThere S0 a1) (hoB G K h g (va_A (hoW K h g S0) sz)) (va_A (hoW K h g S0) sz)) 0 0 (va_A (hoW K h g S0) sz) := by
  refine Met.ofW (cc := cX2_isThere) (maxL := 2) (ret := (some .boolean)) (by decide) rfl ?_
  intro p e s m args below meth c s₁ B hml hv
  obtain ⟨rfl, ⟨hsz, hP, hK, hD0, hTE⟩, hp⟩ := hv
  have hx := B.exec
  have hb := B.bytes
  have hr := B.returns
  have hts := atoms_spec (ws := v_X2_isThere) B.pre
  have t_ := t_X2_isThere
  have mw : ∀ w ∈ e_X2_isThere, w ∈ v_X2_isThere := fun w h => List.mem_cons_of_mem _ (List.mem_append_left _ h)
  have hw := fun w (h : w ∈ e_X2_isThere) => hts w (mw w h)
  have iX2 : ∀ w ∈ wsX20, w ∈ v_X2_isThere := fun w h => List.mem_cons_of_mem _ (List.mem_append_right _ (List.mem_append_left _ h))
  have hown : s.vm.findClass RX2 = some m.cls := findClass_of_methodNamed B.named
  have hlocks := B.notSynchronized
  subst hsz
  have hD := hD0.self (sz := s.heap.size)
  generalize hAe : va_A (hoW K h g S0) s.heap.size = A at hD ⊢
  have hA : ∀ q : Nat, s.heap.size ≤ q → A q := fun q h => by rw [← hAe]; exact Or.inr h
  have hS : va_S A s.heap s.heap [] := va_S.rf
  have hl := lv_entry ([.ref h, .int a1]) (n := 2) (Nat.le_of_ble_eq_true rfl)
  rw [lg_entry_eq]
  generalize (lg_sl ([.ref h, .int a1]) ++ List.replicate (2 - (lg_sl ([.ref h, .int a1])).length) Slot.unset).toArray = ls at hl ⊢
  have hl : lv_has ls 2 [(0, .ref h), (1, .int a1)] := hl
  refine wGen (fun Q hQ => ?_)
  obtain ⟨X, hX⟩ : ∃ X, f_X2_isThere S0 a1 = X := ⟨_, rfl⟩
  have B_35 : ∀ (S : HS) (x1 y0 : Int32) (H : Heap) (locs : List Loc) (ls : Array Slot), b_X2_isThere_35 S x1 y0 = X → q_X2_isThere_35 S x1 y0 → va_P G vwCl (hoW K h g S) H → va_D A (hoW K h g S) → va_S A s.heap H locs → lv_has ls 2 [(0, .ref h), (1, .int x1)] → W p l e ({ frames := 0, cells := 0, slots := 0, locals := 0 } : Room) s m #[Value.ref h, Value.int a1] below meth c H locs 0 0 Q (F0 m 35 ls [.int y0]) := by
    intro S x1 y0 H locs ls hE hp hP hD hS hl
    unfold b_X2_isThere_35 at hE
    unfold q_X2_isThere_35 at hp
    obtain ⟨hy2, hp⟩ := hp
    subst hQ
    exact W.zret (v := y0) (ty := .boolean) hx hb hr hy2 (fun t ht hW => ⟨⟨y0, S, rfl, hE.trans hX.symm, by rw [ht]; exact hP, hD⟩, hS.F ht⟩) hS.2.2 dX2_isThere_35
  have B_34 : ∀ (S : HS) (x1 : Int32) (H : Heap) (locs : List Loc) (ls : Array Slot), b_X2_isThere_34 S x1 = X → q_X2_isThere_34 S x1 → va_P G vwCl (hoW K h g S) H → va_D A (hoW K h g S) → va_S A s.heap H locs → lv_has ls 2 [(0, .ref h), (1, .int x1)] → W p l e ({ frames := 0, cells := 0, slots := 0, locals := 0 } : Room) s m #[Value.ref h, Value.int a1] below meth c H locs 0 0 Q (F0 m 34 ls []) := by
    intro S x1 H locs ls hE hp hP hD hS hl
    unfold b_X2_isThere_34 at hE
    unfold q_X2_isThere_34 at hp
    refine lv_iconst (v := 0) hx hb dX2_isThere_34 (by decide) ?_
    exact B_35 S x1 0 _ _ _ hE hp hP hD hS (lv_sub hl [0, 1] rfl)
  have B_M : ∀ (S : HS) (x1 : Int32) (H : Heap) (locs : List Loc) (ls : Array Slot), f_X2_isThere S x1 = X → p_X2_isThere S x1 → va_P G vwCl (hoW K h g S) H → va_D A (hoW K h g S) → va_S A s.heap H locs → lv_has ls 2 [(0, .ref h), (1, .int x1)] → W p l e ({ frames := 0, cells := 0, slots := 0, locals := 0 } : Room) s m #[Value.ref h, Value.int a1] below meth c H locs 0 0 Q (F0 m 0 ls []) := by
    intro S x1 H locs ls hE hp hP hD hS hl
    unfold f_X2_isThere at hE
    unfold p_X2_isThere at hp
    refine lv_iload_n hx hb dX2_isThere_0 rfl (lv_at hl 1 rfl) ?_
    refine lv_if_lt (tgt := 34) hx hb dX2_isThere_1 (by decide) (fun c1 => ?_) (fun c1 => ?_)
    · rw [if_pos c1] at hE hp
      exact B_34 S x1 _ _ _ hE hp hP hD hS (lv_sub hl [0, 1] rfl)
    · rw [if_neg c1] at hE hp
      refine lv_iload_n hx hb dX2_isThere_4 rfl (lv_at hl 1 rfl) ?_
      refine lv_aload_n hx hb dX2_isThere_5 rfl (lv_at hl 0 rfl) ?_
      refine va_get (D := G) (ci := 1) (v := .int (S.1 0)) (C := RX2) (T := TX2) (N := 8) hx hb hts iX2 hown hK hP 0 rfl rfl 0 (by decide) (hw (.fieldLink RX2 19 "MotionFloor$House" "seats" "I") (List.mem_of_getElem? (i := 0) rfl)) (fun _ h9 => h9) rfl dX2_isThere_6 ?_
      refine lv_icmp_ge (tgt := 34) hx hb dX2_isThere_9 (by decide) (fun c3 => ?_) (fun c3 => ?_)
      · rw [if_pos c3] at hE hp
        exact B_34 S x1 _ _ _ hE hp hP hD hS (lv_sub hl [0, 1] rfl)
      · rw [if_neg c3] at hE hp
        refine lv_iload_n hx hb dX2_isThere_12 rfl (lv_at hl 1 rfl) ?_
        refine lv_aload_n hx hb dX2_isThere_13 rfl (lv_at hl 0 rfl) ?_
        refine va_get (D := G) (ci := 1) (v := .ref (g 1)) (C := RX2) (T := TX2) (N := 8) hx hb hts iX2 hown hK hP 0 rfl rfl 1 (by decide) (hw (.fieldLink RX2 9 "MotionFloor$House" "there" "[Z") (List.mem_of_getElem? (i := 1) rfl)) (fun _ h9 => h9) rfl dX2_isThere_14 ?_
        refine va_alen (v := 200) hx hb hK hP 1 1 rfl rfl rfl dX2_isThere_17 ?_
        refine lv_icmp_ge (tgt := 34) hx hb dX2_isThere_18 (by decide) (fun c4 => ?_) (fun c4 => ?_)
        · rw [if_pos c4] at hE hp
          exact B_34 S x1 _ _ _ hE hp hP hD hS (lv_sub hl [0, 1] rfl)
        · rw [if_neg c4] at hE hp
          refine lv_aload_n hx hb dX2_isThere_21 rfl (lv_at hl 0 rfl) ?_
          refine va_get (D := G) (ci := 1) (v := .ref (g 1)) (C := RX2) (T := TX2) (N := 8) hx hb hts iX2 hown hK hP 0 rfl rfl 1 (by decide) (hw (.fieldLink RX2 9 "MotionFloor$House" "there" "[Z") (List.mem_of_getElem? (i := 1) rfl)) (fun _ h9 => h9) rfl dX2_isThere_22 ?_
          refine lv_iload_n hx hb dX2_isThere_25 rfl (lv_at hl 1 rfl) ?_
          obtain ⟨hy5, hp⟩ := hp
          refine va_zald hx hb hK hP 1 1 rfl rfl hy5 dX2_isThere_26 ?_
          refine lv_if_eq (tgt := 34) hx hb dX2_isThere_27 (by decide) (fun c6 => ?_) (fun c6 => ?_)
          · rw [if_pos c6] at hE hp
            exact B_34 S x1 _ _ _ hE hp hP hD hS (lv_sub hl [0, 1] rfl)
          · rw [if_neg c6] at hE hp
            refine lv_iconst (v := 1) hx hb dX2_isThere_30 (by decide) ?_
            refine lv_goto (tgt := 35) hx hb dX2_isThere_31 (by decide) ?_
            exact B_35 S x1 1 _ _ _ hE hp hP hD hS (lv_sub hl [0, 1] rfl)
  exact B_M S0 a1 _ _ _ hX hp hP hD hS hl
theorem gdX2_hasFloor_0 : ckS (List.drop 0 cX2_hasFloor.data.toList) 0 [(0, .iload_n 1, 1), (1, .iconst (-1), 1), (2, .if_icmp .eq 15, 3), (5, .iload_n 1, 1), (6, .aload_n 0, 1), (7, .getfield 44, 3), (10, .if_icmp .ne 7, 3), (13, .iconst 1, 1), (14, .goto 4, 3), (17, .iconst 0, 1), (18, .ireturn, 1)] = true := by decide +kernel
theorem dX2_hasFloor_0 : decode cX2_hasFloor 0 = .ok (.iload_n 1, 1) := ckS_g gdX2_hasFloor_0 0 rfl
theorem dX2_hasFloor_1 : decode cX2_hasFloor 1 = .ok (.iconst (-1), 1) := ckS_g gdX2_hasFloor_0 1 rfl
theorem dX2_hasFloor_2 : decode cX2_hasFloor 2 = .ok (.if_icmp .eq 15, 3) := ckS_g gdX2_hasFloor_0 2 rfl
theorem dX2_hasFloor_5 : decode cX2_hasFloor 5 = .ok (.iload_n 1, 1) := ckS_g gdX2_hasFloor_0 3 rfl
theorem dX2_hasFloor_6 : decode cX2_hasFloor 6 = .ok (.aload_n 0, 1) := ckS_g gdX2_hasFloor_0 4 rfl
theorem dX2_hasFloor_7 : decode cX2_hasFloor 7 = .ok (.getfield 44, 3) := ckS_g gdX2_hasFloor_0 5 rfl
theorem dX2_hasFloor_10 : decode cX2_hasFloor 10 = .ok (.if_icmp .ne 7, 3) := ckS_g gdX2_hasFloor_0 6 rfl
theorem dX2_hasFloor_13 : decode cX2_hasFloor 13 = .ok (.iconst 1, 1) := ckS_g gdX2_hasFloor_0 7 rfl
theorem dX2_hasFloor_14 : decode cX2_hasFloor 14 = .ok (.goto 4, 3) := ckS_g gdX2_hasFloor_0 8 rfl
theorem dX2_hasFloor_17 : decode cX2_hasFloor 17 = .ok (.iconst 0, 1) := ckS_g gdX2_hasFloor_0 9 rfl
theorem dX2_hasFloor_18 : decode cX2_hasFloor 18 = .ok (.ireturn, 1) := ckS_g gdX2_hasFloor_0 10 rfl
set_option maxRecDepth 100000 in
theorem z323 : wZ (.fieldLink RX2 44 "MotionFloor$House" "speaker" "I") := ⟨wT1 (List.mem_of_getElem? (i := 55) (by decide +kernel)), Or.inl rfl⟩
set_option maxRecDepth 100000 in
theorem z324 : wZ (.code yX2_hasFloor cX2_hasFloor 2 (some .boolean)) := ⟨wT2 (List.mem_of_getElem? (i := 89) rfl), Or.inl rfl⟩
def b_X2_hasFloor_18 (S : HS) (x1 y0 : Int32) : Int32 × HS := (y0, S)
def q_X2_hasFloor_18 (S : HS) (x1 y0 : Int32) : Prop := (narrow .boolean (.int y0) = .int y0) ∧ True
def b_X2_hasFloor_17 (S : HS) (x1 : Int32) : Int32 × HS := (b_X2_hasFloor_18 S x1 0)
def q_X2_hasFloor_17 (S : HS) (x1 : Int32) : Prop := (q_X2_hasFloor_18 S x1 0)
def f_X2_hasFloor (S : HS) (x1 : Int32) : Int32 × HS := if x1 = (-1) then (b_X2_hasFloor_17 S x1) else if x1 = (S.1 6) then (b_X2_hasFloor_18 S x1 1) else (b_X2_hasFloor_17 S x1)
def p_X2_hasFloor (S : HS) (x1 : Int32) : Prop := (if x1 = (-1) then (q_X2_hasFloor_17 S x1) else (if x1 = (S.1 6) then (q_X2_hasFloor_18 S x1 1) else (q_X2_hasFloor_17 S x1)))
def e_X2_hasFloor : List Cond := [.fieldLink RX2 44 "MotionFloor$House" "speaker" "I"]
def v_X2_hasFloor : List Cond := .code yX2_hasFloor cX2_hasFloor 2 (some .boolean) :: (e_X2_hasFloor ++ (wsX20 ++ []))
theorem te_X2_hasFloor : GoodIn lw_tbl e_X2_hasFloor := wGc z323 (wG0)
theorem t_X2_hasFloor : GoodIn lw_tbl v_X2_hasFloor := wGc z324 (wGa te_X2_hasFloor (wGa zcX2 (wG0)))
set_option maxHeartbeats 4000000 in
set_option maxRecDepth 100000 in
theorem c_X2_hasFloor (l : Launch) (G : va_G) (K : Nat → ClassId) (h : Nat) (g : Nat → Nat) (S0 : HS) (a1 : Int32) (sz : Nat) : Met l yX2_hasFloor v_X2_hasFloor ({ frames := 0, cells := 0, slots := 0, locals := 0 }) (va_Pc [.ref h, .int a1] (hoS G K h g sz S0 (p_X2_hasFloor S0 a1))) (va_Qi (fun (r : Int32) (u : HS) => (r, u) = f_X2_hasFloor S0 a1) (hoB G K h g (va_A (hoW K h g S0) sz)) (va_A (hoW K h g S0) sz)) 0 0 (va_A (hoW K h g S0) sz) := by
  refine Met.ofW (cc := cX2_hasFloor) (maxL := 2) (ret := (some .boolean)) (by decide) rfl ?_
  intro p e s m args below meth c s₁ B hml hv
  obtain ⟨rfl, ⟨hsz, hP, hK, hD0, hTE⟩, hp⟩ := hv
  have hx := B.exec
  have hb := B.bytes
  have hr := B.returns
  have hts := atoms_spec (ws := v_X2_hasFloor) B.pre
  have t_ := t_X2_hasFloor
  have mw : ∀ w ∈ e_X2_hasFloor, w ∈ v_X2_hasFloor := fun w h => List.mem_cons_of_mem _ (List.mem_append_left _ h)
  have hw := fun w (h : w ∈ e_X2_hasFloor) => hts w (mw w h)
  have iX2 : ∀ w ∈ wsX20, w ∈ v_X2_hasFloor := fun w h => List.mem_cons_of_mem _ (List.mem_append_right _ (List.mem_append_left _ h))
  have hown : s.vm.findClass RX2 = some m.cls := findClass_of_methodNamed B.named
  have hlocks := B.notSynchronized
  subst hsz
  have hD := hD0.self (sz := s.heap.size)
  generalize hAe : va_A (hoW K h g S0) s.heap.size = A at hD ⊢
  have hA : ∀ q : Nat, s.heap.size ≤ q → A q := fun q h => by rw [← hAe]; exact Or.inr h
  have hS : va_S A s.heap s.heap [] := va_S.rf
  have hl := lv_entry ([.ref h, .int a1]) (n := 2) (Nat.le_of_ble_eq_true rfl)
  rw [lg_entry_eq]
  generalize (lg_sl ([.ref h, .int a1]) ++ List.replicate (2 - (lg_sl ([.ref h, .int a1])).length) Slot.unset).toArray = ls at hl ⊢
  have hl : lv_has ls 2 [(0, .ref h), (1, .int a1)] := hl
  refine wGen (fun Q hQ => ?_)
  obtain ⟨X, hX⟩ : ∃ X, f_X2_hasFloor S0 a1 = X := ⟨_, rfl⟩
  have B_18 : ∀ (S : HS) (x1 y0 : Int32) (H : Heap) (locs : List Loc) (ls : Array Slot), b_X2_hasFloor_18 S x1 y0 = X → q_X2_hasFloor_18 S x1 y0 → va_P G vwCl (hoW K h g S) H → va_D A (hoW K h g S) → va_S A s.heap H locs → lv_has ls 2 [(0, .ref h), (1, .int x1)] → W p l e ({ frames := 0, cells := 0, slots := 0, locals := 0 } : Room) s m #[Value.ref h, Value.int a1] below meth c H locs 0 0 Q (F0 m 18 ls [.int y0]) := by
    intro S x1 y0 H locs ls hE hp hP hD hS hl
    unfold b_X2_hasFloor_18 at hE
    unfold q_X2_hasFloor_18 at hp
    obtain ⟨hy2, hp⟩ := hp
    subst hQ
    exact W.zret (v := y0) (ty := .boolean) hx hb hr hy2 (fun t ht hW => ⟨⟨y0, S, rfl, hE.trans hX.symm, by rw [ht]; exact hP, hD⟩, hS.F ht⟩) hS.2.2 dX2_hasFloor_18
  have B_17 : ∀ (S : HS) (x1 : Int32) (H : Heap) (locs : List Loc) (ls : Array Slot), b_X2_hasFloor_17 S x1 = X → q_X2_hasFloor_17 S x1 → va_P G vwCl (hoW K h g S) H → va_D A (hoW K h g S) → va_S A s.heap H locs → lv_has ls 2 [(0, .ref h), (1, .int x1)] → W p l e ({ frames := 0, cells := 0, slots := 0, locals := 0 } : Room) s m #[Value.ref h, Value.int a1] below meth c H locs 0 0 Q (F0 m 17 ls []) := by
    intro S x1 H locs ls hE hp hP hD hS hl
    unfold b_X2_hasFloor_17 at hE
    unfold q_X2_hasFloor_17 at hp
    refine lv_iconst (v := 0) hx hb dX2_hasFloor_17 (by decide) ?_
    exact B_18 S x1 0 _ _ _ hE hp hP hD hS (lv_sub hl [0, 1] rfl)
  have B_M : ∀ (S : HS) (x1 : Int32) (H : Heap) (locs : List Loc) (ls : Array Slot), f_X2_hasFloor S x1 = X → p_X2_hasFloor S x1 → va_P G vwCl (hoW K h g S) H → va_D A (hoW K h g S) → va_S A s.heap H locs → lv_has ls 2 [(0, .ref h), (1, .int x1)] → W p l e ({ frames := 0, cells := 0, slots := 0, locals := 0 } : Room) s m #[Value.ref h, Value.int a1] below meth c H locs 0 0 Q (F0 m 0 ls []) := by
    intro S x1 H locs ls hE hp hP hD hS hl
    unfold f_X2_hasFloor at hE
    unfold p_X2_hasFloor at hp
    refine lv_iload_n hx hb dX2_hasFloor_0 rfl (lv_at hl 1 rfl) ?_
    refine lv_iconst (v := (-1)) hx hb dX2_hasFloor_1 (by decide) ?_
    refine lv_icmp_eq (tgt := 17) hx hb dX2_hasFloor_2 (by decide) (fun c1 => ?_) (fun c1 => ?_)
    · rw [if_pos c1] at hE hp
      exact B_17 S x1 _ _ _ hE hp hP hD hS (lv_sub hl [0, 1] rfl)
    · rw [if_neg c1] at hE hp
      refine lv_iload_n hx hb dX2_hasFloor_5 rfl (lv_at hl 1 rfl) ?_
      refine lv_aload_n hx hb dX2_hasFloor_6 rfl (lv_at hl 0 rfl) ?_
      refine va_get (D := G) (ci := 1) (v := .int (S.1 6)) (C := RX2) (T := TX2) (N := 8) hx hb hts iX2 hown hK hP 0 rfl rfl 6 (by decide) (hw (.fieldLink RX2 44 "MotionFloor$House" "speaker" "I") (List.mem_of_getElem? (i := 0) rfl)) (fun _ h9 => h9) rfl dX2_hasFloor_7 ?_
      refine lv_icmp_ne (tgt := 17) hx hb dX2_hasFloor_10 (by decide) (fun c3 => ?_) (fun c3 => ?_)
      · rw [if_neg c3] at hE hp
        exact B_17 S x1 _ _ _ hE hp hP hD hS (lv_sub hl [0, 1] rfl)
      · rw [if_pos c3] at hE hp
        refine lv_iconst (v := 1) hx hb dX2_hasFloor_13 (by decide) ?_
        refine lv_goto (tgt := 18) hx hb dX2_hasFloor_14 (by decide) ?_
        exact B_18 S x1 1 _ _ _ hE hp hP hD hS (lv_sub hl [0, 1] rfl)
  exact B_M S0 a1 _ _ _ hX hp hP hD hS hl
theorem gdX2_hasQuorum_0 : ckS (List.drop 0 cX2_hasQuorum.data.toList) 0 [(0, .aload_n 0, 1), (1, .getfield 41, 3), (4, .aload_n 0, 1), (5, .getfield 23, 3), (8, .if_icmp .lt 7, 3), (11, .iconst 1, 1), (12, .goto 4, 3), (15, .iconst 0, 1), (16, .ireturn, 1)] = true := by decide +kernel
theorem dX2_hasQuorum_0 : decode cX2_hasQuorum 0 = .ok (.aload_n 0, 1) := ckS_g gdX2_hasQuorum_0 0 rfl
theorem dX2_hasQuorum_1 : decode cX2_hasQuorum 1 = .ok (.getfield 41, 3) := ckS_g gdX2_hasQuorum_0 1 rfl
theorem dX2_hasQuorum_4 : decode cX2_hasQuorum 4 = .ok (.aload_n 0, 1) := ckS_g gdX2_hasQuorum_0 2 rfl
theorem dX2_hasQuorum_5 : decode cX2_hasQuorum 5 = .ok (.getfield 23, 3) := ckS_g gdX2_hasQuorum_0 3 rfl
theorem dX2_hasQuorum_8 : decode cX2_hasQuorum 8 = .ok (.if_icmp .lt 7, 3) := ckS_g gdX2_hasQuorum_0 4 rfl
theorem dX2_hasQuorum_11 : decode cX2_hasQuorum 11 = .ok (.iconst 1, 1) := ckS_g gdX2_hasQuorum_0 5 rfl
theorem dX2_hasQuorum_12 : decode cX2_hasQuorum 12 = .ok (.goto 4, 3) := ckS_g gdX2_hasQuorum_0 6 rfl
theorem dX2_hasQuorum_15 : decode cX2_hasQuorum 15 = .ok (.iconst 0, 1) := ckS_g gdX2_hasQuorum_0 7 rfl
theorem dX2_hasQuorum_16 : decode cX2_hasQuorum 16 = .ok (.ireturn, 1) := ckS_g gdX2_hasQuorum_0 8 rfl
set_option maxRecDepth 100000 in
theorem z325 : wZ (.fieldLink RX2 23 "MotionFloor$House" "quorum" "I") := ⟨wT1 (List.mem_of_getElem? (i := 46) (by decide +kernel)), Or.inl rfl⟩
set_option maxRecDepth 100000 in
theorem z326 : wZ (.fieldLink RX2 41 "MotionFloor$House" "present" "I") := ⟨wT1 (List.mem_of_getElem? (i := 40) (by decide +kernel)), Or.inl rfl⟩
set_option maxRecDepth 100000 in
theorem z327 : wZ (.code yX2_hasQuorum cX2_hasQuorum 1 (some .boolean)) := ⟨wT2 (List.mem_of_getElem? (i := 159) rfl), Or.inl rfl⟩
def b_X2_hasQuorum_16 (S : HS) (y0 : Int32) : Int32 × HS := (y0, S)
def q_X2_hasQuorum_16 (S : HS) (y0 : Int32) : Prop := (narrow .boolean (.int y0) = .int y0) ∧ True
def f_X2_hasQuorum (S : HS)  : Int32 × HS := if (S.1 2) < (S.1 4) then (b_X2_hasQuorum_16 S 0) else (b_X2_hasQuorum_16 S 1)
def p_X2_hasQuorum (S : HS)  : Prop := (if (S.1 2) < (S.1 4) then (q_X2_hasQuorum_16 S 0) else (q_X2_hasQuorum_16 S 1))
def e_X2_hasQuorum : List Cond := [.fieldLink RX2 41 "MotionFloor$House" "present" "I", .fieldLink RX2 23 "MotionFloor$House" "quorum" "I"]
def v_X2_hasQuorum : List Cond := .code yX2_hasQuorum cX2_hasQuorum 1 (some .boolean) :: (e_X2_hasQuorum ++ (wsX20 ++ []))
theorem te_X2_hasQuorum : GoodIn lw_tbl e_X2_hasQuorum := wGc z326 (wGc z325 (wG0))
theorem t_X2_hasQuorum : GoodIn lw_tbl v_X2_hasQuorum := wGc z327 (wGa te_X2_hasQuorum (wGa zcX2 (wG0)))
set_option maxHeartbeats 4000000 in
set_option maxRecDepth 100000 in
theorem c_X2_hasQuorum (l : Launch) (G : va_G) (K : Nat → ClassId) (h : Nat) (g : Nat → Nat) (S0 : HS)  (sz : Nat) : Met l yX2_hasQuorum v_X2_hasQuorum ({ frames := 0, cells := 0, slots := 0, locals := 0 }) (va_Pc [.ref h] (hoS G K h g sz S0 (p_X2_hasQuorum S0))) (va_Qi (fun (r : Int32) (u : HS) => (r, u) = f_X2_hasQuorum S0) (hoB G K h g (va_A (hoW K h g S0) sz)) (va_A (hoW K h g S0) sz)) 0 0 (va_A (hoW K h g S0) sz) := by
  refine Met.ofW (cc := cX2_hasQuorum) (maxL := 1) (ret := (some .boolean)) (by decide) rfl ?_
  intro p e s m args below meth c s₁ B hml hv
  obtain ⟨rfl, ⟨hsz, hP, hK, hD0, hTE⟩, hp⟩ := hv
  have hx := B.exec
  have hb := B.bytes
  have hr := B.returns
  have hts := atoms_spec (ws := v_X2_hasQuorum) B.pre
  have t_ := t_X2_hasQuorum
  have mw : ∀ w ∈ e_X2_hasQuorum, w ∈ v_X2_hasQuorum := fun w h => List.mem_cons_of_mem _ (List.mem_append_left _ h)
  have hw := fun w (h : w ∈ e_X2_hasQuorum) => hts w (mw w h)
  have iX2 : ∀ w ∈ wsX20, w ∈ v_X2_hasQuorum := fun w h => List.mem_cons_of_mem _ (List.mem_append_right _ (List.mem_append_left _ h))
  have hown : s.vm.findClass RX2 = some m.cls := findClass_of_methodNamed B.named
  have hlocks := B.notSynchronized
  subst hsz
  have hD := hD0.self (sz := s.heap.size)
  generalize hAe : va_A (hoW K h g S0) s.heap.size = A at hD ⊢
  have hA : ∀ q : Nat, s.heap.size ≤ q → A q := fun q h => by rw [← hAe]; exact Or.inr h
  have hS : va_S A s.heap s.heap [] := va_S.rf
  have hl := lv_entry ([.ref h]) (n := 1) (Nat.le_of_ble_eq_true rfl)
  rw [lg_entry_eq]
  generalize (lg_sl ([.ref h]) ++ List.replicate (1 - (lg_sl ([.ref h])).length) Slot.unset).toArray = ls at hl ⊢
  have hl : lv_has ls 1 [(0, .ref h)] := hl
  refine wGen (fun Q hQ => ?_)
  obtain ⟨X, hX⟩ : ∃ X, f_X2_hasQuorum S0 = X := ⟨_, rfl⟩
  have B_16 : ∀ (S : HS) (y0 : Int32) (H : Heap) (locs : List Loc) (ls : Array Slot), b_X2_hasQuorum_16 S y0 = X → q_X2_hasQuorum_16 S y0 → va_P G vwCl (hoW K h g S) H → va_D A (hoW K h g S) → va_S A s.heap H locs → lv_has ls 1 [(0, .ref h)] → W p l e ({ frames := 0, cells := 0, slots := 0, locals := 0 } : Room) s m #[Value.ref h] below meth c H locs 0 0 Q (F0 m 16 ls [.int y0]) := by
    intro S y0 H locs ls hE hp hP hD hS hl
    unfold b_X2_hasQuorum_16 at hE
    unfold q_X2_hasQuorum_16 at hp
    obtain ⟨hy2, hp⟩ := hp
    subst hQ
    exact W.zret (v := y0) (ty := .boolean) hx hb hr hy2 (fun t ht hW => ⟨⟨y0, S, rfl, hE.trans hX.symm, by rw [ht]; exact hP, hD⟩, hS.F ht⟩) hS.2.2 dX2_hasQuorum_16
  have B_M : ∀ (S : HS) (H : Heap) (locs : List Loc) (ls : Array Slot), f_X2_hasQuorum S = X → p_X2_hasQuorum S → va_P G vwCl (hoW K h g S) H → va_D A (hoW K h g S) → va_S A s.heap H locs → lv_has ls 1 [(0, .ref h)] → W p l e ({ frames := 0, cells := 0, slots := 0, locals := 0 } : Room) s m #[Value.ref h] below meth c H locs 0 0 Q (F0 m 0 ls []) := by
    intro S H locs ls hE hp hP hD hS hl
    unfold f_X2_hasQuorum at hE
    unfold p_X2_hasQuorum at hp
    refine lv_aload_n hx hb dX2_hasQuorum_0 rfl (lv_at hl 0 rfl) ?_
    refine va_get (D := G) (ci := 1) (v := .int (S.1 2)) (C := RX2) (T := TX2) (N := 8) hx hb hts iX2 hown hK hP 0 rfl rfl 2 (by decide) (hw (.fieldLink RX2 41 "MotionFloor$House" "present" "I") (List.mem_of_getElem? (i := 0) rfl)) (fun _ h9 => h9) rfl dX2_hasQuorum_1 ?_
    refine lv_aload_n hx hb dX2_hasQuorum_4 rfl (lv_at hl 0 rfl) ?_
    refine va_get (D := G) (ci := 1) (v := .int (S.1 4)) (C := RX2) (T := TX2) (N := 8) hx hb hts iX2 hown hK hP 0 rfl rfl 4 (by decide) (hw (.fieldLink RX2 23 "MotionFloor$House" "quorum" "I") (List.mem_of_getElem? (i := 1) rfl)) (fun _ h9 => h9) rfl dX2_hasQuorum_5 ?_
    refine lv_icmp_lt (tgt := 15) hx hb dX2_hasQuorum_8 (by decide) (fun c1 => ?_) (fun c1 => ?_)
    · rw [if_pos c1] at hE hp
      refine lv_iconst (v := 0) hx hb dX2_hasQuorum_15 (by decide) ?_
      exact B_16 S 0 _ _ _ hE hp hP hD hS (lv_sub hl [0] rfl)
    · rw [if_neg c1] at hE hp
      refine lv_iconst (v := 1) hx hb dX2_hasQuorum_11 (by decide) ?_
      refine lv_goto (tgt := 16) hx hb dX2_hasQuorum_12 (by decide) ?_
      exact B_16 S 1 _ _ _ hE hp hP hD hS (lv_sub hl [0] rfl)
  exact B_M S0 _ _ _ hX hp hP hD hS hl
