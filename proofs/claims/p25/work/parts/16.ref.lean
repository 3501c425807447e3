theorem gdX11_act_0 : ckS (List.drop 0 cX11_act.data.toList) 0 [(0, .aload_n 0, 1), (1, .iload_n 1, 1), (2, .iload_n 2, 1), (3, .iload_n 3, 1), (4, .iload 4, 2), (6, .iload 5, 2), (8, .invokevirtual 196, 3), (11, .istore 6, 2), (13, .iload 6, 2), (15, .ifCond .ne 17, 3), (18, .aload_n 0, 1), (19, .getfield 118, 3), (22, .sipush 600, 3), (25, .if_icmp .ne 7, 3), (28, .bipush 10, 2), (30, .istore 6, 2), (32, .aload_n 0, 1), (33, .iload 6, 2), (35, .putfield 127, 3), (38, .iload 6, 2), (40, .ifCond .le 7, 3), (43, .iload 6, 2), (45, .ineg, 1), (46, .ireturn, 1), (47, .aload_n 0, 1), (48, .iload_n 1, 1), (49, .iload_n 2, 1), (50, .iload_n 3, 1), (51, .iload 4, 2), (53, .iload 5, 2), (55, .invokevirtual 200, 3), (58, .istore 7, 2), (60, .bipush 6, 2), (62, .aload_n 0, 1), (63, .getfield 118, 3), (66, .imul, 1), (67, .istore 8, 2), (69, .iload_n 1, 1), (70, .invokestatic 203, 3), (73, .istore 9, 2)] = true := by decide +kernel
theorem dX11_act_0 : decode cX11_act 0 = .ok (.aload_n 0, 1) := ckS_g gdX11_act_0 0 rfl
theorem dX11_act_1 : decode cX11_act 1 = .ok (.iload_n 1, 1) := ckS_g gdX11_act_0 1 rfl
theorem dX11_act_2 : decode cX11_act 2 = .ok (.iload_n 2, 1) := ckS_g gdX11_act_0 2 rfl
theorem dX11_act_3 : decode cX11_act 3 = .ok (.iload_n 3, 1) := ckS_g gdX11_act_0 3 rfl
theorem dX11_act_4 : decode cX11_act 4 = .ok (.iload 4, 2) := ckS_g gdX11_act_0 4 rfl
theorem dX11_act_6 : decode cX11_act 6 = .ok (.iload 5, 2) := ckS_g gdX11_act_0 5 rfl
theorem dX11_act_8 : decode cX11_act 8 = .ok (.invokevirtual 196, 3) := ckS_g gdX11_act_0 6 rfl
theorem dX11_act_11 : decode cX11_act 11 = .ok (.istore 6, 2) := ckS_g gdX11_act_0 7 rfl
theorem dX11_act_13 : decode cX11_act 13 = .ok (.iload 6, 2) := ckS_g gdX11_act_0 8 rfl
theorem dX11_act_15 : decode cX11_act 15 = .ok (.ifCond .ne 17, 3) := ckS_g gdX11_act_0 9 rfl
theorem dX11_act_18 : decode cX11_act 18 = .ok (.aload_n 0, 1) := ckS_g gdX11_act_0 10 rfl
theorem dX11_act_19 : decode cX11_act 19 = .ok (.getfield 118, 3) := ckS_g gdX11_act_0 11 rfl
theorem dX11_act_22 : decode cX11_act 22 = .ok (.sipush 600, 3) := ckS_g gdX11_act_0 12 rfl
theorem dX11_act_25 : decode cX11_act 25 = .ok (.if_icmp .ne 7, 3) := ckS_g gdX11_act_0 13 rfl
theorem dX11_act_28 : decode cX11_act 28 = .ok (.bipush 10, 2) := ckS_g gdX11_act_0 14 rfl
theorem dX11_act_30 : decode cX11_act 30 = .ok (.istore 6, 2) := ckS_g gdX11_act_0 15 rfl
theorem dX11_act_32 : decode cX11_act 32 = .ok (.aload_n 0, 1) := ckS_g gdX11_act_0 16 rfl
theorem dX11_act_33 : decode cX11_act 33 = .ok (.iload 6, 2) := ckS_g gdX11_act_0 17 rfl
theorem dX11_act_35 : decode cX11_act 35 = .ok (.putfield 127, 3) := ckS_g gdX11_act_0 18 rfl
theorem dX11_act_38 : decode cX11_act 38 = .ok (.iload 6, 2) := ckS_g gdX11_act_0 19 rfl
theorem dX11_act_40 : decode cX11_act 40 = .ok (.ifCond .le 7, 3) := ckS_g gdX11_act_0 20 rfl
theorem dX11_act_43 : decode cX11_act 43 = .ok (.iload 6, 2) := ckS_g gdX11_act_0 21 rfl
theorem dX11_act_45 : decode cX11_act 45 = .ok (.ineg, 1) := ckS_g gdX11_act_0 22 rfl
theorem dX11_act_46 : decode cX11_act 46 = .ok (.ireturn, 1) := ckS_g gdX11_act_0 23 rfl
theorem dX11_act_47 : decode cX11_act 47 = .ok (.aload_n 0, 1) := ckS_g gdX11_act_0 24 rfl
theorem dX11_act_48 : decode cX11_act 48 = .ok (.iload_n 1, 1) := ckS_g gdX11_act_0 25 rfl
theorem dX11_act_49 : decode cX11_act 49 = .ok (.iload_n 2, 1) := ckS_g gdX11_act_0 26 rfl
theorem dX11_act_50 : decode cX11_act 50 = .ok (.iload_n 3, 1) := ckS_g gdX11_act_0 27 rfl
theorem dX11_act_51 : decode cX11_act 51 = .ok (.iload 4, 2) := ckS_g gdX11_act_0 28 rfl
theorem dX11_act_53 : decode cX11_act 53 = .ok (.iload 5, 2) := ckS_g gdX11_act_0 29 rfl
theorem dX11_act_55 : decode cX11_act 55 = .ok (.invokevirtual 200, 3) := ckS_g gdX11_act_0 30 rfl
theorem dX11_act_58 : decode cX11_act 58 = .ok (.istore 7, 2) := ckS_g gdX11_act_0 31 rfl
theorem dX11_act_60 : decode cX11_act 60 = .ok (.bipush 6, 2) := ckS_g gdX11_act_0 32 rfl
theorem dX11_act_62 : decode cX11_act 62 = .ok (.aload_n 0, 1) := ckS_g gdX11_act_0 33 rfl
theorem dX11_act_63 : decode cX11_act 63 = .ok (.getfield 118, 3) := ckS_g gdX11_act_0 34 rfl
theorem dX11_act_66 : decode cX11_act 66 = .ok (.imul, 1) := ckS_g gdX11_act_0 35 rfl
theorem dX11_act_67 : decode cX11_act 67 = .ok (.istore 8, 2) := ckS_g gdX11_act_0 36 rfl
theorem dX11_act_69 : decode cX11_act 69 = .ok (.iload_n 1, 1) := ckS_g gdX11_act_0 37 rfl
theorem dX11_act_70 : decode cX11_act 70 = .ok (.invokestatic 203, 3) := ckS_g gdX11_act_0 38 rfl
theorem dX11_act_73 : decode cX11_act 73 = .ok (.istore 9, 2) := ckS_g gdX11_act_0 39 rfl
theorem gdX11_act_75 : ckS (List.drop 75 cX11_act.data.toList) 75 [(75, .aload_n 0, 1), (76, .getfield 90, 3), (79, .iload 8, 2), (81, .iload_n 1, 1), (82, .iastore, 1), (83, .aload_n 0, 1), (84, .getfield 90, 3), (87, .iload 8, 2), (89, .iconst 1, 1), (90, .iadd, 1), (91, .iload 9, 2), (93, .ifCond .le 7, 3), (96, .iload_n 2, 1), (97, .goto 4, 3), (100, .iconst 0, 1), (101, .iastore, 1), (102, .aload_n 0, 1), (103, .getfield 90, 3), (106, .iload 8, 2), (108, .iconst 2, 1), (109, .iadd, 1), (110, .iload 9, 2), (112, .iconst 1, 1), (113, .if_icmp .le 7, 3), (116, .iload_n 3, 1), (117, .goto 4, 3), (120, .iconst 0, 1), (121, .iastore, 1), (122, .aload_n 0, 1), (123, .getfield 90, 3), (126, .iload 8, 2), (128, .iconst 3, 1), (129, .iadd, 1), (130, .iload 9, 2), (132, .iconst 2, 1), (133, .if_icmp .le 8, 3), (136, .iload 4, 2), (138, .goto 4, 3), (141, .iconst 0, 1), (142, .iastore, 1)] = true := by decide +kernel
theorem dX11_act_75 : decode cX11_act 75 = .ok (.aload_n 0, 1) := ckS_g gdX11_act_75 0 rfl
theorem dX11_act_76 : decode cX11_act 76 = .ok (.getfield 90, 3) := ckS_g gdX11_act_75 1 rfl
theorem dX11_act_79 : decode cX11_act 79 = .ok (.iload 8, 2) := ckS_g gdX11_act_75 2 rfl
theorem dX11_act_81 : decode cX11_act 81 = .ok (.iload_n 1, 1) := ckS_g gdX11_act_75 3 rfl
theorem dX11_act_82 : decode cX11_act 82 = .ok (.iastore, 1) := ckS_g gdX11_act_75 4 rfl
theorem dX11_act_83 : decode cX11_act 83 = .ok (.aload_n 0, 1) := ckS_g gdX11_act_75 5 rfl
theorem dX11_act_84 : decode cX11_act 84 = .ok (.getfield 90, 3) := ckS_g gdX11_act_75 6 rfl
theorem dX11_act_87 : decode cX11_act 87 = .ok (.iload 8, 2) := ckS_g gdX11_act_75 7 rfl
theorem dX11_act_89 : decode cX11_act 89 = .ok (.iconst 1, 1) := ckS_g gdX11_act_75 8 rfl
theorem dX11_act_90 : decode cX11_act 90 = .ok (.iadd, 1) := ckS_g gdX11_act_75 9 rfl
theorem dX11_act_91 : decode cX11_act 91 = .ok (.iload 9, 2) := ckS_g gdX11_act_75 10 rfl
theorem dX11_act_93 : decode cX11_act 93 = .ok (.ifCond .le 7, 3) := ckS_g gdX11_act_75 11 rfl
theorem dX11_act_96 : decode cX11_act 96 = .ok (.iload_n 2, 1) := ckS_g gdX11_act_75 12 rfl
theorem dX11_act_97 : decode cX11_act 97 = .ok (.goto 4, 3) := ckS_g gdX11_act_75 13 rfl
theorem dX11_act_100 : decode cX11_act 100 = .ok (.iconst 0, 1) := ckS_g gdX11_act_75 14 rfl
theorem dX11_act_101 : decode cX11_act 101 = .ok (.iastore, 1) := ckS_g gdX11_act_75 15 rfl
theorem dX11_act_102 : decode cX11_act 102 = .ok (.aload_n 0, 1) := ckS_g gdX11_act_75 16 rfl
theorem dX11_act_103 : decode cX11_act 103 = .ok (.getfield 90, 3) := ckS_g gdX11_act_75 17 rfl
theorem dX11_act_106 : decode cX11_act 106 = .ok (.iload 8, 2) := ckS_g gdX11_act_75 18 rfl
theorem dX11_act_108 : decode cX11_act 108 = .ok (.iconst 2, 1) := ckS_g gdX11_act_75 19 rfl
theorem dX11_act_109 : decode cX11_act 109 = .ok (.iadd, 1) := ckS_g gdX11_act_75 20 rfl
theorem dX11_act_110 : decode cX11_act 110 = .ok (.iload 9, 2) := ckS_g gdX11_act_75 21 rfl
theorem dX11_act_112 : decode cX11_act 112 = .ok (.iconst 1, 1) := ckS_g gdX11_act_75 22 rfl
theorem dX11_act_113 : decode cX11_act 113 = .ok (.if_icmp .le 7, 3) := ckS_g gdX11_act_75 23 rfl
theorem dX11_act_116 : decode cX11_act 116 = .ok (.iload_n 3, 1) := ckS_g gdX11_act_75 24 rfl
theorem dX11_act_117 : decode cX11_act 117 = .ok (.goto 4, 3) := ckS_g gdX11_act_75 25 rfl
theorem dX11_act_120 : decode cX11_act 120 = .ok (.iconst 0, 1) := ckS_g gdX11_act_75 26 rfl
theorem dX11_act_121 : decode cX11_act 121 = .ok (.iastore, 1) := ckS_g gdX11_act_75 27 rfl
theorem dX11_act_122 : decode cX11_act 122 = .ok (.aload_n 0, 1) := ckS_g gdX11_act_75 28 rfl
theorem dX11_act_123 : decode cX11_act 123 = .ok (.getfield 90, 3) := ckS_g gdX11_act_75 29 rfl
theorem dX11_act_126 : decode cX11_act 126 = .ok (.iload 8, 2) := ckS_g gdX11_act_75 30 rfl
theorem dX11_act_128 : decode cX11_act 128 = .ok (.iconst 3, 1) := ckS_g gdX11_act_75 31 rfl
theorem dX11_act_129 : decode cX11_act 129 = .ok (.iadd, 1) := ckS_g gdX11_act_75 32 rfl
theorem dX11_act_130 : decode cX11_act 130 = .ok (.iload 9, 2) := ckS_g gdX11_act_75 33 rfl
theorem dX11_act_132 : decode cX11_act 132 = .ok (.iconst 2, 1) := ckS_g gdX11_act_75 34 rfl
theorem dX11_act_133 : decode cX11_act 133 = .ok (.if_icmp .le 8, 3) := ckS_g gdX11_act_75 35 rfl
theorem dX11_act_136 : decode cX11_act 136 = .ok (.iload 4, 2) := ckS_g gdX11_act_75 36 rfl
theorem dX11_act_138 : decode cX11_act 138 = .ok (.goto 4, 3) := ckS_g gdX11_act_75 37 rfl
theorem dX11_act_141 : decode cX11_act 141 = .ok (.iconst 0, 1) := ckS_g gdX11_act_75 38 rfl
theorem dX11_act_142 : decode cX11_act 142 = .ok (.iastore, 1) := ckS_g gdX11_act_75 39 rfl
theorem gdX11_act_143 : ckS (List.drop 143 cX11_act.data.toList) 143 [(143, .aload_n 0, 1), (144, .getfield 90, 3), (147, .iload 8, 2), (149, .iconst 4, 1), (150, .iadd, 1), (151, .iload 9, 2), (153, .iconst 3, 1), (154, .if_icmp .le 8, 3), (157, .iload 5, 2), (159, .goto 4, 3), (162, .iconst 0, 1), (163, .iastore, 1), (164, .aload_n 0, 1), (165, .getfield 90, 3), (168, .iload 8, 2), (170, .iconst 5, 1), (171, .iadd, 1), (172, .iload 7, 2), (174, .iastore, 1), (175, .aload_n 0, 1), (176, .dup, 1), (177, .getfield 118, 3), (180, .iconst 1, 1), (181, .iadd, 1), (182, .putfield 118, 3), (185, .iload 7, 2), (187, .ireturn, 1)] = true := by decide +kernel
theorem dX11_act_143 : decode cX11_act 143 = .ok (.aload_n 0, 1) := ckS_g gdX11_act_143 0 rfl
theorem dX11_act_144 : decode cX11_act 144 = .ok (.getfield 90, 3) := ckS_g gdX11_act_143 1 rfl
theorem dX11_act_147 : decode cX11_act 147 = .ok (.iload 8, 2) := ckS_g gdX11_act_143 2 rfl
theorem dX11_act_149 : decode cX11_act 149 = .ok (.iconst 4, 1) := ckS_g gdX11_act_143 3 rfl
theorem dX11_act_150 : decode cX11_act 150 = .ok (.iadd, 1) := ckS_g gdX11_act_143 4 rfl
theorem dX11_act_151 : decode cX11_act 151 = .ok (.iload 9, 2) := ckS_g gdX11_act_143 5 rfl
theorem dX11_act_153 : decode cX11_act 153 = .ok (.iconst 3, 1) := ckS_g gdX11_act_143 6 rfl
theorem dX11_act_154 : decode cX11_act 154 = .ok (.if_icmp .le 8, 3) := ckS_g gdX11_act_143 7 rfl
theorem dX11_act_157 : decode cX11_act 157 = .ok (.iload 5, 2) := ckS_g gdX11_act_143 8 rfl
theorem dX11_act_159 : decode cX11_act 159 = .ok (.goto 4, 3) := ckS_g gdX11_act_143 9 rfl
theorem dX11_act_162 : decode cX11_act 162 = .ok (.iconst 0, 1) := ckS_g gdX11_act_143 10 rfl
theorem dX11_act_163 : decode cX11_act 163 = .ok (.iastore, 1) := ckS_g gdX11_act_143 11 rfl
theorem dX11_act_164 : decode cX11_act 164 = .ok (.aload_n 0, 1) := ckS_g gdX11_act_143 12 rfl
theorem dX11_act_165 : decode cX11_act 165 = .ok (.getfield 90, 3) := ckS_g gdX11_act_143 13 rfl
theorem dX11_act_168 : decode cX11_act 168 = .ok (.iload 8, 2) := ckS_g gdX11_act_143 14 rfl
theorem dX11_act_170 : decode cX11_act 170 = .ok (.iconst 5, 1) := ckS_g gdX11_act_143 15 rfl
theorem dX11_act_171 : decode cX11_act 171 = .ok (.iadd, 1) := ckS_g gdX11_act_143 16 rfl
theorem dX11_act_172 : decode cX11_act 172 = .ok (.iload 7, 2) := ckS_g gdX11_act_143 17 rfl
theorem dX11_act_174 : decode cX11_act 174 = .ok (.iastore, 1) := ckS_g gdX11_act_143 18 rfl
theorem dX11_act_175 : decode cX11_act 175 = .ok (.aload_n 0, 1) := ckS_g gdX11_act_143 19 rfl
theorem dX11_act_176 : decode cX11_act 176 = .ok (.dup, 1) := ckS_g gdX11_act_143 20 rfl
theorem dX11_act_177 : decode cX11_act 177 = .ok (.getfield 118, 3) := ckS_g gdX11_act_143 21 rfl
theorem dX11_act_180 : decode cX11_act 180 = .ok (.iconst 1, 1) := ckS_g gdX11_act_143 22 rfl
theorem dX11_act_181 : decode cX11_act 181 = .ok (.iadd, 1) := ckS_g gdX11_act_143 23 rfl
theorem dX11_act_182 : decode cX11_act 182 = .ok (.putfield 118, 3) := ckS_g gdX11_act_143 24 rfl
theorem dX11_act_185 : decode cX11_act 185 = .ok (.iload 7, 2) := ckS_g gdX11_act_143 25 rfl
theorem dX11_act_187 : decode cX11_act 187 = .ok (.ireturn, 1) := ckS_g gdX11_act_143 26 rfl
set_option maxRecDepth 100000 in
theorem z197 : wZ (.fieldLink RX11 90 "MotionFloorModel$Hall" "minutes" "[I") := ⟨wT5 (List.mem_of_getElem? (i := 107) (by decide +kernel)), Or.inl rfl⟩
set_option maxRecDepth 100000 in
theorem z198 : wZ (.static yX12_numbers) := ⟨wT6 (List.mem_of_getElem? (i := 114) (by decide +kernel)), Or.inl rfl⟩
set_option maxRecDepth 100000 in
theorem z199 : wZ (.selects RX11 yX11_does yX11_does) := ⟨List.mem_append_left _ (List.mem_of_getElem? (i := 13) (by decide +kernel)), Or.inl rfl⟩
set_option maxRecDepth 100000 in
theorem z200 : wZ (.instanceMethod yX11_does) := ⟨wT6 (List.mem_of_getElem? (i := 55) (by decide +kernel)), Or.inl rfl⟩
set_option maxRecDepth 100000 in
theorem z201 : wZ (.methodLink RX11 200 yX11_does) := ⟨wT6 (List.mem_of_getElem? (i := 53) (by decide +kernel)), Or.inl rfl⟩
set_option maxRecDepth 100000 in
theorem z202 : wZ (.fieldLink RX11 127 "MotionFloorModel$Hall" "why" "I") := ⟨wT5 (List.mem_of_getElem? (i := 54) (by decide +kernel)), Or.inl rfl⟩
set_option maxRecDepth 100000 in
theorem z203 : wZ (.selects RX11 yX11_reason yX11_reason) := ⟨List.mem_append_left _ (List.mem_of_getElem? (i := 2) (by decide +kernel)), Or.inl rfl⟩
set_option maxRecDepth 100000 in
theorem z204 : wZ (.instanceMethod yX11_reason) := ⟨wT5 (List.mem_of_getElem? (i := 239) (by decide +kernel)), Or.inl rfl⟩
set_option maxRecDepth 100000 in
theorem z205 : wZ (.methodLink RX11 196 yX11_reason) := ⟨wT5 (List.mem_of_getElem? (i := 237) (by decide +kernel)), Or.inl rfl⟩
set_option maxRecDepth 100000 in
theorem z206 : wZ (.code yX11_act cX11_act 10 (some .int)) := ⟨wT5 (List.mem_of_getElem? (i := 236) rfl), Or.inl rfl⟩
def b_X11_act_163 (S : HS) (x1 x2 x3 x4 x5 x6 x7 x8 x9 y0 y1 : Int32) : Int32 × HS := (x7, (sI (sA (sA S 40 y1.toNatClampNeg y0) 40 (x8 + 5).toNatClampNeg x7) 7 (((sA (sA S 40 y1.toNatClampNeg y0) 40 (x8 + 5).toNatClampNeg x7).1 7) + 1)))
def q_X11_act_163 (S : HS) (x1 x2 x3 x4 x5 x6 x7 x8 x9 y0 y1 : Int32) : Prop := (vp_in y1 3600) ∧ (vp_in (x8 + 5) 3600) ∧ True
def b_X11_act_142 (S : HS) (x1 x2 x3 x4 x5 x6 x7 x8 x9 y0 y1 : Int32) : Int32 × HS := if x9 ≤ 3 then (b_X11_act_163 (sA S 40 y1.toNatClampNeg y0) x1 x2 x3 x4 x5 x6 x7 x8 x9 0 (x8 + 4)) else (b_X11_act_163 (sA S 40 y1.toNatClampNeg y0) x1 x2 x3 x4 x5 x6 x7 x8 x9 x5 (x8 + 4))
def q_X11_act_142 (S : HS) (x1 x2 x3 x4 x5 x6 x7 x8 x9 y0 y1 : Int32) : Prop := (vp_in y1 3600) ∧ (if x9 ≤ 3 then (q_X11_act_163 (sA S 40 y1.toNatClampNeg y0) x1 x2 x3 x4 x5 x6 x7 x8 x9 0 (x8 + 4)) else (q_X11_act_163 (sA S 40 y1.toNatClampNeg y0) x1 x2 x3 x4 x5 x6 x7 x8 x9 x5 (x8 + 4)))
def b_X11_act_121 (S : HS) (x1 x2 x3 x4 x5 x6 x7 x8 x9 y0 y1 : Int32) : Int32 × HS := if x9 ≤ 2 then (b_X11_act_142 (sA S 40 y1.toNatClampNeg y0) x1 x2 x3 x4 x5 x6 x7 x8 x9 0 (x8 + 3)) else (b_X11_act_142 (sA S 40 y1.toNatClampNeg y0) x1 x2 x3 x4 x5 x6 x7 x8 x9 x4 (x8 + 3))
def q_X11_act_121 (S : HS) (x1 x2 x3 x4 x5 x6 x7 x8 x9 y0 y1 : Int32) : Prop := (vp_in y1 3600) ∧ (if x9 ≤ 2 then (q_X11_act_142 (sA S 40 y1.toNatClampNeg y0) x1 x2 x3 x4 x5 x6 x7 x8 x9 0 (x8 + 3)) else (q_X11_act_142 (sA S 40 y1.toNatClampNeg y0) x1 x2 x3 x4 x5 x6 x7 x8 x9 x4 (x8 + 3)))
def b_X11_act_101 (S : HS) (x1 x2 x3 x4 x5 x6 x7 x8 x9 y0 y1 : Int32) : Int32 × HS := if x9 ≤ 1 then (b_X11_act_121 (sA S 40 y1.toNatClampNeg y0) x1 x2 x3 x4 x5 x6 x7 x8 x9 0 (x8 + 2)) else (b_X11_act_121 (sA S 40 y1.toNatClampNeg y0) x1 x2 x3 x4 x5 x6 x7 x8 x9 x3 (x8 + 2))
def q_X11_act_101 (S : HS) (x1 x2 x3 x4 x5 x6 x7 x8 x9 y0 y1 : Int32) : Prop := (vp_in y1 3600) ∧ (if x9 ≤ 1 then (q_X11_act_121 (sA S 40 y1.toNatClampNeg y0) x1 x2 x3 x4 x5 x6 x7 x8 x9 0 (x8 + 2)) else (q_X11_act_121 (sA S 40 y1.toNatClampNeg y0) x1 x2 x3 x4 x5 x6 x7 x8 x9 x3 (x8 + 2)))
def b_X11_act_a58 (S : HS) (x1 x2 x3 x4 x5 x6 y0 : Int32) : Int32 × HS := if (f_X12_numbers x1) ≤ 0 then (b_X11_act_101 (sA S 40 (6 * (S.1 7)).toNatClampNeg x1) x1 x2 x3 x4 x5 x6 y0 (6 * (S.1 7)) (f_X12_numbers x1) 0 ((6 * (S.1 7)) + 1)) else (b_X11_act_101 (sA S 40 (6 * (S.1 7)).toNatClampNeg x1) x1 x2 x3 x4 x5 x6 y0 (6 * (S.1 7)) (f_X12_numbers x1) x2 ((6 * (S.1 7)) + 1))
def q_X11_act_a58 (S : HS) (x1 x2 x3 x4 x5 x6 y0 : Int32) : Prop := (p_X12_numbers x1) ∧ (vp_in (6 * (S.1 7)) 3600) ∧ (if (f_X12_numbers x1) ≤ 0 then (q_X11_act_101 (sA S 40 (6 * (S.1 7)).toNatClampNeg x1) x1 x2 x3 x4 x5 x6 y0 (6 * (S.1 7)) (f_X12_numbers x1) 0 ((6 * (S.1 7)) + 1)) else (q_X11_act_101 (sA S 40 (6 * (S.1 7)).toNatClampNeg x1) x1 x2 x3 x4 x5 x6 y0 (6 * (S.1 7)) (f_X12_numbers x1) x2 ((6 * (S.1 7)) + 1)))
def b_X11_act_32 (S : HS) (x1 x2 x3 x4 x5 x6 : Int32) : Int32 × HS := if x6 ≤ 0 then (b_X11_act_a58 (f_X11_does (sI S 10 x6) x1 x2 x3 x4 x5).2 x1 x2 x3 x4 x5 x6 (f_X11_does (sI S 10 x6) x1 x2 x3 x4 x5).1) else ((-x6), (sI S 10 x6))
def q_X11_act_32 (S : HS) (x1 x2 x3 x4 x5 x6 : Int32) : Prop := (if x6 ≤ 0 then (p_X11_does (sI S 10 x6) x1 x2 x3 x4 x5) ∧ (q_X11_act_a58 (f_X11_does (sI S 10 x6) x1 x2 x3 x4 x5).2 x1 x2 x3 x4 x5 x6 (f_X11_does (sI S 10 x6) x1 x2 x3 x4 x5).1) else True)
def b_X11_act_a11 (S : HS) (x1 x2 x3 x4 x5 y0 : Int32) : Int32 × HS := if y0 = 0 then if (S.1 7) = 600 then (b_X11_act_32 S x1 x2 x3 x4 x5 10) else (b_X11_act_32 S x1 x2 x3 x4 x5 y0) else (b_X11_act_32 S x1 x2 x3 x4 x5 y0)
def q_X11_act_a11 (S : HS) (x1 x2 x3 x4 x5 y0 : Int32) : Prop := (if y0 = 0 then (if (S.1 7) = 600 then (q_X11_act_32 S x1 x2 x3 x4 x5 10) else (q_X11_act_32 S x1 x2 x3 x4 x5 y0)) else (q_X11_act_32 S x1 x2 x3 x4 x5 y0))
def f_X11_act (S : HS) (x1 x2 x3 x4 x5 : Int32) : Int32 × HS := (b_X11_act_a11 (f_X11_reason S x1 x2 x3 x4 x5).2 x1 x2 x3 x4 x5 (f_X11_reason S x1 x2 x3 x4 x5).1)
def p_X11_act (S : HS) (x1 x2 x3 x4 x5 : Int32) : Prop := (p_X11_reason S x1 x2 x3 x4 x5) ∧ (q_X11_act_a11 (f_X11_reason S x1 x2 x3 x4 x5).2 x1 x2 x3 x4 x5 (f_X11_reason S x1 x2 x3 x4 x5).1)
def e_X11_act : List Cond := [.methodLink RX11 196 yX11_reason, .instanceMethod yX11_reason, .selects RX11 yX11_reason yX11_reason, .initialized RX11, .fieldLink RX11 127 "MotionFloorModel$Hall" "why" "I", .methodLink RX11 200 yX11_does, .instanceMethod yX11_does, .selects RX11 yX11_does yX11_does, .fieldLink RX11 118 "MotionFloorModel$Hall" "entries" "I", .initialized RX12, .static yX12_numbers, .fieldLink RX11 90 "MotionFloorModel$Hall" "minutes" "[I"]
def v_X11_act : List Cond := .code yX11_act cX11_act 10 (some .int) :: (e_X11_act ++ (wsX110 ++ (v_X11_reason ++ (v_X11_does ++ (v_X12_numbers ++ [])))))
theorem te_X11_act : GoodIn lw_tbl e_X11_act := wGc z205 (wGc z204 (wGc z203 (wGc z51 (wGc z202 (wGc z201 (wGc z200 (wGc z199 (wGc z164 (wGc z1 (wGc z198 (wGc z197 (wG0))))))))))))
theorem t_X11_act : GoodIn lw_tbl v_X11_act := wGc z206 (wGa te_X11_act (wGa zcX11 (wGa t_X11_reason (wGa t_X11_does (wGa t_X12_numbers (wG0))))))
set_option maxHeartbeats 4000000 in
set_option maxRecDepth 100000 in
theorem c_X11_act (l : Launch) (G : va_G) (K : Nat → ClassId) (h : Nat) (g : Nat → Nat) (S0 : HS) (a1 a2 a3 a4 a5 : Int32) (sz : Nat) : Met l yX11_act v_X11_act ({ frames := 5, cells := 0, slots := 0, locals := 127 }) (va_Pc [.ref h, .int a1, .int a2, .int a3, .int a4, .int a5] (hS G K h g sz S0 (p_X11_act S0 a1 a2 a3 a4 a5))) (va_Qi (fun (r : Int32) (u : HS) => (r, u) = f_X11_act S0 a1 a2 a3 a4 a5) (hB G K h g (va_A (hW K h g S0) sz)) (va_A (hW K h g S0) sz)) 0 0 (va_A (hW K h g S0) sz) := by
  refine Met.ofW (cc := cX11_act) (maxL := 10) (ret := (some .int)) (by decide) rfl ?_
  intro p e s m args below meth c s₁ B hml hv
  obtain ⟨rfl, ⟨hsz, hP, hK, hD0, hTE⟩, hp⟩ := hv
  have hx := B.exec
  have hb := B.bytes
  have hr := B.returns
  have hts := atoms_spec (ws := v_X11_act) B.pre
  have t_ := t_X11_act
  have mw : ∀ w ∈ e_X11_act, w ∈ v_X11_act := fun w h => List.mem_cons_of_mem _ (List.mem_append_left _ h)
  have hw := fun w (h : w ∈ e_X11_act) => hts w (mw w h)
  have iX11 : ∀ w ∈ wsX110, w ∈ v_X11_act := fun w h => List.mem_cons_of_mem _ (List.mem_append_right _ (List.mem_append_left _ h))
  have j_X11_reason : ∀ w ∈ v_X11_reason, w ∈ v_X11_act := fun w h => List.mem_cons_of_mem _ (List.mem_append_right _ (List.mem_append_right _ (List.mem_append_left _ h)))
  have j_X11_does : ∀ w ∈ v_X11_does, w ∈ v_X11_act := fun w h => List.mem_cons_of_mem _ (List.mem_append_right _ (List.mem_append_right _ (List.mem_append_right _ (List.mem_append_left _ h))))
  have j_X12_numbers : ∀ w ∈ v_X12_numbers, w ∈ v_X11_act := fun w h => List.mem_cons_of_mem _ (List.mem_append_right _ (List.mem_append_right _ (List.mem_append_right _ (List.mem_append_right _ (List.mem_append_left _ h)))))
  have hown : s.vm.findClass RX11 = some m.cls := findClass_of_methodNamed B.named
  have hlocks := B.notSynchronized
  subst hsz
  have hD := hD0.self (sz := s.heap.size)
  generalize hAe : va_A (hW K h g S0) s.heap.size = A at hD ⊢
  have hA : ∀ q : Nat, s.heap.size ≤ q → A q := fun q h => by rw [← hAe]; exact Or.inr h
  have hS : va_S A s.heap s.heap [] := va_S.rf
  have hl := lv_entry ([.ref h, .int a1, .int a2, .int a3, .int a4, .int a5]) (n := 10) (Nat.le_of_ble_eq_true rfl)
  rw [lg_entry_eq]
  generalize (lg_sl ([.ref h, .int a1, .int a2, .int a3, .int a4, .int a5]) ++ List.replicate (10 - (lg_sl ([.ref h, .int a1, .int a2, .int a3, .int a4, .int a5])).length) Slot.unset).toArray = ls at hl ⊢
  have hl : lv_has ls 10 [(0, .ref h), (1, .int a1), (2, .int a2), (3, .int a3), (4, .int a4), (5, .int a5)] := hl
  refine wGen (fun Q hQ => ?_)
  obtain ⟨X, hX⟩ : ∃ X, f_X11_act S0 a1 a2 a3 a4 a5 = X := ⟨_, rfl⟩
  have B_163 : ∀ (S : HS) (x1 x2 x3 x4 x5 x6 x7 x8 x9 y0 y1 : Int32) (H : Heap) (locs : List Loc) (ls : Array Slot), b_X11_act_163 S x1 x2 x3 x4 x5 x6 x7 x8 x9 y0 y1 = X → q_X11_act_163 S x1 x2 x3 x4 x5 x6 x7 x8 x9 y0 y1 → va_P G vwCl (hW K h g S) H → va_D A (hW K h g S) → va_S A s.heap H locs → lv_has ls 10 [(0, .ref h), (1, .int x1), (2, .int x2), (3, .int x3), (4, .int x4), (5, .int x5), (6, .int x6), (7, .int x7), (8, .int x8), (9, .int x9)] → W p l e ({ frames := 5, cells := 0, slots := 0, locals := 127 } : Room) s m #[Value.ref h, Value.int a1, Value.int a2, Value.int a3, Value.int a4, Value.int a5] below meth c H locs 0 0 Q (F0 m 163 ls [.int y0, .int y1, .ref (g 40)]) := by
    intro S x1 x2 x3 x4 x5 x6 x7 x8 x9 y0 y1 H locs ls hE hp hP hD hS hl
    unfold b_X11_act_163 at hE
    unfold q_X11_act_163 at hp
    obtain ⟨hy18, hp⟩ := hp
    refine va_iast hx hb hK hP hD hS 26 0 rfl rfl hy18 dX11_act_163 (fun H locs hP hD hS => ?_)
    rw [sA_40] at hP hD
    refine lv_aload_n hx hb dX11_act_164 rfl (lv_at hl 0 rfl) ?_
    refine va_get (D := G) (ci := 8) (v := .ref (g 40)) (C := RX11) (T := TX11) (N := 42) hx hb hts iX11 hown hK hP 0 rfl rfl 40 (by decide) (hw (.fieldLink RX11 90 "MotionFloorModel$Hall" "minutes" "[I") (List.mem_of_getElem? (i := 11) rfl)) (fun _ h9 => h9) rfl dX11_act_165 ?_
    refine lv_iload hx hb dX11_act_168 (lv_at hl 8 rfl) ?_
    refine lv_iconst (v := 5) hx hb dX11_act_170 (by decide) ?_
    refine lv_iadd hx hb dX11_act_171 ?_
    refine lv_iload hx hb dX11_act_172 (lv_at hl 7 rfl) ?_
    obtain ⟨hy19, hp⟩ := hp
    refine va_iast hx hb hK hP hD hS 26 0 rfl rfl hy19 dX11_act_174 (fun H locs hP hD hS => ?_)
    rw [sA_40] at hP hD
    refine lv_aload_n hx hb dX11_act_175 rfl (lv_at hl 0 rfl) ?_
    refine lv_dup hx hb dX11_act_176 rfl ?_
    refine va_get (D := G) (ci := 8) (v := .int ((sA (sA S 40 y1.toNatClampNeg y0) 40 (x8 + 5).toNatClampNeg x7).1 7)) (C := RX11) (T := TX11) (N := 42) hx hb hts iX11 hown hK hP 0 rfl rfl 7 (by decide) (hw (.fieldLink RX11 118 "MotionFloorModel$Hall" "entries" "I") (List.mem_of_getElem? (i := 8) rfl)) (fun _ h9 => h9) rfl dX11_act_177 ?_
    refine lv_iconst (v := 1) hx hb dX11_act_180 (by decide) ?_
    refine lv_iadd hx hb dX11_act_181 ?_
    refine va_put (D := G) (ci := 8) (v := .int (((sA (sA S 40 y1.toNatClampNeg y0) 40 (x8 + 5).toNatClampNeg x7).1 7) + 1)) (ty := .int) (C := RX11) (T := TX11) (N := 42) hx hb hts iX11 tyX11 tyX11_ok nmX11 hown hK hP hD hS 0 rfl rfl 7 (by decide) (hw (.fieldLink RX11 118 "MotionFloorModel$Hall" "entries" "I") (List.mem_of_getElem? (i := 8) rfl)) (fun _ h9 => h9) rfl (by decide +kernel) rfl rfl (Nat.le_of_ble_eq_true rfl) dX11_act_182 (fun H locs hP hD hS => ?_)
    rw [sI_7] at hP hD
    refine lv_iload hx hb dX11_act_185 (lv_at hl 7 rfl) ?_
    subst hQ
    exact W.iret (v := x7) hx hb hr (fun t ht hW => ⟨⟨x7, (sI (sA (sA S 40 y1.toNatClampNeg y0) 40 (x8 + 5).toNatClampNeg x7) 7 (((sA (sA S 40 y1.toNatClampNeg y0) 40 (x8 + 5).toNatClampNeg x7).1 7) + 1)), rfl, hE.trans hX.symm, by rw [ht]; exact hP, hD⟩, hS.F ht⟩) hS.2.2 dX11_act_187
  have B_142 : ∀ (S : HS) (x1 x2 x3 x4 x5 x6 x7 x8 x9 y0 y1 : Int32) (H : Heap) (locs : List Loc) (ls : Array Slot), b_X11_act_142 S x1 x2 x3 x4 x5 x6 x7 x8 x9 y0 y1 = X → q_X11_act_142 S x1 x2 x3 x4 x5 x6 x7 x8 x9 y0 y1 → va_P G vwCl (hW K h g S) H → va_D A (hW K h g S) → va_S A s.heap H locs → lv_has ls 10 [(0, .ref h), (1, .int x1), (2, .int x2), (3, .int x3), (4, .int x4), (5, .int x5), (6, .int x6), (7, .int x7), (8, .int x8), (9, .int x9)] → W p l e ({ frames := 5, cells := 0, slots := 0, locals := 127 } : Room) s m #[Value.ref h, Value.int a1, Value.int a2, Value.int a3, Value.int a4, Value.int a5] below meth c H locs 0 0 Q (F0 m 142 ls [.int y0, .int y1, .ref (g 40)]) := by
    intro S x1 x2 x3 x4 x5 x6 x7 x8 x9 y0 y1 H locs ls hE hp hP hD hS hl
    unfold b_X11_act_142 at hE
    unfold q_X11_act_142 at hp
    obtain ⟨hy16, hp⟩ := hp
    refine va_iast hx hb hK hP hD hS 26 0 rfl rfl hy16 dX11_act_142 (fun H locs hP hD hS => ?_)
    rw [sA_40] at hP hD
    refine lv_aload_n hx hb dX11_act_143 rfl (lv_at hl 0 rfl) ?_
    refine va_get (D := G) (ci := 8) (v := .ref (g 40)) (C := RX11) (T := TX11) (N := 42) hx hb hts iX11 hown hK hP 0 rfl rfl 40 (by decide) (hw (.fieldLink RX11 90 "MotionFloorModel$Hall" "minutes" "[I") (List.mem_of_getElem? (i := 11) rfl)) (fun _ h9 => h9) rfl dX11_act_144 ?_
    refine lv_iload hx hb dX11_act_147 (lv_at hl 8 rfl) ?_
    refine lv_iconst (v := 4) hx hb dX11_act_149 (by decide) ?_
    refine lv_iadd hx hb dX11_act_150 ?_
    refine lv_iload hx hb dX11_act_151 (lv_at hl 9 rfl) ?_
    refine lv_iconst (v := 3) hx hb dX11_act_153 (by decide) ?_
    refine lv_icmp_le (tgt := 162) hx hb dX11_act_154 (by decide) (fun c17 => ?_) (fun c17 => ?_)
    · rw [if_pos c17] at hE hp
      refine lv_iconst (v := 0) hx hb dX11_act_162 (by decide) ?_
      exact B_163 (sA S 40 y1.toNatClampNeg y0) x1 x2 x3 x4 x5 x6 x7 x8 x9 0 (x8 + 4) _ _ _ hE hp hP hD hS (lv_sub hl [0, 1, 2, 3, 4, 5, 6, 7, 8, 9] rfl)
    · rw [if_neg c17] at hE hp
      refine lv_iload hx hb dX11_act_157 (lv_at hl 5 rfl) ?_
      refine lv_goto (tgt := 163) hx hb dX11_act_159 (by decide) ?_
      exact B_163 (sA S 40 y1.toNatClampNeg y0) x1 x2 x3 x4 x5 x6 x7 x8 x9 x5 (x8 + 4) _ _ _ hE hp hP hD hS (lv_sub hl [0, 1, 2, 3, 4, 5, 6, 7, 8, 9] rfl)
  have B_121 : ∀ (S : HS) (x1 x2 x3 x4 x5 x6 x7 x8 x9 y0 y1 : Int32) (H : Heap) (locs : List Loc) (ls : Array Slot), b_X11_act_121 S x1 x2 x3 x4 x5 x6 x7 x8 x9 y0 y1 = X → q_X11_act_121 S x1 x2 x3 x4 x5 x6 x7 x8 x9 y0 y1 → va_P G vwCl (hW K h g S) H → va_D A (hW K h g S) → va_S A s.heap H locs → lv_has ls 10 [(0, .ref h), (1, .int x1), (2, .int x2), (3, .int x3), (4, .int x4), (5, .int x5), (6, .int x6), (7, .int x7), (8, .int x8), (9, .int x9)] → W p l e ({ frames := 5, cells := 0, slots := 0, locals := 127 } : Room) s m #[Value.ref h, Value.int a1, Value.int a2, Value.int a3, Value.int a4, Value.int a5] below meth c H locs 0 0 Q (F0 m 121 ls [.int y0, .int y1, .ref (g 40)]) := by
    intro S x1 x2 x3 x4 x5 x6 x7 x8 x9 y0 y1 H locs ls hE hp hP hD hS hl
    unfold b_X11_act_121 at hE
    unfold q_X11_act_121 at hp
    obtain ⟨hy14, hp⟩ := hp
    refine va_iast hx hb hK hP hD hS 26 0 rfl rfl hy14 dX11_act_121 (fun H locs hP hD hS => ?_)
    rw [sA_40] at hP hD
    refine lv_aload_n hx hb dX11_act_122 rfl (lv_at hl 0 rfl) ?_
    refine va_get (D := G) (ci := 8) (v := .ref (g 40)) (C := RX11) (T := TX11) (N := 42) hx hb hts iX11 hown hK hP 0 rfl rfl 40 (by decide) (hw (.fieldLink RX11 90 "MotionFloorModel$Hall" "minutes" "[I") (List.mem_of_getElem? (i := 11) rfl)) (fun _ h9 => h9) rfl dX11_act_123 ?_
    refine lv_iload hx hb dX11_act_126 (lv_at hl 8 rfl) ?_
    refine lv_iconst (v := 3) hx hb dX11_act_128 (by decide) ?_
    refine lv_iadd hx hb dX11_act_129 ?_
    refine lv_iload hx hb dX11_act_130 (lv_at hl 9 rfl) ?_
    refine lv_iconst (v := 2) hx hb dX11_act_132 (by decide) ?_
    refine lv_icmp_le (tgt := 141) hx hb dX11_act_133 (by decide) (fun c15 => ?_) (fun c15 => ?_)
    · rw [if_pos c15] at hE hp
      refine lv_iconst (v := 0) hx hb dX11_act_141 (by decide) ?_
      exact B_142 (sA S 40 y1.toNatClampNeg y0) x1 x2 x3 x4 x5 x6 x7 x8 x9 0 (x8 + 3) _ _ _ hE hp hP hD hS (lv_sub hl [0, 1, 2, 3, 4, 5, 6, 7, 8, 9] rfl)
    · rw [if_neg c15] at hE hp
      refine lv_iload hx hb dX11_act_136 (lv_at hl 4 rfl) ?_
      refine lv_goto (tgt := 142) hx hb dX11_act_138 (by decide) ?_
      exact B_142 (sA S 40 y1.toNatClampNeg y0) x1 x2 x3 x4 x5 x6 x7 x8 x9 x4 (x8 + 3) _ _ _ hE hp hP hD hS (lv_sub hl [0, 1, 2, 3, 4, 5, 6, 7, 8, 9] rfl)
  have B_101 : ∀ (S : HS) (x1 x2 x3 x4 x5 x6 x7 x8 x9 y0 y1 : Int32) (H : Heap) (locs : List Loc) (ls : Array Slot), b_X11_act_101 S x1 x2 x3 x4 x5 x6 x7 x8 x9 y0 y1 = X → q_X11_act_101 S x1 x2 x3 x4 x5 x6 x7 x8 x9 y0 y1 → va_P G vwCl (hW K h g S) H → va_D A (hW K h g S) → va_S A s.heap H locs → lv_has ls 10 [(0, .ref h), (1, .int x1), (2, .int x2), (3, .int x3), (4, .int x4), (5, .int x5), (6, .int x6), (7, .int x7), (8, .int x8), (9, .int x9)] → W p l e ({ frames := 5, cells := 0, slots := 0, locals := 127 } : Room) s m #[Value.ref h, Value.int a1, Value.int a2, Value.int a3, Value.int a4, Value.int a5] below meth c H locs 0 0 Q (F0 m 101 ls [.int y0, .int y1, .ref (g 40)]) := by
    intro S x1 x2 x3 x4 x5 x6 x7 x8 x9 y0 y1 H locs ls hE hp hP hD hS hl
    unfold b_X11_act_101 at hE
    unfold q_X11_act_101 at hp
    obtain ⟨hy12, hp⟩ := hp
    refine va_iast hx hb hK hP hD hS 26 0 rfl rfl hy12 dX11_act_101 (fun H locs hP hD hS => ?_)
    rw [sA_40] at hP hD
    refine lv_aload_n hx hb dX11_act_102 rfl (lv_at hl 0 rfl) ?_
    refine va_get (D := G) (ci := 8) (v := .ref (g 40)) (C := RX11) (T := TX11) (N := 42) hx hb hts iX11 hown hK hP 0 rfl rfl 40 (by decide) (hw (.fieldLink RX11 90 "MotionFloorModel$Hall" "minutes" "[I") (List.mem_of_getElem? (i := 11) rfl)) (fun _ h9 => h9) rfl dX11_act_103 ?_
    refine lv_iload hx hb dX11_act_106 (lv_at hl 8 rfl) ?_
    refine lv_iconst (v := 2) hx hb dX11_act_108 (by decide) ?_
    refine lv_iadd hx hb dX11_act_109 ?_
    refine lv_iload hx hb dX11_act_110 (lv_at hl 9 rfl) ?_
    refine lv_iconst (v := 1) hx hb dX11_act_112 (by decide) ?_
    refine lv_icmp_le (tgt := 120) hx hb dX11_act_113 (by decide) (fun c13 => ?_) (fun c13 => ?_)
    · rw [if_pos c13] at hE hp
      refine lv_iconst (v := 0) hx hb dX11_act_120 (by decide) ?_
      exact B_121 (sA S 40 y1.toNatClampNeg y0) x1 x2 x3 x4 x5 x6 x7 x8 x9 0 (x8 + 2) _ _ _ hE hp hP hD hS (lv_sub hl [0, 1, 2, 3, 4, 5, 6, 7, 8, 9] rfl)
    · rw [if_neg c13] at hE hp
      refine lv_iload_n hx hb dX11_act_116 rfl (lv_at hl 3 rfl) ?_
      refine lv_goto (tgt := 121) hx hb dX11_act_117 (by decide) ?_
      exact B_121 (sA S 40 y1.toNatClampNeg y0) x1 x2 x3 x4 x5 x6 x7 x8 x9 x3 (x8 + 2) _ _ _ hE hp hP hD hS (lv_sub hl [0, 1, 2, 3, 4, 5, 6, 7, 8, 9] rfl)
  have B_32 : ∀ (S : HS) (x1 x2 x3 x4 x5 x6 : Int32) (H : Heap) (locs : List Loc) (ls : Array Slot), b_X11_act_32 S x1 x2 x3 x4 x5 x6 = X → q_X11_act_32 S x1 x2 x3 x4 x5 x6 → va_P G vwCl (hW K h g S) H → va_D A (hW K h g S) → va_S A s.heap H locs → lv_has ls 10 [(0, .ref h), (1, .int x1), (2, .int x2), (3, .int x3), (4, .int x4), (5, .int x5), (6, .int x6)] → W p l e ({ frames := 5, cells := 0, slots := 0, locals := 127 } : Room) s m #[Value.ref h, Value.int a1, Value.int a2, Value.int a3, Value.int a4, Value.int a5] below meth c H locs 0 0 Q (F0 m 32 ls []) := by
    intro S x1 x2 x3 x4 x5 x6 H locs ls hE hp hP hD hS hl
    unfold b_X11_act_32 at hE
    unfold q_X11_act_32 at hp
    refine lv_aload_n hx hb dX11_act_32 rfl (lv_at hl 0 rfl) ?_
    refine lv_iload hx hb dX11_act_33 (lv_at hl 6 rfl) ?_
    refine va_put (D := G) (ci := 8) (v := .int x6) (ty := .int) (C := RX11) (T := TX11) (N := 42) hx hb hts iX11 tyX11 tyX11_ok nmX11 hown hK hP hD hS 0 rfl rfl 10 (by decide) (hw (.fieldLink RX11 127 "MotionFloorModel$Hall" "why" "I") (List.mem_of_getElem? (i := 4) rfl)) (fun _ h9 => h9) rfl (by decide +kernel) rfl rfl (Nat.le_of_ble_eq_true rfl) dX11_act_35 (fun H locs hP hD hS => ?_)
    rw [sI_10] at hP hD
    refine lv_iload hx hb dX11_act_38 (lv_at hl 6 rfl) ?_
    refine lv_if_le (tgt := 47) hx hb dX11_act_40 (by decide) (fun c5 => ?_) (fun c5 => ?_)
    · rw [if_pos c5] at hE hp
      refine lv_aload_n hx hb dX11_act_47 rfl (lv_at hl 0 rfl) ?_
      refine lv_iload_n hx hb dX11_act_48 rfl (lv_at hl 1 rfl) ?_
      refine lv_iload_n hx hb dX11_act_49 rfl (lv_at hl 2 rfl) ?_
      refine lv_iload_n hx hb dX11_act_50 rfl (lv_at hl 3 rfl) ?_
      refine lv_iload hx hb dX11_act_51 (lv_at hl 4 rfl) ?_
      refine lv_iload hx hb dX11_act_53 (lv_at hl 5 rfl) ?_
      obtain ⟨hy6, hp⟩ := hp
      refine hGoi (va_runV (As := [.int x1, .int x2, .int x3, .int x4, .int x5]) (rest := []) ⟨hx, hb, hml, hown, hts⟩ (c_X11_does l G K h g (sI S 10 x6) x1 x2 x3 x4 x5 _) (cwV 5 hts (wGV t_ (mw (.methodLink RX11 200 yX11_does) (List.mem_of_getElem? (i := 5) rfl)) (mw (.instanceMethod yX11_does) (List.mem_of_getElem? (i := 6) rfl)) (mw (.selects RX11 yX11_does yX11_does) (List.mem_of_getElem? (i := 7) rfl)) (mw (.initialized RX11) (List.mem_of_getElem? (i := 3) rfl)) j_X11_does) rfl rfl rfl (by decide +kernel) ⟨Nat.le_of_ble_eq_true rfl, Nat.le_of_ble_eq_true rfl⟩) (hPV hK hTE hP hD hy6) rfl rfl hl.1 rfl (lv_room (Nat.le_of_ble_eq_true rfl)) dX11_act_55 ⟨Nat.le_of_ble_eq_true rfl, Nat.le_of_ble_eq_true rfl⟩) hP hD hS hA (fun r8 u7 H locs hv hP hD hS => ?_)
      rw [← hv] at hE hp
      dsimp only at hE hp
      unfold b_X11_act_a58 at hE
      unfold q_X11_act_a58 at hp
      refine lv_istore (lv' := [(7, .int r8), (0, .ref h), (1, .int x1), (2, .int x2), (3, .int x3), (4, .int x4), (5, .int x5), (6, .int x6)]) hx hb dX11_act_58 hl (by decide) rfl (fun ls hl => ?_)
      refine lv_bipush (v := 6) hx hb dX11_act_60 (by decide) ?_
      refine lv_aload_n hx hb dX11_act_62 rfl (lv_at hl 1 rfl) ?_
      refine va_get (D := G) (ci := 8) (v := .int (u7.1 7)) (C := RX11) (T := TX11) (N := 42) hx hb hts iX11 hown hK hP 0 rfl rfl 7 (by decide) (hw (.fieldLink RX11 118 "MotionFloorModel$Hall" "entries" "I") (List.mem_of_getElem? (i := 8) rfl)) (fun _ h9 => h9) rfl dX11_act_63 ?_
      refine lv_imul hx hb dX11_act_66 ?_
      refine lv_istore (lv' := [(8, .int (6 * (u7.1 7))), (7, .int r8), (0, .ref h), (1, .int x1), (2, .int x2), (3, .int x3), (4, .int x4), (5, .int x5), (6, .int x6)]) hx hb dX11_act_67 hl (by decide) rfl (fun ls hl => ?_)
      refine lv_iload_n hx hb dX11_act_69 rfl (lv_at hl 3 rfl) ?_
      obtain ⟨hy9, hp⟩ := hp
      refine nGoi (va_runSN (As := [.int x1]) (rest := []) ⟨hx, hb, hml, hown, hts⟩ (c_X12_numbers l G K x1 _) ⟨va_cnB (host := "MotionFloorModel") 1 hts (wGP t_ j_X12_numbers) rfl rfl rfl hTE.2.2.2.2.2.2.2.2.2.2 (hw (.initialized RX12) (List.mem_of_getElem? (i := 9) rfl)) (by decide +kernel) ⟨Nat.le_of_ble_eq_true rfl, Nat.le_of_ble_eq_true rfl⟩, (hw (.static yX12_numbers) (List.mem_of_getElem? (i := 10) rfl)), trivial⟩ (nPS hK hTE hy9) rfl rfl hl.1 rfl (lv_room (Nat.le_of_ble_eq_true rfl)) dX11_act_70 ⟨Nat.le_of_ble_eq_true rfl, Nat.le_of_ble_eq_true rfl⟩) hP hS hA (fun r H locs hv hP hS => ?_)
      subst hv
      refine lv_istore (lv' := [(9, .int (f_X12_numbers x1)), (8, .int (6 * (u7.1 7))), (7, .int r8), (0, .ref h), (1, .int x1), (2, .int x2), (3, .int x3), (4, .int x4), (5, .int x5), (6, .int x6)]) hx hb dX11_act_73 hl (by decide) rfl (fun ls hl => ?_)
      refine lv_aload_n hx hb dX11_act_75 rfl (lv_at hl 3 rfl) ?_
      refine va_get (D := G) (ci := 8) (v := .ref (g 40)) (C := RX11) (T := TX11) (N := 42) hx hb hts iX11 hown hK hP 0 rfl rfl 40 (by decide) (hw (.fieldLink RX11 90 "MotionFloorModel$Hall" "minutes" "[I") (List.mem_of_getElem? (i := 11) rfl)) (fun _ h9 => h9) rfl dX11_act_76 ?_
      refine lv_iload hx hb dX11_act_79 (lv_at hl 1 rfl) ?_
      refine lv_iload_n hx hb dX11_act_81 rfl (lv_at hl 4 rfl) ?_
      obtain ⟨hy10, hp⟩ := hp
      refine va_iast hx hb hK hP hD hS 26 0 rfl rfl hy10 dX11_act_82 (fun H locs hP hD hS => ?_)
      rw [sA_40] at hP hD
      refine lv_aload_n hx hb dX11_act_83 rfl (lv_at hl 3 rfl) ?_
      refine va_get (D := G) (ci := 8) (v := .ref (g 40)) (C := RX11) (T := TX11) (N := 42) hx hb hts iX11 hown hK hP 0 rfl rfl 40 (by decide) (hw (.fieldLink RX11 90 "MotionFloorModel$Hall" "minutes" "[I") (List.mem_of_getElem? (i := 11) rfl)) (fun _ h9 => h9) rfl dX11_act_84 ?_
      refine lv_iload hx hb dX11_act_87 (lv_at hl 1 rfl) ?_
      refine lv_iconst (v := 1) hx hb dX11_act_89 (by decide) ?_
      refine lv_iadd hx hb dX11_act_90 ?_
      refine lv_iload hx hb dX11_act_91 (lv_at hl 0 rfl) ?_
      refine lv_if_le (tgt := 100) hx hb dX11_act_93 (by decide) (fun c11 => ?_) (fun c11 => ?_)
      · rw [if_pos c11] at hE hp
        refine lv_iconst (v := 0) hx hb dX11_act_100 (by decide) ?_
        exact B_101 (sA u7 40 (6 * (u7.1 7)).toNatClampNeg x1) x1 x2 x3 x4 x5 x6 r8 (6 * (u7.1 7)) (f_X12_numbers x1) 0 ((6 * (u7.1 7)) + 1) _ _ _ hE hp hP hD hS (lv_sub hl [3, 4, 5, 6, 7, 8, 9, 2, 1, 0] rfl)
      · rw [if_neg c11] at hE hp
        refine lv_iload_n hx hb dX11_act_96 rfl (lv_at hl 5 rfl) ?_
        refine lv_goto (tgt := 101) hx hb dX11_act_97 (by decide) ?_
        exact B_101 (sA u7 40 (6 * (u7.1 7)).toNatClampNeg x1) x1 x2 x3 x4 x5 x6 r8 (6 * (u7.1 7)) (f_X12_numbers x1) x2 ((6 * (u7.1 7)) + 1) _ _ _ hE hp hP hD hS (lv_sub hl [3, 4, 5, 6, 7, 8, 9, 2, 1, 0] rfl)
    · rw [if_neg c5] at hE hp
      refine lv_iload hx hb dX11_act_43 (lv_at hl 6 rfl) ?_
      refine lv_ineg hx hb dX11_act_45 ?_
      subst hQ
      exact W.iret (v := (-x6)) hx hb hr (fun t ht hW => ⟨⟨(-x6), (sI S 10 x6), rfl, hE.trans hX.symm, by rw [ht]; exact hP, hD⟩, hS.F ht⟩) hS.2.2 dX11_act_46
  have B_M : ∀ (S : HS) (x1 x2 x3 x4 x5 : Int32) (H : Heap) (locs : List Loc) (ls : Array Slot), f_X11_act S x1 x2 x3 x4 x5 = X → p_X11_act S x1 x2 x3 x4 x5 → va_P G vwCl (hW K h g S) H → va_D A (hW K h g S) → va_S A s.heap H locs → lv_has ls 10 [(0, .ref h), (1, .int x1), (2, .int x2), (3, .int x3), (4, .int x4), (5, .int x5)] → W p l e ({ frames := 5, cells := 0, slots := 0, locals := 127 } : Room) s m #[Value.ref h, Value.int a1, Value.int a2, Value.int a3, Value.int a4, Value.int a5] below meth c H locs 0 0 Q (F0 m 0 ls []) := by
    intro S x1 x2 x3 x4 x5 H locs ls hE hp hP hD hS hl
    unfold f_X11_act at hE
    unfold p_X11_act at hp
    refine lv_aload_n hx hb dX11_act_0 rfl (lv_at hl 0 rfl) ?_
    refine lv_iload_n hx hb dX11_act_1 rfl (lv_at hl 1 rfl) ?_
    refine lv_iload_n hx hb dX11_act_2 rfl (lv_at hl 2 rfl) ?_
    refine lv_iload_n hx hb dX11_act_3 rfl (lv_at hl 3 rfl) ?_
    refine lv_iload hx hb dX11_act_4 (lv_at hl 4 rfl) ?_
    refine lv_iload hx hb dX11_act_6 (lv_at hl 5 rfl) ?_
    obtain ⟨hy1, hp⟩ := hp
    refine hGoi (va_runV (As := [.int x1, .int x2, .int x3, .int x4, .int x5]) (rest := []) ⟨hx, hb, hml, hown, hts⟩ (c_X11_reason l G K h g S x1 x2 x3 x4 x5 _) (cwV 5 hts (wGV t_ (mw (.methodLink RX11 196 yX11_reason) (List.mem_of_getElem? (i := 0) rfl)) (mw (.instanceMethod yX11_reason) (List.mem_of_getElem? (i := 1) rfl)) (mw (.selects RX11 yX11_reason yX11_reason) (List.mem_of_getElem? (i := 2) rfl)) (mw (.initialized RX11) (List.mem_of_getElem? (i := 3) rfl)) j_X11_reason) rfl rfl rfl (by decide +kernel) ⟨Nat.le_of_ble_eq_true rfl, Nat.le_of_ble_eq_true rfl⟩) (hPV hK hTE hP hD hy1) rfl rfl hl.1 rfl (lv_room (Nat.le_of_ble_eq_true rfl)) dX11_act_8 ⟨Nat.le_of_ble_eq_true rfl, Nat.le_of_ble_eq_true rfl⟩) hP hD hS hA (fun r3 u2 H locs hv hP hD hS => ?_)
    rw [← hv] at hE hp
    dsimp only at hE hp
    unfold b_X11_act_a11 at hE
    unfold q_X11_act_a11 at hp
    refine lv_istore (lv' := [(6, .int r3), (0, .ref h), (1, .int x1), (2, .int x2), (3, .int x3), (4, .int x4), (5, .int x5)]) hx hb dX11_act_11 hl (by decide) rfl (fun ls hl => ?_)
    refine lv_iload hx hb dX11_act_13 (lv_at hl 0 rfl) ?_
    refine lv_if_ne (tgt := 32) hx hb dX11_act_15 (by decide) (fun c4 => ?_) (fun c4 => ?_)
    · rw [if_neg c4] at hE hp
      exact B_32 u2 x1 x2 x3 x4 x5 r3 _ _ _ hE hp hP hD hS (lv_sub hl [1, 2, 3, 4, 5, 6, 0] rfl)
    · rw [if_pos c4] at hE hp
      refine lv_aload_n hx hb dX11_act_18 rfl (lv_at hl 1 rfl) ?_
      refine va_get (D := G) (ci := 8) (v := .int (u2.1 7)) (C := RX11) (T := TX11) (N := 42) hx hb hts iX11 hown hK hP 0 rfl rfl 7 (by decide) (hw (.fieldLink RX11 118 "MotionFloorModel$Hall" "entries" "I") (List.mem_of_getElem? (i := 8) rfl)) (fun _ h9 => h9) rfl dX11_act_19 ?_
      refine lv_sipush (v := 600) hx hb dX11_act_22 (by decide) ?_
      refine lv_icmp_ne (tgt := 32) hx hb dX11_act_25 (by decide) (fun c23 => ?_) (fun c23 => ?_)
      · rw [if_neg c23] at hE hp
        exact B_32 u2 x1 x2 x3 x4 x5 r3 _ _ _ hE hp hP hD hS (lv_sub hl [1, 2, 3, 4, 5, 6, 0] rfl)
      · rw [if_pos c23] at hE hp
        refine lv_bipush (v := 10) hx hb dX11_act_28 (by decide) ?_
        refine lv_istore (lv' := [(6, .int 10), (0, .ref h), (1, .int x1), (2, .int x2), (3, .int x3), (4, .int x4), (5, .int x5)]) hx hb dX11_act_30 hl (by decide) rfl (fun ls hl => ?_)
        exact B_32 u2 x1 x2 x3 x4 x5 10 _ _ _ hE hp hP hD hS (lv_sub hl [1, 2, 3, 4, 5, 6, 0] rfl)
  exact B_M S0 a1 a2 a3 a4 a5 _ _ _ hX hp hP hD hS hl
theorem gdX11_text_0 : ckS (List.drop 0 cX11_text.data.toList) 0 [(0, .iload_n 1, 1), (1, .iconst (-1), 1), (2, .if_icmp .ne 28, 3), (5, .iload_n 2, 1), (6, .iconst 0, 1), (7, .aload_n 0, 1), (8, .getfield 133, 3), (11, .iconst 1, 1), (12, .isub, 1), (13, .invokestatic 136, 3), (16, .ifCond .eq 12, 3), (19, .aload_n 0, 1), (20, .getfield 87, 3), (23, .iload_n 2, 1), (24, .iaload, 1), (25, .goto 4, 3), (28, .iconst (-1), 1), (29, .ireturn, 1), (30, .iload_n 1, 1), (31, .bipush 9, 2), (33, .if_icmp .ne 30, 3), (36, .aload_n 0, 1), (37, .getfield 130, 3), (40, .ifCond .le 19, 3), (43, .aload_n 0, 1), (44, .getfield 151, 3), (47, .ifCond .ne 12, 3), (50, .aload_n 0, 1), (51, .getfield 75, 3), (54, .iconst 0, 1), (55, .iaload, 1), (56, .goto 31, 3), (59, .iconst (-1), 1), (60, .goto 27, 3), (63, .iload_n 1, 1), (64, .iconst 0, 1), (65, .aload_n 0, 1), (66, .getfield 115, 3), (69, .iconst 1, 1), (70, .isub, 1)] = true := by decide +kernel
theorem dX11_text_0 : decode cX11_text 0 = .ok (.iload_n 1, 1) := ckS_g gdX11_text_0 0 rfl
theorem dX11_text_1 : decode cX11_text 1 = .ok (.iconst (-1), 1) := ckS_g gdX11_text_0 1 rfl
theorem dX11_text_2 : decode cX11_text 2 = .ok (.if_icmp .ne 28, 3) := ckS_g gdX11_text_0 2 rfl
theorem dX11_text_5 : decode cX11_text 5 = .ok (.iload_n 2, 1) := ckS_g gdX11_text_0 3 rfl
theorem dX11_text_6 : decode cX11_text 6 = .ok (.iconst 0, 1) := ckS_g gdX11_text_0 4 rfl
theorem dX11_text_7 : decode cX11_text 7 = .ok (.aload_n 0, 1) := ckS_g gdX11_text_0 5 rfl
theorem dX11_text_8 : decode cX11_text 8 = .ok (.getfield 133, 3) := ckS_g gdX11_text_0 6 rfl
theorem dX11_text_11 : decode cX11_text 11 = .ok (.iconst 1, 1) := ckS_g gdX11_text_0 7 rfl
theorem dX11_text_12 : decode cX11_text 12 = .ok (.isub, 1) := ckS_g gdX11_text_0 8 rfl
theorem dX11_text_13 : decode cX11_text 13 = .ok (.invokestatic 136, 3) := ckS_g gdX11_text_0 9 rfl
theorem dX11_text_16 : decode cX11_text 16 = .ok (.ifCond .eq 12, 3) := ckS_g gdX11_text_0 10 rfl
theorem dX11_text_19 : decode cX11_text 19 = .ok (.aload_n 0, 1) := ckS_g gdX11_text_0 11 rfl
theorem dX11_text_20 : decode cX11_text 20 = .ok (.getfield 87, 3) := ckS_g gdX11_text_0 12 rfl
theorem dX11_text_23 : decode cX11_text 23 = .ok (.iload_n 2, 1) := ckS_g gdX11_text_0 13 rfl
theorem dX11_text_24 : decode cX11_text 24 = .ok (.iaload, 1) := ckS_g gdX11_text_0 14 rfl
theorem dX11_text_25 : decode cX11_text 25 = .ok (.goto 4, 3) := ckS_g gdX11_text_0 15 rfl
theorem dX11_text_28 : decode cX11_text 28 = .ok (.iconst (-1), 1) := ckS_g gdX11_text_0 16 rfl
theorem dX11_text_29 : decode cX11_text 29 = .ok (.ireturn, 1) := ckS_g gdX11_text_0 17 rfl
theorem dX11_text_30 : decode cX11_text 30 = .ok (.iload_n 1, 1) := ckS_g gdX11_text_0 18 rfl
theorem dX11_text_31 : decode cX11_text 31 = .ok (.bipush 9, 2) := ckS_g gdX11_text_0 19 rfl
theorem dX11_text_33 : decode cX11_text 33 = .ok (.if_icmp .ne 30, 3) := ckS_g gdX11_text_0 20 rfl
theorem dX11_text_36 : decode cX11_text 36 = .ok (.aload_n 0, 1) := ckS_g gdX11_text_0 21 rfl
theorem dX11_text_37 : decode cX11_text 37 = .ok (.getfield 130, 3) := ckS_g gdX11_text_0 22 rfl
theorem dX11_text_40 : decode cX11_text 40 = .ok (.ifCond .le 19, 3) := ckS_g gdX11_text_0 23 rfl
theorem dX11_text_43 : decode cX11_text 43 = .ok (.aload_n 0, 1) := ckS_g gdX11_text_0 24 rfl
theorem dX11_text_44 : decode cX11_text 44 = .ok (.getfield 151, 3) := ckS_g gdX11_text_0 25 rfl
theorem dX11_text_47 : decode cX11_text 47 = .ok (.ifCond .ne 12, 3) := ckS_g gdX11_text_0 26 rfl
theorem dX11_text_50 : decode cX11_text 50 = .ok (.aload_n 0, 1) := ckS_g gdX11_text_0 27 rfl
theorem dX11_text_51 : decode cX11_text 51 = .ok (.getfield 75, 3) := ckS_g gdX11_text_0 28 rfl
theorem dX11_text_54 : decode cX11_text 54 = .ok (.iconst 0, 1) := ckS_g gdX11_text_0 29 rfl
theorem dX11_text_55 : decode cX11_text 55 = .ok (.iaload, 1) := ckS_g gdX11_text_0 30 rfl
theorem dX11_text_56 : decode cX11_text 56 = .ok (.goto 31, 3) := ckS_g gdX11_text_0 31 rfl
theorem dX11_text_59 : decode cX11_text 59 = .ok (.iconst (-1), 1) := ckS_g gdX11_text_0 32 rfl
theorem dX11_text_60 : decode cX11_text 60 = .ok (.goto 27, 3) := ckS_g gdX11_text_0 33 rfl
theorem dX11_text_63 : decode cX11_text 63 = .ok (.iload_n 1, 1) := ckS_g gdX11_text_0 34 rfl
theorem dX11_text_64 : decode cX11_text 64 = .ok (.iconst 0, 1) := ckS_g gdX11_text_0 35 rfl
theorem dX11_text_65 : decode cX11_text 65 = .ok (.aload_n 0, 1) := ckS_g gdX11_text_0 36 rfl
theorem dX11_text_66 : decode cX11_text 66 = .ok (.getfield 115, 3) := ckS_g gdX11_text_0 37 rfl
theorem dX11_text_69 : decode cX11_text 69 = .ok (.iconst 1, 1) := ckS_g gdX11_text_0 38 rfl
theorem dX11_text_70 : decode cX11_text 70 = .ok (.isub, 1) := ckS_g gdX11_text_0 39 rfl
theorem gdX11_text_71 : ckS (List.drop 71 cX11_text.data.toList) 71 [(71, .invokestatic 136, 3), (74, .ifCond .eq 12, 3), (77, .aload_n 0, 1), (78, .getfield 72, 3), (81, .iload_n 1, 1), (82, .iaload, 1), (83, .goto 4, 3), (86, .iconst (-1), 1), (87, .istore_n 3, 1), (88, .iload_n 3, 1), (89, .iconst (-1), 1), (90, .if_icmp .eq 34, 3), (93, .iload_n 2, 1), (94, .iconst 0, 1), (95, .aload_n 0, 1), (96, .getfield 37, 3), (99, .iload_n 3, 1), (100, .iaload, 1), (101, .iconst 1, 1), (102, .isub, 1), (103, .invokestatic 136, 3), (106, .ifCond .eq 18, 3), (109, .aload_n 0, 1), (110, .getfield 65, 3), (113, .sipush 400, 3), (116, .iload_n 3, 1), (117, .imul, 1), (118, .iload_n 2, 1), (119, .iadd, 1), (120, .iaload, 1), (121, .goto 4, 3), (124, .iconst (-1), 1), (125, .ireturn, 1)] = true := by decide +kernel
theorem dX11_text_71 : decode cX11_text 71 = .ok (.invokestatic 136, 3) := ckS_g gdX11_text_71 0 rfl
theorem dX11_text_74 : decode cX11_text 74 = .ok (.ifCond .eq 12, 3) := ckS_g gdX11_text_71 1 rfl
theorem dX11_text_77 : decode cX11_text 77 = .ok (.aload_n 0, 1) := ckS_g gdX11_text_71 2 rfl
theorem dX11_text_78 : decode cX11_text 78 = .ok (.getfield 72, 3) := ckS_g gdX11_text_71 3 rfl
theorem dX11_text_81 : decode cX11_text 81 = .ok (.iload_n 1, 1) := ckS_g gdX11_text_71 4 rfl
theorem dX11_text_82 : decode cX11_text 82 = .ok (.iaload, 1) := ckS_g gdX11_text_71 5 rfl
theorem dX11_text_83 : decode cX11_text 83 = .ok (.goto 4, 3) := ckS_g gdX11_text_71 6 rfl
theorem dX11_text_86 : decode cX11_text 86 = .ok (.iconst (-1), 1) := ckS_g gdX11_text_71 7 rfl
theorem dX11_text_87 : decode cX11_text 87 = .ok (.istore_n 3, 1) := ckS_g gdX11_text_71 8 rfl
theorem dX11_text_88 : decode cX11_text 88 = .ok (.iload_n 3, 1) := ckS_g gdX11_text_71 9 rfl
theorem dX11_text_89 : decode cX11_text 89 = .ok (.iconst (-1), 1) := ckS_g gdX11_text_71 10 rfl
theorem dX11_text_90 : decode cX11_text 90 = .ok (.if_icmp .eq 34, 3) := ckS_g gdX11_text_71 11 rfl
theorem dX11_text_93 : decode cX11_text 93 = .ok (.iload_n 2, 1) := ckS_g gdX11_text_71 12 rfl
theorem dX11_text_94 : decode cX11_text 94 = .ok (.iconst 0, 1) := ckS_g gdX11_text_71 13 rfl
theorem dX11_text_95 : decode cX11_text 95 = .ok (.aload_n 0, 1) := ckS_g gdX11_text_71 14 rfl
theorem dX11_text_96 : decode cX11_text 96 = .ok (.getfield 37, 3) := ckS_g gdX11_text_71 15 rfl
theorem dX11_text_99 : decode cX11_text 99 = .ok (.iload_n 3, 1) := ckS_g gdX11_text_71 16 rfl
theorem dX11_text_100 : decode cX11_text 100 = .ok (.iaload, 1) := ckS_g gdX11_text_71 17 rfl
theorem dX11_text_101 : decode cX11_text 101 = .ok (.iconst 1, 1) := ckS_g gdX11_text_71 18 rfl
theorem dX11_text_102 : decode cX11_text 102 = .ok (.isub, 1) := ckS_g gdX11_text_71 19 rfl
theorem dX11_text_103 : decode cX11_text 103 = .ok (.invokestatic 136, 3) := ckS_g gdX11_text_71 20 rfl
theorem dX11_text_106 : decode cX11_text 106 = .ok (.ifCond .eq 18, 3) := ckS_g gdX11_text_71 21 rfl
theorem dX11_text_109 : decode cX11_text 109 = .ok (.aload_n 0, 1) := ckS_g gdX11_text_71 22 rfl
theorem dX11_text_110 : decode cX11_text 110 = .ok (.getfield 65, 3) := ckS_g gdX11_text_71 23 rfl
theorem dX11_text_113 : decode cX11_text 113 = .ok (.sipush 400, 3) := ckS_g gdX11_text_71 24 rfl
theorem dX11_text_116 : decode cX11_text 116 = .ok (.iload_n 3, 1) := ckS_g gdX11_text_71 25 rfl
theorem dX11_text_117 : decode cX11_text 117 = .ok (.imul, 1) := ckS_g gdX11_text_71 26 rfl
theorem dX11_text_118 : decode cX11_text 118 = .ok (.iload_n 2, 1) := ckS_g gdX11_text_71 27 rfl
theorem dX11_text_119 : decode cX11_text 119 = .ok (.iadd, 1) := ckS_g gdX11_text_71 28 rfl
theorem dX11_text_120 : decode cX11_text 120 = .ok (.iaload, 1) := ckS_g gdX11_text_71 29 rfl
theorem dX11_text_121 : decode cX11_text 121 = .ok (.goto 4, 3) := ckS_g gdX11_text_71 30 rfl
theorem dX11_text_124 : decode cX11_text 124 = .ok (.iconst (-1), 1) := ckS_g gdX11_text_71 31 rfl
theorem dX11_text_125 : decode cX11_text 125 = .ok (.ireturn, 1) := ckS_g gdX11_text_71 32 rfl
set_option maxRecDepth 100000 in
theorem z207 : wZ (.code yX11_text cX11_text 4 (some .int)) := ⟨wT6 (List.mem_of_getElem? (i := 221) rfl), Or.inl rfl⟩
def b_X11_text_125 (S : HS) (x1 x2 x3 y0 : Int32) : Int32 × HS := (y0, S)
def q_X11_text_125 (S : HS) (x1 x2 x3 y0 : Int32) : Prop := True
def b_X11_text_124 (S : HS) (x1 x2 x3 : Int32) : Int32 × HS := (b_X11_text_125 S x1 x2 x3 (-1))
def q_X11_text_124 (S : HS) (x1 x2 x3 : Int32) : Prop := (q_X11_text_125 S x1 x2 x3 (-1))
def b_X11_text_87 (S : HS) (x1 x2 y0 : Int32) : Int32 × HS := if y0 = (-1) then (b_X11_text_124 S x1 x2 y0) else if (f_X12_in x2 0 ((S.2 19 y0.toNatClampNeg) - 1)) = 0 then (b_X11_text_124 S x1 x2 y0) else (b_X11_text_125 S x1 x2 y0 (S.2 28 ((400 * y0) + x2).toNatClampNeg))
def q_X11_text_87 (S : HS) (x1 x2 y0 : Int32) : Prop := (if y0 = (-1) then (q_X11_text_124 S x1 x2 y0) else (vp_in y0 90) ∧ (p_X12_in x2 0 ((S.2 19 y0.toNatClampNeg) - 1)) ∧ (if (f_X12_in x2 0 ((S.2 19 y0.toNatClampNeg) - 1)) = 0 then (q_X11_text_124 S x1 x2 y0) else (vp_in ((400 * y0) + x2) 36000) ∧ (q_X11_text_125 S x1 x2 y0 (S.2 28 ((400 * y0) + x2).toNatClampNeg))))
def b_X11_text_59 (S : HS) (x1 x2 : Int32) : Int32 × HS := (b_X11_text_87 S x1 x2 (-1))
def q_X11_text_59 (S : HS) (x1 x2 : Int32) : Prop := (q_X11_text_87 S x1 x2 (-1))
def b_X11_text_29 (S : HS) (x1 x2 y0 : Int32) : Int32 × HS := (y0, S)
def q_X11_text_29 (S : HS) (x1 x2 y0 : Int32) : Prop := True
def f_X11_text (S : HS) (x1 x2 : Int32) : Int32 × HS := if x1 = (-1) then if (f_X12_in x2 0 ((S.1 39) - 1)) = 0 then (b_X11_text_29 S x1 x2 (-1)) else (b_X11_text_29 S x1 x2 (S.2 38 x2.toNatClampNeg)) else if x1 = 9 then if (S.1 35) ≤ 0 then (b_X11_text_59 S x1 x2) else if (S.1 36) = 0 then (b_X11_text_87 S x1 x2 (S.2 32 (0 : Int32).toNatClampNeg)) else (b_X11_text_59 S x1 x2) else if (f_X12_in x1 0 ((S.1 6) - 1)) = 0 then (b_X11_text_87 S x1 x2 (-1)) else (b_X11_text_87 S x1 x2 (S.2 31 x1.toNatClampNeg))
def p_X11_text (S : HS) (x1 x2 : Int32) : Prop := (if x1 = (-1) then (p_X12_in x2 0 ((S.1 39) - 1)) ∧ (if (f_X12_in x2 0 ((S.1 39) - 1)) = 0 then (q_X11_text_29 S x1 x2 (-1)) else (vp_in x2 400) ∧ (q_X11_text_29 S x1 x2 (S.2 38 x2.toNatClampNeg))) else (if x1 = 9 then (if (S.1 35) ≤ 0 then (q_X11_text_59 S x1 x2) else (if (S.1 36) = 0 then (vp_in 0 9) ∧ (q_X11_text_87 S x1 x2 (S.2 32 (0 : Int32).toNatClampNeg)) else (q_X11_text_59 S x1 x2))) else (p_X12_in x1 0 ((S.1 6) - 1)) ∧ (if (f_X12_in x1 0 ((S.1 6) - 1)) = 0 then (q_X11_text_87 S x1 x2 (-1)) else (vp_in x1 9) ∧ (q_X11_text_87 S x1 x2 (S.2 31 x1.toNatClampNeg)))))
def e_X11_text : List Cond := [.fieldLink RX11 115 "MotionFloorModel$Hall" "pending" "I", .initialized RX12, .static yX12_in, .fieldLink RX11 37 "MotionFloorModel$Hall" "words" "[I", .fieldLink RX11 65 "MotionFloorModel$Hall" "text" "[I", .fieldLink RX11 72 "MotionFloorModel$Hall" "row" "[I", .fieldLink RX11 130 "MotionFloorModel$Hall" "drafted" "I", .fieldLink RX11 151 "MotionFloorModel$Hall" "draftTabled" "Z", .fieldLink RX11 75 "MotionFloorModel$Hall" "draft" "[I", .fieldLink RX11 133 "MotionFloorModel$Hall" "lastWords" "I", .fieldLink RX11 87 "MotionFloorModel$Hall" "last" "[I"]
def v_X11_text : List Cond := .code yX11_text cX11_text 4 (some .int) :: (e_X11_text ++ (wsX110 ++ (v_X12_in ++ [])))
theorem te_X11_text : GoodIn lw_tbl e_X11_text := wGc z56 (wGc z1 (wGc z2 (wGc z76 (wGc z137 (wGc z57 (wGc z86 (wGc z85 (wGc z84 (wGc z158 (wGc z154 (wG0)))))))))))
theorem t_X11_text : GoodIn lw_tbl v_X11_text := wGc z207 (wGa te_X11_text (wGa zcX11 (wGa t_X12_in (wG0))))
set_option maxHeartbeats 4000000 in
set_option maxRecDepth 100000 in
theorem c_X11_text (l : Launch) (G : va_G) (K : Nat → ClassId) (h : Nat) (g : Nat → Nat) (S0 : HS) (a1 a2 : Int32) (sz : Nat) : Met l yX11_text v_X11_text ({ frames := 1, cells := 0, slots := 0, locals := 22 }) (va_Pc [.ref h, .int a1, .int a2] (hS G K h g sz S0 (p_X11_text S0 a1 a2))) (va_Qi (fun (r : Int32) (u : HS) => (r, u) = f_X11_text S0 a1 a2) (hB G K h g (va_A (hW K h g S0) sz)) (va_A (hW K h g S0) sz)) 0 0 (va_A (hW K h g S0) sz) := by
  refine Met.ofW (cc := cX11_text) (maxL := 4) (ret := (some .int)) (by decide) rfl ?_
  intro p e s m args below meth c s₁ B hml hv
  obtain ⟨rfl, ⟨hsz, hP, hK, hD0, hTE⟩, hp⟩ := hv
  have hx := B.exec
  have hb := B.bytes
  have hr := B.returns
  have hts := atoms_spec (ws := v_X11_text) B.pre
  have t_ := t_X11_text
  have mw : ∀ w ∈ e_X11_text, w ∈ v_X11_text := fun w h => List.mem_cons_of_mem _ (List.mem_append_left _ h)
  have hw := fun w (h : w ∈ e_X11_text) => hts w (mw w h)
  have iX11 : ∀ w ∈ wsX110, w ∈ v_X11_text := fun w h => List.mem_cons_of_mem _ (List.mem_append_right _ (List.mem_append_left _ h))
  have j_X12_in : ∀ w ∈ v_X12_in, w ∈ v_X11_text := fun w h => List.mem_cons_of_mem _ (List.mem_append_right _ (List.mem_append_right _ (List.mem_append_left _ h)))
  have hown : s.vm.findClass RX11 = some m.cls := findClass_of_methodNamed B.named
  have hlocks := B.notSynchronized
  subst hsz
  have hD := hD0.self (sz := s.heap.size)
  generalize hAe : va_A (hW K h g S0) s.heap.size = A at hD ⊢
  have hA : ∀ q : Nat, s.heap.size ≤ q → A q := fun q h => by rw [← hAe]; exact Or.inr h
  have hS : va_S A s.heap s.heap [] := va_S.rf
  have hl := lv_entry ([.ref h, .int a1, .int a2]) (n := 4) (Nat.le_of_ble_eq_true rfl)
  rw [lg_entry_eq]
  generalize (lg_sl ([.ref h, .int a1, .int a2]) ++ List.replicate (4 - (lg_sl ([.ref h, .int a1, .int a2])).length) Slot.unset).toArray = ls at hl ⊢
  have hl : lv_has ls 4 [(0, .ref h), (1, .int a1), (2, .int a2)] := hl
  refine wGen (fun Q hQ => ?_)
  obtain ⟨X, hX⟩ : ∃ X, f_X11_text S0 a1 a2 = X := ⟨_, rfl⟩
  have B_125 : ∀ (S : HS) (x1 x2 x3 y0 : Int32) (H : Heap) (locs : List Loc) (ls : Array Slot), b_X11_text_125 S x1 x2 x3 y0 = X → q_X11_text_125 S x1 x2 x3 y0 → va_P G vwCl (hW K h g S) H → va_D A (hW K h g S) → va_S A s.heap H locs → lv_has ls 4 [(0, .ref h), (1, .int x1), (2, .int x2), (3, .int x3)] → W p l e ({ frames := 1, cells := 0, slots := 0, locals := 22 } : Room) s m #[Value.ref h, Value.int a1, Value.int a2] below meth c H locs 0 0 Q (F0 m 125 ls [.int y0]) := by
    intro S x1 x2 x3 y0 H locs ls hE hp hP hD hS hl
    unfold b_X11_text_125 at hE
    unfold q_X11_text_125 at hp
    subst hQ
    exact W.iret (v := y0) hx hb hr (fun t ht hW => ⟨⟨y0, S, rfl, hE.trans hX.symm, by rw [ht]; exact hP, hD⟩, hS.F ht⟩) hS.2.2 dX11_text_125
  have B_124 : ∀ (S : HS) (x1 x2 x3 : Int32) (H : Heap) (locs : List Loc) (ls : Array Slot), b_X11_text_124 S x1 x2 x3 = X → q_X11_text_124 S x1 x2 x3 → va_P G vwCl (hW K h g S) H → va_D A (hW K h g S) → va_S A s.heap H locs → lv_has ls 4 [(0, .ref h), (1, .int x1), (2, .int x2), (3, .int x3)] → W p l e ({ frames := 1, cells := 0, slots := 0, locals := 22 } : Room) s m #[Value.ref h, Value.int a1, Value.int a2] below meth c H locs 0 0 Q (F0 m 124 ls []) := by
    intro S x1 x2 x3 H locs ls hE hp hP hD hS hl
    unfold b_X11_text_124 at hE
    unfold q_X11_text_124 at hp
    refine lv_iconst (v := (-1)) hx hb dX11_text_124 (by decide) ?_
    exact B_125 S x1 x2 x3 (-1) _ _ _ hE hp hP hD hS (lv_sub hl [0, 1, 2, 3] rfl)
  have B_87 : ∀ (S : HS) (x1 x2 y0 : Int32) (H : Heap) (locs : List Loc) (ls : Array Slot), b_X11_text_87 S x1 x2 y0 = X → q_X11_text_87 S x1 x2 y0 → va_P G vwCl (hW K h g S) H → va_D A (hW K h g S) → va_S A s.heap H locs → lv_has ls 4 [(0, .ref h), (1, .int x1), (2, .int x2)] → W p l e ({ frames := 1, cells := 0, slots := 0, locals := 22 } : Room) s m #[Value.ref h, Value.int a1, Value.int a2] below meth c H locs 0 0 Q (F0 m 87 ls [.int y0]) := by
    intro S x1 x2 y0 H locs ls hE hp hP hD hS hl
    unfold b_X11_text_87 at hE
    unfold q_X11_text_87 at hp
    refine lv_istore_n (lv' := [(3, .int y0), (0, .ref h), (1, .int x1), (2, .int x2)]) hx hb dX11_text_87 rfl hl (by decide) rfl (fun ls hl => ?_)
    refine lv_iload_n hx hb dX11_text_88 rfl (lv_at hl 0 rfl) ?_
    refine lv_iconst (v := (-1)) hx hb dX11_text_89 (by decide) ?_
    refine lv_icmp_eq (tgt := 124) hx hb dX11_text_90 (by decide) (fun c5 => ?_) (fun c5 => ?_)
    · rw [if_pos c5] at hE hp
      exact B_124 S x1 x2 y0 _ _ _ hE hp hP hD hS (lv_sub hl [1, 2, 3, 0] rfl)
    · rw [if_neg c5] at hE hp
      refine lv_iload_n hx hb dX11_text_93 rfl (lv_at hl 3 rfl) ?_
      refine lv_iconst (v := 0) hx hb dX11_text_94 (by decide) ?_
      refine lv_aload_n hx hb dX11_text_95 rfl (lv_at hl 1 rfl) ?_
      refine va_get (D := G) (ci := 8) (v := .ref (g 19)) (C := RX11) (T := TX11) (N := 42) hx hb hts iX11 hown hK hP 0 rfl rfl 19 (by decide) (hw (.fieldLink RX11 37 "MotionFloorModel$Hall" "words" "[I") (List.mem_of_getElem? (i := 3) rfl)) (fun _ h9 => h9) rfl dX11_text_96 ?_
      refine lv_iload_n hx hb dX11_text_99 rfl (lv_at hl 0 rfl) ?_
      obtain ⟨hy6, hp⟩ := hp
      refine va_iald hx hb hK hP 9 0 rfl rfl hy6 dX11_text_100 ?_
      refine lv_iconst (v := 1) hx hb dX11_text_101 (by decide) ?_
      refine lv_isub hx hb dX11_text_102 ?_
      obtain ⟨hy7, hp⟩ := hp
      refine nGoi (va_runSN (As := [.int x2, .int 0, .int ((S.2 19 y0.toNatClampNeg) - 1)]) (rest := []) ⟨hx, hb, hml, hown, hts⟩ (c_X12_in l G K x2 0 ((S.2 19 y0.toNatClampNeg) - 1) _) ⟨va_cnB (host := "MotionFloorModel") 3 hts (wGP t_ j_X12_in) rfl rfl rfl hTE.2.2.2.2.2.2.2.2.2.1 (hw (.initialized RX12) (List.mem_of_getElem? (i := 1) rfl)) (by decide +kernel) ⟨Nat.le_of_ble_eq_true rfl, Nat.le_of_ble_eq_true rfl⟩, (hw (.static yX12_in) (List.mem_of_getElem? (i := 2) rfl)), trivial⟩ (nPS hK hTE hy7) rfl rfl hl.1 rfl (lv_room (Nat.le_of_ble_eq_true rfl)) dX11_text_103 ⟨Nat.le_of_ble_eq_true rfl, Nat.le_of_ble_eq_true rfl⟩) hP hS hA (fun r H locs hv hP hS => ?_)
      subst hv
      refine lv_if_eq (tgt := 124) hx hb dX11_text_106 (by decide) (fun c8 => ?_) (fun c8 => ?_)
      · rw [if_pos c8] at hE hp
        exact B_124 S x1 x2 y0 _ _ _ hE hp hP hD hS (lv_sub hl [1, 2, 3, 0] rfl)
      · rw [if_neg c8] at hE hp
        refine lv_aload_n hx hb dX11_text_109 rfl (lv_at hl 1 rfl) ?_
        refine va_get (D := G) (ci := 8) (v := .ref (g 28)) (C := RX11) (T := TX11) (N := 42) hx hb hts iX11 hown hK hP 0 rfl rfl 28 (by decide) (hw (.fieldLink RX11 65 "MotionFloorModel$Hall" "text" "[I") (List.mem_of_getElem? (i := 4) rfl)) (fun _ h9 => h9) rfl dX11_text_110 ?_
        refine lv_sipush (v := 400) hx hb dX11_text_113 (by decide) ?_
        refine lv_iload_n hx hb dX11_text_116 rfl (lv_at hl 0 rfl) ?_
        refine lv_imul hx hb dX11_text_117 ?_
        refine lv_iload_n hx hb dX11_text_118 rfl (lv_at hl 3 rfl) ?_
        refine lv_iadd hx hb dX11_text_119 ?_
        obtain ⟨hy9, hp⟩ := hp
        refine va_iald hx hb hK hP 18 0 rfl rfl hy9 dX11_text_120 ?_
        refine lv_goto (tgt := 125) hx hb dX11_text_121 (by decide) ?_
        exact B_125 S x1 x2 y0 (S.2 28 ((400 * y0) + x2).toNatClampNeg) _ _ _ hE hp hP hD hS (lv_sub hl [1, 2, 3, 0] rfl)
  have B_59 : ∀ (S : HS) (x1 x2 : Int32) (H : Heap) (locs : List Loc) (ls : Array Slot), b_X11_text_59 S x1 x2 = X → q_X11_text_59 S x1 x2 → va_P G vwCl (hW K h g S) H → va_D A (hW K h g S) → va_S A s.heap H locs → lv_has ls 4 [(0, .ref h), (1, .int x1), (2, .int x2)] → W p l e ({ frames := 1, cells := 0, slots := 0, locals := 22 } : Room) s m #[Value.ref h, Value.int a1, Value.int a2] below meth c H locs 0 0 Q (F0 m 59 ls []) := by
    intro S x1 x2 H locs ls hE hp hP hD hS hl
    unfold b_X11_text_59 at hE
    unfold q_X11_text_59 at hp
    refine lv_iconst (v := (-1)) hx hb dX11_text_59 (by decide) ?_
    refine lv_goto (tgt := 87) hx hb dX11_text_60 (by decide) ?_
    exact B_87 S x1 x2 (-1) _ _ _ hE hp hP hD hS (lv_sub hl [0, 1, 2] rfl)
  have B_29 : ∀ (S : HS) (x1 x2 y0 : Int32) (H : Heap) (locs : List Loc) (ls : Array Slot), b_X11_text_29 S x1 x2 y0 = X → q_X11_text_29 S x1 x2 y0 → va_P G vwCl (hW K h g S) H → va_D A (hW K h g S) → va_S A s.heap H locs → lv_has ls 4 [(0, .ref h), (1, .int x1), (2, .int x2)] → W p l e ({ frames := 1, cells := 0, slots := 0, locals := 22 } : Room) s m #[Value.ref h, Value.int a1, Value.int a2] below meth c H locs 0 0 Q (F0 m 29 ls [.int y0]) := by
    intro S x1 x2 y0 H locs ls hE hp hP hD hS hl
    unfold b_X11_text_29 at hE
    unfold q_X11_text_29 at hp
    subst hQ
    exact W.iret (v := y0) hx hb hr (fun t ht hW => ⟨⟨y0, S, rfl, hE.trans hX.symm, by rw [ht]; exact hP, hD⟩, hS.F ht⟩) hS.2.2 dX11_text_29
  have B_M : ∀ (S : HS) (x1 x2 : Int32) (H : Heap) (locs : List Loc) (ls : Array Slot), f_X11_text S x1 x2 = X → p_X11_text S x1 x2 → va_P G vwCl (hW K h g S) H → va_D A (hW K h g S) → va_S A s.heap H locs → lv_has ls 4 [(0, .ref h), (1, .int x1), (2, .int x2)] → W p l e ({ frames := 1, cells := 0, slots := 0, locals := 22 } : Room) s m #[Value.ref h, Value.int a1, Value.int a2] below meth c H locs 0 0 Q (F0 m 0 ls []) := by
    intro S x1 x2 H locs ls hE hp hP hD hS hl
    unfold f_X11_text at hE
    unfold p_X11_text at hp
    refine lv_iload_n hx hb dX11_text_0 rfl (lv_at hl 1 rfl) ?_
    refine lv_iconst (v := (-1)) hx hb dX11_text_1 (by decide) ?_
    refine lv_icmp_ne (tgt := 30) hx hb dX11_text_2 (by decide) (fun c1 => ?_) (fun c1 => ?_)
    · rw [if_neg c1] at hE hp
      refine lv_iload_n hx hb dX11_text_30 rfl (lv_at hl 1 rfl) ?_
      refine lv_bipush (v := 9) hx hb dX11_text_31 (by decide) ?_
      refine lv_icmp_ne (tgt := 63) hx hb dX11_text_33 (by decide) (fun c2 => ?_) (fun c2 => ?_)
      · rw [if_neg c2] at hE hp
        refine lv_iload_n hx hb dX11_text_63 rfl (lv_at hl 1 rfl) ?_
        refine lv_iconst (v := 0) hx hb dX11_text_64 (by decide) ?_
        refine lv_aload_n hx hb dX11_text_65 rfl (lv_at hl 0 rfl) ?_
        refine va_get (D := G) (ci := 8) (v := .int (S.1 6)) (C := RX11) (T := TX11) (N := 42) hx hb hts iX11 hown hK hP 0 rfl rfl 6 (by decide) (hw (.fieldLink RX11 115 "MotionFloorModel$Hall" "pending" "I") (List.mem_of_getElem? (i := 0) rfl)) (fun _ h9 => h9) rfl dX11_text_66 ?_
        refine lv_iconst (v := 1) hx hb dX11_text_69 (by decide) ?_
        refine lv_isub hx hb dX11_text_70 ?_
        obtain ⟨hy3, hp⟩ := hp
        refine nGoi (va_runSN (As := [.int x1, .int 0, .int ((S.1 6) - 1)]) (rest := []) ⟨hx, hb, hml, hown, hts⟩ (c_X12_in l G K x1 0 ((S.1 6) - 1) _) ⟨va_cnB (host := "MotionFloorModel") 3 hts (wGP t_ j_X12_in) rfl rfl rfl hTE.2.2.2.2.2.2.2.2.2.1 (hw (.initialized RX12) (List.mem_of_getElem? (i := 1) rfl)) (by decide +kernel) ⟨Nat.le_of_ble_eq_true rfl, Nat.le_of_ble_eq_true rfl⟩, (hw (.static yX12_in) (List.mem_of_getElem? (i := 2) rfl)), trivial⟩ (nPS hK hTE hy3) rfl rfl hl.1 rfl (lv_room (Nat.le_of_ble_eq_true rfl)) dX11_text_71 ⟨Nat.le_of_ble_eq_true rfl, Nat.le_of_ble_eq_true rfl⟩) hP hS hA (fun r H locs hv hP hS => ?_)
        subst hv
        refine lv_if_eq (tgt := 86) hx hb dX11_text_74 (by decide) (fun c4 => ?_) (fun c4 => ?_)
        · rw [if_pos c4] at hE hp
          refine lv_iconst (v := (-1)) hx hb dX11_text_86 (by decide) ?_
          exact B_87 S x1 x2 (-1) _ _ _ hE hp hP hD hS (lv_sub hl [0, 1, 2] rfl)
        · rw [if_neg c4] at hE hp
          refine lv_aload_n hx hb dX11_text_77 rfl (lv_at hl 0 rfl) ?_
          refine va_get (D := G) (ci := 8) (v := .ref (g 31)) (C := RX11) (T := TX11) (N := 42) hx hb hts iX11 hown hK hP 0 rfl rfl 31 (by decide) (hw (.fieldLink RX11 72 "MotionFloorModel$Hall" "row" "[I") (List.mem_of_getElem? (i := 5) rfl)) (fun _ h9 => h9) rfl dX11_text_78 ?_
          refine lv_iload_n hx hb dX11_text_81 rfl (lv_at hl 1 rfl) ?_
          obtain ⟨hy10, hp⟩ := hp
          refine va_iald hx hb hK hP 20 0 rfl rfl hy10 dX11_text_82 ?_
          refine lv_goto (tgt := 87) hx hb dX11_text_83 (by decide) ?_
          exact B_87 S x1 x2 (S.2 31 x1.toNatClampNeg) _ _ _ hE hp hP hD hS (lv_sub hl [0, 1, 2] rfl)
      · rw [if_pos c2] at hE hp
        refine lv_aload_n hx hb dX11_text_36 rfl (lv_at hl 0 rfl) ?_
        refine va_get (D := G) (ci := 8) (v := .int (S.1 35)) (C := RX11) (T := TX11) (N := 42) hx hb hts iX11 hown hK hP 0 rfl rfl 35 (by decide) (hw (.fieldLink RX11 130 "MotionFloorModel$Hall" "drafted" "I") (List.mem_of_getElem? (i := 6) rfl)) (fun _ h9 => h9) rfl dX11_text_37 ?_
        refine lv_if_le (tgt := 59) hx hb dX11_text_40 (by decide) (fun c11 => ?_) (fun c11 => ?_)
        · rw [if_pos c11] at hE hp
          exact B_59 S x1 x2 _ _ _ hE hp hP hD hS (lv_sub hl [0, 1, 2] rfl)
        · rw [if_neg c11] at hE hp
          refine lv_aload_n hx hb dX11_text_43 rfl (lv_at hl 0 rfl) ?_
          refine va_get (D := G) (ci := 8) (v := .int (S.1 36)) (C := RX11) (T := TX11) (N := 42) hx hb hts iX11 hown hK hP 0 rfl rfl 36 (by decide) (hw (.fieldLink RX11 151 "MotionFloorModel$Hall" "draftTabled" "Z") (List.mem_of_getElem? (i := 7) rfl)) (fun _ h9 => h9) rfl dX11_text_44 ?_
          refine lv_if_ne (tgt := 59) hx hb dX11_text_47 (by decide) (fun c12 => ?_) (fun c12 => ?_)
          · rw [if_neg c12] at hE hp
            exact B_59 S x1 x2 _ _ _ hE hp hP hD hS (lv_sub hl [0, 1, 2] rfl)
          · rw [if_pos c12] at hE hp
            refine lv_aload_n hx hb dX11_text_50 rfl (lv_at hl 0 rfl) ?_
            refine va_get (D := G) (ci := 8) (v := .ref (g 32)) (C := RX11) (T := TX11) (N := 42) hx hb hts iX11 hown hK hP 0 rfl rfl 32 (by decide) (hw (.fieldLink RX11 75 "MotionFloorModel$Hall" "draft" "[I") (List.mem_of_getElem? (i := 8) rfl)) (fun _ h9 => h9) rfl dX11_text_51 ?_
            refine lv_iconst (v := 0) hx hb dX11_text_54 (by decide) ?_
            obtain ⟨hy13, hp⟩ := hp
            refine va_iald hx hb hK hP 21 0 rfl rfl hy13 dX11_text_55 ?_
            refine lv_goto (tgt := 87) hx hb dX11_text_56 (by decide) ?_
            exact B_87 S x1 x2 (S.2 32 (0 : Int32).toNatClampNeg) _ _ _ hE hp hP hD hS (lv_sub hl [0, 1, 2] rfl)
    · rw [if_pos c1] at hE hp
      refine lv_iload_n hx hb dX11_text_5 rfl (lv_at hl 2 rfl) ?_
      refine lv_iconst (v := 0) hx hb dX11_text_6 (by decide) ?_
      refine lv_aload_n hx hb dX11_text_7 rfl (lv_at hl 0 rfl) ?_
      refine va_get (D := G) (ci := 8) (v := .int (S.1 39)) (C := RX11) (T := TX11) (N := 42) hx hb hts iX11 hown hK hP 0 rfl rfl 39 (by decide) (hw (.fieldLink RX11 133 "MotionFloorModel$Hall" "lastWords" "I") (List.mem_of_getElem? (i := 9) rfl)) (fun _ h9 => h9) rfl dX11_text_8 ?_
      refine lv_iconst (v := 1) hx hb dX11_text_11 (by decide) ?_
      refine lv_isub hx hb dX11_text_12 ?_
      obtain ⟨hy14, hp⟩ := hp
      refine nGoi (va_runSN (As := [.int x2, .int 0, .int ((S.1 39) - 1)]) (rest := []) ⟨hx, hb, hml, hown, hts⟩ (c_X12_in l G K x2 0 ((S.1 39) - 1) _) ⟨va_cnB (host := "MotionFloorModel") 3 hts (wGP t_ j_X12_in) rfl rfl rfl hTE.2.2.2.2.2.2.2.2.2.1 (hw (.initialized RX12) (List.mem_of_getElem? (i := 1) rfl)) (by decide +kernel) ⟨Nat.le_of_ble_eq_true rfl, Nat.le_of_ble_eq_true rfl⟩, (hw (.static yX12_in) (List.mem_of_getElem? (i := 2) rfl)), trivial⟩ (nPS hK hTE hy14) rfl rfl hl.1 rfl (lv_room (Nat.le_of_ble_eq_true rfl)) dX11_text_13 ⟨Nat.le_of_ble_eq_true rfl, Nat.le_of_ble_eq_true rfl⟩) hP hS hA (fun r H locs hv hP hS => ?_)
      subst hv
      refine lv_if_eq (tgt := 28) hx hb dX11_text_16 (by decide) (fun c15 => ?_) (fun c15 => ?_)
      · rw [if_pos c15] at hE hp
        refine lv_iconst (v := (-1)) hx hb dX11_text_28 (by decide) ?_
        exact B_29 S x1 x2 (-1) _ _ _ hE hp hP hD hS (lv_sub hl [0, 1, 2] rfl)
      · rw [if_neg c15] at hE hp
        refine lv_aload_n hx hb dX11_text_19 rfl (lv_at hl 0 rfl) ?_
        refine va_get (D := G) (ci := 8) (v := .ref (g 38)) (C := RX11) (T := TX11) (N := 42) hx hb hts iX11 hown hK hP 0 rfl rfl 38 (by decide) (hw (.fieldLink RX11 87 "MotionFloorModel$Hall" "last" "[I") (List.mem_of_getElem? (i := 10) rfl)) (fun _ h9 => h9) rfl dX11_text_20 ?_
        refine lv_iload_n hx hb dX11_text_23 rfl (lv_at hl 2 rfl) ?_
        obtain ⟨hy16, hp⟩ := hp
        refine va_iald hx hb hK hP 25 0 rfl rfl hy16 dX11_text_24 ?_
        refine lv_goto (tgt := 29) hx hb dX11_text_25 (by decide) ?_
        exact B_29 S x1 x2 (S.2 38 x2.toNatClampNeg) _ _ _ hE hp hP hD hS (lv_sub hl [0, 1, 2] rfl)
  exact B_M S0 a1 a2 _ _ _ hX hp hP hD hS hl
theorem gdX11_begin_0 : ckS (List.drop 0 cX11_begin.data.toList) 0 [(0, .aload_n 0, 1), (1, .iload_n 1, 1), (2, .putfield 96, 3), (5, .aload_n 0, 1), (6, .iconst 0, 1), (7, .putfield 100, 3), (10, .aload_n 0, 1), (11, .iconst (-1), 1), (12, .putfield 103, 3), (15, .aload_n 0, 1), (16, .iconst 0, 1), (17, .putfield 106, 3), (20, .aload_n 0, 1), (21, .iconst 0, 1), (22, .putfield 109, 3), (25, .aload_n 0, 1), (26, .iconst (-1), 1), (27, .putfield 112, 3), (30, .aload_n 0, 1), (31, .iconst 0, 1), (32, .putfield 115, 3), (35, .aload_n 0, 1), (36, .iconst 0, 1), (37, .putfield 118, 3), (40, .aload_n 0, 1), (41, .iconst 0, 1), (42, .putfield 121, 3), (45, .aload_n 0, 1), (46, .iconst 0, 1), (47, .putfield 124, 3), (50, .aload_n 0, 1), (51, .iconst 0, 1), (52, .putfield 127, 3), (55, .aload_n 0, 1), (56, .iconst 0, 1), (57, .putfield 130, 3), (60, .aload_n 0, 1), (61, .iconst (-1), 1), (62, .putfield 133, 3), (65, .iconst 0, 1)] = true := by decide +kernel
theorem dX11_begin_0 : decode cX11_begin 0 = .ok (.aload_n 0, 1) := ckS_g gdX11_begin_0 0 rfl
theorem dX11_begin_1 : decode cX11_begin 1 = .ok (.iload_n 1, 1) := ckS_g gdX11_begin_0 1 rfl
theorem dX11_begin_2 : decode cX11_begin 2 = .ok (.putfield 96, 3) := ckS_g gdX11_begin_0 2 rfl
theorem dX11_begin_5 : decode cX11_begin 5 = .ok (.aload_n 0, 1) := ckS_g gdX11_begin_0 3 rfl
theorem dX11_begin_6 : decode cX11_begin 6 = .ok (.iconst 0, 1) := ckS_g gdX11_begin_0 4 rfl
theorem dX11_begin_7 : decode cX11_begin 7 = .ok (.putfield 100, 3) := ckS_g gdX11_begin_0 5 rfl
theorem dX11_begin_10 : decode cX11_begin 10 = .ok (.aload_n 0, 1) := ckS_g gdX11_begin_0 6 rfl
theorem dX11_begin_11 : decode cX11_begin 11 = .ok (.iconst (-1), 1) := ckS_g gdX11_begin_0 7 rfl
theorem dX11_begin_12 : decode cX11_begin 12 = .ok (.putfield 103, 3) := ckS_g gdX11_begin_0 8 rfl
theorem dX11_begin_15 : decode cX11_begin 15 = .ok (.aload_n 0, 1) := ckS_g gdX11_begin_0 9 rfl
theorem dX11_begin_16 : decode cX11_begin 16 = .ok (.iconst 0, 1) := ckS_g gdX11_begin_0 10 rfl
theorem dX11_begin_17 : decode cX11_begin 17 = .ok (.putfield 106, 3) := ckS_g gdX11_begin_0 11 rfl
theorem dX11_begin_20 : decode cX11_begin 20 = .ok (.aload_n 0, 1) := ckS_g gdX11_begin_0 12 rfl
theorem dX11_begin_21 : decode cX11_begin 21 = .ok (.iconst 0, 1) := ckS_g gdX11_begin_0 13 rfl
theorem dX11_begin_22 : decode cX11_begin 22 = .ok (.putfield 109, 3) := ckS_g gdX11_begin_0 14 rfl
theorem dX11_begin_25 : decode cX11_begin 25 = .ok (.aload_n 0, 1) := ckS_g gdX11_begin_0 15 rfl
theorem dX11_begin_26 : decode cX11_begin 26 = .ok (.iconst (-1), 1) := ckS_g gdX11_begin_0 16 rfl
theorem dX11_begin_27 : decode cX11_begin 27 = .ok (.putfield 112, 3) := ckS_g gdX11_begin_0 17 rfl
theorem dX11_begin_30 : decode cX11_begin 30 = .ok (.aload_n 0, 1) := ckS_g gdX11_begin_0 18 rfl
theorem dX11_begin_31 : decode cX11_begin 31 = .ok (.iconst 0, 1) := ckS_g gdX11_begin_0 19 rfl
theorem dX11_begin_32 : decode cX11_begin 32 = .ok (.putfield 115, 3) := ckS_g gdX11_begin_0 20 rfl
theorem dX11_begin_35 : decode cX11_begin 35 = .ok (.aload_n 0, 1) := ckS_g gdX11_begin_0 21 rfl
theorem dX11_begin_36 : decode cX11_begin 36 = .ok (.iconst 0, 1) := ckS_g gdX11_begin_0 22 rfl
theorem dX11_begin_37 : decode cX11_begin 37 = .ok (.putfield 118, 3) := ckS_g gdX11_begin_0 23 rfl
theorem dX11_begin_40 : decode cX11_begin 40 = .ok (.aload_n 0, 1) := ckS_g gdX11_begin_0 24 rfl
theorem dX11_begin_41 : decode cX11_begin 41 = .ok (.iconst 0, 1) := ckS_g gdX11_begin_0 25 rfl
theorem dX11_begin_42 : decode cX11_begin 42 = .ok (.putfield 121, 3) := ckS_g gdX11_begin_0 26 rfl
theorem dX11_begin_45 : decode cX11_begin 45 = .ok (.aload_n 0, 1) := ckS_g gdX11_begin_0 27 rfl
theorem dX11_begin_46 : decode cX11_begin 46 = .ok (.iconst 0, 1) := ckS_g gdX11_begin_0 28 rfl
theorem dX11_begin_47 : decode cX11_begin 47 = .ok (.putfield 124, 3) := ckS_g gdX11_begin_0 29 rfl
theorem dX11_begin_50 : decode cX11_begin 50 = .ok (.aload_n 0, 1) := ckS_g gdX11_begin_0 30 rfl
theorem dX11_begin_51 : decode cX11_begin 51 = .ok (.iconst 0, 1) := ckS_g gdX11_begin_0 31 rfl
theorem dX11_begin_52 : decode cX11_begin 52 = .ok (.putfield 127, 3) := ckS_g gdX11_begin_0 32 rfl
theorem dX11_begin_55 : decode cX11_begin 55 = .ok (.aload_n 0, 1) := ckS_g gdX11_begin_0 33 rfl
theorem dX11_begin_56 : decode cX11_begin 56 = .ok (.iconst 0, 1) := ckS_g gdX11_begin_0 34 rfl
theorem dX11_begin_57 : decode cX11_begin 57 = .ok (.putfield 130, 3) := ckS_g gdX11_begin_0 35 rfl
theorem dX11_begin_60 : decode cX11_begin 60 = .ok (.aload_n 0, 1) := ckS_g gdX11_begin_0 36 rfl
theorem dX11_begin_61 : decode cX11_begin 61 = .ok (.iconst (-1), 1) := ckS_g gdX11_begin_0 37 rfl
theorem dX11_begin_62 : decode cX11_begin 62 = .ok (.putfield 133, 3) := ckS_g gdX11_begin_0 38 rfl
theorem dX11_begin_65 : decode cX11_begin 65 = .ok (.iconst 0, 1) := ckS_g gdX11_begin_0 39 rfl
theorem gdX11_begin_66 : ckS (List.drop 66 cX11_begin.data.toList) 66 [(66, .istore_n 2, 1), (67, .iload_n 2, 1), (68, .sipush 200, 3), (71, .if_icmp .ge 16, 3), (74, .aload_n 0, 1), (75, .getfield 9, 3), (78, .iload_n 2, 1), (79, .iconst 0, 1), (80, .bastore, 1), (81, .iinc 2 1, 3), (84, .goto (-17), 3), (87, .iconst 0, 1), (88, .istore_n 2, 1), (89, .iload_n 2, 1), (90, .bipush 9, 2), (92, .if_icmp .ge 26, 3), (95, .aload_n 0, 1), (96, .getfield 15, 3), (99, .iload_n 2, 1), (100, .iload_n 2, 1), (101, .bipush 6, 2), (103, .if_icmp .ne 7, 3), (106, .iconst 2, 1), (107, .goto 4, 3), (110, .iconst 1, 1), (111, .iastore, 1), (112, .iinc 2 1, 3), (115, .goto (-26), 3), (118, .iconst 0, 1), (119, .istore_n 2, 1), (120, .iload_n 2, 1), (121, .bipush 90, 2), (123, .if_icmp .ge 16, 3), (126, .aload_n 0, 1), (127, .getfield 19, 3), (130, .iload_n 2, 1), (131, .iconst 0, 1), (132, .bastore, 1), (133, .iinc 2 1, 3), (136, .goto (-16), 3)] = true := by decide +kernel
theorem dX11_begin_66 : decode cX11_begin 66 = .ok (.istore_n 2, 1) := ckS_g gdX11_begin_66 0 rfl
theorem dX11_begin_67 : decode cX11_begin 67 = .ok (.iload_n 2, 1) := ckS_g gdX11_begin_66 1 rfl
theorem dX11_begin_68 : decode cX11_begin 68 = .ok (.sipush 200, 3) := ckS_g gdX11_begin_66 2 rfl
theorem dX11_begin_71 : decode cX11_begin 71 = .ok (.if_icmp .ge 16, 3) := ckS_g gdX11_begin_66 3 rfl
theorem dX11_begin_74 : decode cX11_begin 74 = .ok (.aload_n 0, 1) := ckS_g gdX11_begin_66 4 rfl
theorem dX11_begin_75 : decode cX11_begin 75 = .ok (.getfield 9, 3) := ckS_g gdX11_begin_66 5 rfl
theorem dX11_begin_78 : decode cX11_begin 78 = .ok (.iload_n 2, 1) := ckS_g gdX11_begin_66 6 rfl
theorem dX11_begin_79 : decode cX11_begin 79 = .ok (.iconst 0, 1) := ckS_g gdX11_begin_66 7 rfl
theorem dX11_begin_80 : decode cX11_begin 80 = .ok (.bastore, 1) := ckS_g gdX11_begin_66 8 rfl
theorem dX11_begin_81 : decode cX11_begin 81 = .ok (.iinc 2 1, 3) := ckS_g gdX11_begin_66 9 rfl
theorem dX11_begin_84 : decode cX11_begin 84 = .ok (.goto (-17), 3) := ckS_g gdX11_begin_66 10 rfl
theorem dX11_begin_87 : decode cX11_begin 87 = .ok (.iconst 0, 1) := ckS_g gdX11_begin_66 11 rfl
theorem dX11_begin_88 : decode cX11_begin 88 = .ok (.istore_n 2, 1) := ckS_g gdX11_begin_66 12 rfl
theorem dX11_begin_89 : decode cX11_begin 89 = .ok (.iload_n 2, 1) := ckS_g gdX11_begin_66 13 rfl
theorem dX11_begin_90 : decode cX11_begin 90 = .ok (.bipush 9, 2) := ckS_g gdX11_begin_66 14 rfl
theorem dX11_begin_92 : decode cX11_begin 92 = .ok (.if_icmp .ge 26, 3) := ckS_g gdX11_begin_66 15 rfl
theorem dX11_begin_95 : decode cX11_begin 95 = .ok (.aload_n 0, 1) := ckS_g gdX11_begin_66 16 rfl
theorem dX11_begin_96 : decode cX11_begin 96 = .ok (.getfield 15, 3) := ckS_g gdX11_begin_66 17 rfl
theorem dX11_begin_99 : decode cX11_begin 99 = .ok (.iload_n 2, 1) := ckS_g gdX11_begin_66 18 rfl
theorem dX11_begin_100 : decode cX11_begin 100 = .ok (.iload_n 2, 1) := ckS_g gdX11_begin_66 19 rfl
theorem dX11_begin_101 : decode cX11_begin 101 = .ok (.bipush 6, 2) := ckS_g gdX11_begin_66 20 rfl
theorem dX11_begin_103 : decode cX11_begin 103 = .ok (.if_icmp .ne 7, 3) := ckS_g gdX11_begin_66 21 rfl
theorem dX11_begin_106 : decode cX11_begin 106 = .ok (.iconst 2, 1) := ckS_g gdX11_begin_66 22 rfl
theorem dX11_begin_107 : decode cX11_begin 107 = .ok (.goto 4, 3) := ckS_g gdX11_begin_66 23 rfl
theorem dX11_begin_110 : decode cX11_begin 110 = .ok (.iconst 1, 1) := ckS_g gdX11_begin_66 24 rfl
theorem dX11_begin_111 : decode cX11_begin 111 = .ok (.iastore, 1) := ckS_g gdX11_begin_66 25 rfl
theorem dX11_begin_112 : decode cX11_begin 112 = .ok (.iinc 2 1, 3) := ckS_g gdX11_begin_66 26 rfl
theorem dX11_begin_115 : decode cX11_begin 115 = .ok (.goto (-26), 3) := ckS_g gdX11_begin_66 27 rfl
theorem dX11_begin_118 : decode cX11_begin 118 = .ok (.iconst 0, 1) := ckS_g gdX11_begin_66 28 rfl
theorem dX11_begin_119 : decode cX11_begin 119 = .ok (.istore_n 2, 1) := ckS_g gdX11_begin_66 29 rfl
theorem dX11_begin_120 : decode cX11_begin 120 = .ok (.iload_n 2, 1) := ckS_g gdX11_begin_66 30 rfl
theorem dX11_begin_121 : decode cX11_begin 121 = .ok (.bipush 90, 2) := ckS_g gdX11_begin_66 31 rfl
theorem dX11_begin_123 : decode cX11_begin 123 = .ok (.if_icmp .ge 16, 3) := ckS_g gdX11_begin_66 32 rfl
theorem dX11_begin_126 : decode cX11_begin 126 = .ok (.aload_n 0, 1) := ckS_g gdX11_begin_66 33 rfl
theorem dX11_begin_127 : decode cX11_begin 127 = .ok (.getfield 19, 3) := ckS_g gdX11_begin_66 34 rfl
theorem dX11_begin_130 : decode cX11_begin 130 = .ok (.iload_n 2, 1) := ckS_g gdX11_begin_66 35 rfl
theorem dX11_begin_131 : decode cX11_begin 131 = .ok (.iconst 0, 1) := ckS_g gdX11_begin_66 36 rfl
theorem dX11_begin_132 : decode cX11_begin 132 = .ok (.bastore, 1) := ckS_g gdX11_begin_66 37 rfl
theorem dX11_begin_133 : decode cX11_begin 133 = .ok (.iinc 2 1, 3) := ckS_g gdX11_begin_66 38 rfl
theorem dX11_begin_136 : decode cX11_begin 136 = .ok (.goto (-16), 3) := ckS_g gdX11_begin_66 39 rfl
theorem gdX11_begin_139 : ckS (List.drop 139 cX11_begin.data.toList) 139 [(139, .iconst 0, 1), (140, .istore_n 2, 1), (141, .iload_n 2, 1), (142, .bipush 8, 2), (144, .if_icmp .ge 16, 3), (147, .aload_n 0, 1), (148, .getfield 81, 3), (151, .iload_n 2, 1), (152, .iconst 0, 1), (153, .iastore, 1), (154, .iinc 2 1, 3), (157, .goto (-16), 3), (160, .return_, 1)] = true := by decide +kernel
theorem dX11_begin_139 : decode cX11_begin 139 = .ok (.iconst 0, 1) := ckS_g gdX11_begin_139 0 rfl
theorem dX11_begin_140 : decode cX11_begin 140 = .ok (.istore_n 2, 1) := ckS_g gdX11_begin_139 1 rfl
theorem dX11_begin_141 : decode cX11_begin 141 = .ok (.iload_n 2, 1) := ckS_g gdX11_begin_139 2 rfl
theorem dX11_begin_142 : decode cX11_begin 142 = .ok (.bipush 8, 2) := ckS_g gdX11_begin_139 3 rfl
theorem dX11_begin_144 : decode cX11_begin 144 = .ok (.if_icmp .ge 16, 3) := ckS_g gdX11_begin_139 4 rfl
theorem dX11_begin_147 : decode cX11_begin 147 = .ok (.aload_n 0, 1) := ckS_g gdX11_begin_139 5 rfl
theorem dX11_begin_148 : decode cX11_begin 148 = .ok (.getfield 81, 3) := ckS_g gdX11_begin_139 6 rfl
theorem dX11_begin_151 : decode cX11_begin 151 = .ok (.iload_n 2, 1) := ckS_g gdX11_begin_139 7 rfl
theorem dX11_begin_152 : decode cX11_begin 152 = .ok (.iconst 0, 1) := ckS_g gdX11_begin_139 8 rfl
theorem dX11_begin_153 : decode cX11_begin 153 = .ok (.iastore, 1) := ckS_g gdX11_begin_139 9 rfl
theorem dX11_begin_154 : decode cX11_begin 154 = .ok (.iinc 2 1, 3) := ckS_g gdX11_begin_139 10 rfl
theorem dX11_begin_157 : decode cX11_begin 157 = .ok (.goto (-16), 3) := ckS_g gdX11_begin_139 11 rfl
theorem dX11_begin_160 : decode cX11_begin 160 = .ok (.return_, 1) := ckS_g gdX11_begin_139 12 rfl
set_option maxRecDepth 100000 in
theorem z208 : wZ (.code yX11_begin cX11_begin 3 none) := ⟨wT5 (List.mem_of_getElem? (i := 199) rfl), Or.inl rfl⟩
def st_X11_begin_141 (S : HS) (x1 x2 : Int32) : (Int32 × HS) ⊕ (HS × Int32 × Int32) := if 8 ≤ x2 then Sum.inl ((0, S)) else Sum.inr ((sA S 34 x2.toNatClampNeg 0), x1, (x2 + 1))
def ps_X11_begin_141 (S : HS) (x1 x2 : Int32) : Prop := (if 8 ≤ x2 then True else (vp_in x2 8) ∧ True)
def lp_X11_begin_141 : Nat → HS → Int32 → Int32 → Int32 × HS
  | 0, S, _, _ => (0, S)
  | n + 1, S, x1, x2 => match st_X11_begin_141 S x1 x2 with
    | Sum.inl r => r
    | Sum.inr q => lp_X11_begin_141 n q.1 q.2.1 q.2.2
def lq_X11_begin_141 : Nat → HS → Int32 → Int32 → Prop
  | 0, _, _, _ => False
  | n + 1, S, x1, x2 => ps_X11_begin_141 S x1 x2 ∧ (match st_X11_begin_141 S x1 x2 with
    | Sum.inl _ => True
    | Sum.inr q => lq_X11_begin_141 n q.1 q.2.1 q.2.2)
def st_X11_begin_120 (S : HS) (x1 x2 : Int32) : (Int32 × HS) ⊕ (HS × Int32 × Int32) := if 90 ≤ x2 then Sum.inl ((lp_X11_begin_141 100000 S x1 0)) else Sum.inr ((sA S 13 x2.toNatClampNeg (vp_nar .boolean 0)), x1, (x2 + 1))
def ps_X11_begin_120 (S : HS) (x1 x2 : Int32) : Prop := (if 90 ≤ x2 then (lq_X11_begin_141 100000 S x1 0) else (vp_in x2 90) ∧ True)
def lp_X11_begin_120 : Nat → HS → Int32 → Int32 → Int32 × HS
  | 0, S, _, _ => (0, S)
  | n + 1, S, x1, x2 => match st_X11_begin_120 S x1 x2 with
    | Sum.inl r => r
    | Sum.inr q => lp_X11_begin_120 n q.1 q.2.1 q.2.2
def lq_X11_begin_120 : Nat → HS → Int32 → Int32 → Prop
  | 0, _, _, _ => False
  | n + 1, S, x1, x2 => ps_X11_begin_120 S x1 x2 ∧ (match st_X11_begin_120 S x1 x2 with
    | Sum.inl _ => True
    | Sum.inr q => lq_X11_begin_120 n q.1 q.2.1 q.2.2)
def b_X11_begin_111 (S : HS) (x1 x2 y0 y1 : Int32) : (Int32 × HS) ⊕ (HS × Int32 × Int32) := Sum.inr ((sA S 12 y1.toNatClampNeg y0), x1, (x2 + 1))
def q_X11_begin_111 (S : HS) (x1 x2 y0 y1 : Int32) : Prop := (vp_in y1 9) ∧ True
def st_X11_begin_89 (S : HS) (x1 x2 : Int32) : (Int32 × HS) ⊕ (HS × Int32 × Int32) := if 9 ≤ x2 then Sum.inl ((lp_X11_begin_120 100000 S x1 0)) else if x2 = 6 then (b_X11_begin_111 S x1 x2 2 x2) else (b_X11_begin_111 S x1 x2 1 x2)
def ps_X11_begin_89 (S : HS) (x1 x2 : Int32) : Prop := (if 9 ≤ x2 then (lq_X11_begin_120 100000 S x1 0) else (if x2 = 6 then (q_X11_begin_111 S x1 x2 2 x2) else (q_X11_begin_111 S x1 x2 1 x2)))
def lp_X11_begin_89 : Nat → HS → Int32 → Int32 → Int32 × HS
  | 0, S, _, _ => (0, S)
  | n + 1, S, x1, x2 => match st_X11_begin_89 S x1 x2 with
    | Sum.inl r => r
    | Sum.inr q => lp_X11_begin_89 n q.1 q.2.1 q.2.2
def lq_X11_begin_89 : Nat → HS → Int32 → Int32 → Prop
  | 0, _, _, _ => False
  | n + 1, S, x1, x2 => ps_X11_begin_89 S x1 x2 ∧ (match st_X11_begin_89 S x1 x2 with
    | Sum.inl _ => True
    | Sum.inr q => lq_X11_begin_89 n q.1 q.2.1 q.2.2)
def st_X11_begin_67 (S : HS) (x1 x2 : Int32) : (Int32 × HS) ⊕ (HS × Int32 × Int32) := if 200 ≤ x2 then Sum.inl ((lp_X11_begin_89 100000 S x1 0)) else Sum.inr ((sA S 11 x2.toNatClampNeg (vp_nar .boolean 0)), x1, (x2 + 1))
def ps_X11_begin_67 (S : HS) (x1 x2 : Int32) : Prop := (if 200 ≤ x2 then (lq_X11_begin_89 100000 S x1 0) else (vp_in x2 200) ∧ True)
def lp_X11_begin_67 : Nat → HS → Int32 → Int32 → Int32 × HS
  | 0, S, _, _ => (0, S)
  | n + 1, S, x1, x2 => match st_X11_begin_67 S x1 x2 with
    | Sum.inl r => r
    | Sum.inr q => lp_X11_begin_67 n q.1 q.2.1 q.2.2
def lq_X11_begin_67 : Nat → HS → Int32 → Int32 → Prop
  | 0, _, _, _ => False
  | n + 1, S, x1, x2 => ps_X11_begin_67 S x1 x2 ∧ (match st_X11_begin_67 S x1 x2 with
    | Sum.inl _ => True
    | Sum.inr q => lq_X11_begin_67 n q.1 q.2.1 q.2.2)
def f_X11_begin (S : HS) (x1 : Int32) : Int32 × HS := (lp_X11_begin_67 100000 (sI (sI (sI (sI (sI (sI (sI (sI (sI (sI (sI (sI (sI S 0 x1) 1 0) 2 (-1)) 3 0) 4 0) 5 (-1)) 6 0) 7 0) 8 0) 9 0) 10 0) 35 0) 39 (-1)) x1 0)
def p_X11_begin (S : HS) (x1 : Int32) : Prop := (lq_X11_begin_67 100000 (sI (sI (sI (sI (sI (sI (sI (sI (sI (sI (sI (sI (sI S 0 x1) 1 0) 2 (-1)) 3 0) 4 0) 5 (-1)) 6 0) 7 0) 8 0) 9 0) 10 0) 35 0) 39 (-1)) x1 0)
def e_X11_begin : List Cond := [.fieldLink RX11 96 "MotionFloorModel$Hall" "seats" "I", .fieldLink RX11 100 "MotionFloorModel$Hall" "there" "I", .fieldLink RX11 103 "MotionFloorModel$Hall" "chair" "I", .fieldLink RX11 106 "MotionFloorModel$Hall" "quorum" "I", .fieldLink RX11 109 "MotionFloorModel$Hall" "limit" "I", .fieldLink RX11 112 "MotionFloorModel$Hall" "floor" "I", .fieldLink RX11 115 "MotionFloorModel$Hall" "pending" "I", .fieldLink RX11 118 "MotionFloorModel$Hall" "entries" "I", .fieldLink RX11 121 "MotionFloorModel$Hall" "results" "I", .fieldLink RX11 124 "MotionFloorModel$Hall" "adopted" "I", .fieldLink RX11 127 "MotionFloorModel$Hall" "why" "I", .fieldLink RX11 130 "MotionFloorModel$Hall" "drafted" "I", .fieldLink RX11 133 "MotionFloorModel$Hall" "lastWords" "I", .fieldLink RX11 81 "MotionFloorModel$Hall" "lying" "[I", .fieldLink RX11 19 "MotionFloorModel$Hall" "used" "[Z", .fieldLink RX11 15 "MotionFloorModel$Hall" "majority" "[I", .fieldLink RX11 9 "MotionFloorModel$Hall" "isThere" "[Z"]
def v_X11_begin : List Cond := .code yX11_begin cX11_begin 3 none :: (e_X11_begin ++ (wsX110 ++ []))
theorem te_X11_begin : GoodIn lw_tbl e_X11_begin := wGc z48 (wGc z117 (wGc z133 (wGc z116 (wGc z132 (wGc z118 (wGc z56 (wGc z164 (wGc z166 (wGc z159 (wGc z202 (wGc z86 (wGc z158 (wGc z81 (wGc z79 (wGc z170 (wGc z50 (wG0)))))))))))))))))
theorem t_X11_begin : GoodIn lw_tbl v_X11_begin := wGc z208 (wGa te_X11_begin (wGa zcX11 (wG0)))
set_option maxHeartbeats 4000000 in
set_option maxRecDepth 100000 in
theorem c_X11_begin (l : Launch) (G : va_G) (K : Nat → ClassId) (h : Nat) (g : Nat → Nat) (S0 : HS) (a1 : Int32) (sz : Nat) : Met l yX11_begin v_X11_begin ({ frames := 0, cells := 0, slots := 0, locals := 0 }) (va_Pc [.ref h, .int a1] (hS G K h g sz S0 (p_X11_begin S0 a1))) (va_Qv (fun u : HS => (0, u) = f_X11_begin S0 a1) (hB G K h g (va_A (hW K h g S0) sz)) (va_A (hW K h g S0) sz)) 0 0 (va_A (hW K h g S0) sz) := by
  refine Met.ofW (cc := cX11_begin) (maxL := 3) (ret := none) (by decide) rfl ?_
  intro p e s m args below meth c s₁ B hml hv
  obtain ⟨rfl, ⟨hsz, hP, hK, hD0, hTE⟩, hp⟩ := hv
  have hx := B.exec
  have hb := B.bytes
  have hr := B.returns
  have hts := atoms_spec (ws := v_X11_begin) B.pre
  have t_ := t_X11_begin
  have mw : ∀ w ∈ e_X11_begin, w ∈ v_X11_begin := fun w h => List.mem_cons_of_mem _ (List.mem_append_left _ h)
  have hw := fun w (h : w ∈ e_X11_begin) => hts w (mw w h)
  have iX11 : ∀ w ∈ wsX110, w ∈ v_X11_begin := fun w h => List.mem_cons_of_mem _ (List.mem_append_right _ (List.mem_append_left _ h))
  have hown : s.vm.findClass RX11 = some m.cls := findClass_of_methodNamed B.named
  have hlocks := B.notSynchronized
  subst hsz
  have hD := hD0.self (sz := s.heap.size)
  generalize hAe : va_A (hW K h g S0) s.heap.size = A at hD ⊢
  have hA : ∀ q : Nat, s.heap.size ≤ q → A q := fun q h => by rw [← hAe]; exact Or.inr h
  have hS : va_S A s.heap s.heap [] := va_S.rf
  have hl := lv_entry ([.ref h, .int a1]) (n := 3) (Nat.le_of_ble_eq_true rfl)
  rw [lg_entry_eq]
  generalize (lg_sl ([.ref h, .int a1]) ++ List.replicate (3 - (lg_sl ([.ref h, .int a1])).length) Slot.unset).toArray = ls at hl ⊢
  have hl : lv_has ls 3 [(0, .ref h), (1, .int a1)] := hl
  refine wGen (fun Q hQ => ?_)
  obtain ⟨X, hX⟩ : ∃ X, f_X11_begin S0 a1 = X := ⟨_, rfl⟩
  have L_141 : ∀ (n : Nat) (S : HS) (x1 x2 : Int32) (H : Heap) (locs : List Loc) (ls : Array Slot), lp_X11_begin_141 n S x1 x2 = X → lq_X11_begin_141 n S x1 x2 → va_P G vwCl (hW K h g S) H → va_D A (hW K h g S) → va_S A s.heap H locs → lv_has ls 3 [(0, .ref h), (1, .int x1), (2, .int x2)] → W p l e ({ frames := 0, cells := 0, slots := 0, locals := 0 } : Room) s m #[Value.ref h, Value.int a1] below meth c H locs 0 0 Q (F0 m 141 ls []) := by
    intro n1
    induction n1 with
    | zero => intro S x1 x2 H locs ls hE hp; exact False.elim hp
    | succ n1 ih1 =>
      intro S x1 x2 H locs ls hO1 hp hP hD hS hl
      rw [lp_X11_begin_141] at hO1
      rw [lq_X11_begin_141] at hp
      obtain ⟨hp, hq1⟩ := hp
      generalize hE : st_X11_begin_141 S x1 x2 = Y1 at hO1 hq1
      unfold st_X11_begin_141 at hE
      unfold ps_X11_begin_141 at hp
      refine lv_iload_n hx hb dX11_begin_141 rfl (lv_at hl 2 rfl) ?_
      refine lv_bipush (v := 8) hx hb dX11_begin_142 (by decide) ?_
      refine lv_icmp_ge (tgt := 160) hx hb dX11_begin_144 (by decide) (fun c4 => ?_) (fun c4 => ?_)
      · rw [if_pos c4] at hE hp
        subst hE
        have hE := hO1
        dsimp only at hE
        subst hQ
        exact W.vret hx hb hr (fun t ht hW => ⟨⟨S, rfl, hE.trans hX.symm, by rw [ht]; exact hP, hD⟩, hS.F ht⟩) hS.2.2 dX11_begin_160
      · rw [if_neg c4] at hE hp
        refine lv_aload_n hx hb dX11_begin_147 rfl (lv_at hl 0 rfl) ?_
        refine va_get (D := G) (ci := 8) (v := .ref (g 34)) (C := RX11) (T := TX11) (N := 42) hx hb hts iX11 hown hK hP 0 rfl rfl 34 (by decide) (hw (.fieldLink RX11 81 "MotionFloorModel$Hall" "lying" "[I") (List.mem_of_getElem? (i := 13) rfl)) (fun _ h9 => h9) rfl dX11_begin_148 ?_
        refine lv_iload_n hx hb dX11_begin_151 rfl (lv_at hl 2 rfl) ?_
        refine lv_iconst (v := 0) hx hb dX11_begin_152 (by decide) ?_
        obtain ⟨hy5, hp⟩ := hp
        refine va_iast hx hb hK hP hD hS 23 0 rfl rfl hy5 dX11_begin_153 (fun H locs hP hD hS => ?_)
        rw [sA_34] at hP hD
        refine lv_iinc (v := (x2 + 1)) (lv' := [(2, .int (x2 + 1)), (0, .ref h), (1, .int x1)]) hx hb dX11_begin_154 hl (k := 2) rfl rfl (by decide) rfl (fun ls hl => ?_)
        refine lv_goto (tgt := 141) hx hb dX11_begin_157 (by decide) ?_
        subst hE
        dsimp only at hO1 hq1
        exact ih1 (sA S 34 x2.toNatClampNeg 0) x1 (x2 + 1) _ _ _ hO1 hq1 hP hD hS (lv_sub hl [1, 2, 0] rfl)
  have L_120 : ∀ (n : Nat) (S : HS) (x1 x2 : Int32) (H : Heap) (locs : List Loc) (ls : Array Slot), lp_X11_begin_120 n S x1 x2 = X → lq_X11_begin_120 n S x1 x2 → va_P G vwCl (hW K h g S) H → va_D A (hW K h g S) → va_S A s.heap H locs → lv_has ls 3 [(0, .ref h), (1, .int x1), (2, .int x2)] → W p l e ({ frames := 0, cells := 0, slots := 0, locals := 0 } : Room) s m #[Value.ref h, Value.int a1] below meth c H locs 0 0 Q (F0 m 120 ls []) := by
    intro n1
    induction n1 with
    | zero => intro S x1 x2 H locs ls hE hp; exact False.elim hp
    | succ n1 ih1 =>
      intro S x1 x2 H locs ls hO1 hp hP hD hS hl
      rw [lp_X11_begin_120] at hO1
      rw [lq_X11_begin_120] at hp
      obtain ⟨hp, hq1⟩ := hp
      generalize hE : st_X11_begin_120 S x1 x2 = Y1 at hO1 hq1
      unfold st_X11_begin_120 at hE
      unfold ps_X11_begin_120 at hp
      refine lv_iload_n hx hb dX11_begin_120 rfl (lv_at hl 2 rfl) ?_
      refine lv_bipush (v := 90) hx hb dX11_begin_121 (by decide) ?_
      refine lv_icmp_ge (tgt := 139) hx hb dX11_begin_123 (by decide) (fun c3 => ?_) (fun c3 => ?_)
      · rw [if_pos c3] at hE hp
        subst hE
        have hE := hO1
        dsimp only at hE
        refine lv_iconst (v := 0) hx hb dX11_begin_139 (by decide) ?_
        refine lv_istore_n (lv' := [(2, .int 0), (0, .ref h), (1, .int x1)]) hx hb dX11_begin_140 rfl hl (by decide) rfl (fun ls hl => ?_)
        exact L_141 100000 S x1 0 _ _ _ hE hp hP hD hS (lv_sub hl [1, 2, 0] rfl)
      · rw [if_neg c3] at hE hp
        refine lv_aload_n hx hb dX11_begin_126 rfl (lv_at hl 0 rfl) ?_
        refine va_get (D := G) (ci := 8) (v := .ref (g 13)) (C := RX11) (T := TX11) (N := 42) hx hb hts iX11 hown hK hP 0 rfl rfl 13 (by decide) (hw (.fieldLink RX11 19 "MotionFloorModel$Hall" "used" "[Z") (List.mem_of_getElem? (i := 14) rfl)) (fun _ h9 => h9) rfl dX11_begin_127 ?_
        refine lv_iload_n hx hb dX11_begin_130 rfl (lv_at hl 2 rfl) ?_
        refine lv_iconst (v := 0) hx hb dX11_begin_131 (by decide) ?_
        obtain ⟨hy6, hp⟩ := hp
        refine va_zast hx hb hK hP hD hS 3 1 rfl rfl hy6 dX11_begin_132 (fun H locs hP hD hS => ?_)
        rw [sA_13] at hP hD
        refine lv_iinc (v := (x2 + 1)) (lv' := [(2, .int (x2 + 1)), (0, .ref h), (1, .int x1)]) hx hb dX11_begin_133 hl (k := 2) rfl rfl (by decide) rfl (fun ls hl => ?_)
        refine lv_goto (tgt := 120) hx hb dX11_begin_136 (by decide) ?_
        subst hE
        dsimp only at hO1 hq1
        exact ih1 (sA S 13 x2.toNatClampNeg (vp_nar .boolean 0)) x1 (x2 + 1) _ _ _ hO1 hq1 hP hD hS (lv_sub hl [1, 2, 0] rfl)
  have L_89 : ∀ (n : Nat) (S : HS) (x1 x2 : Int32) (H : Heap) (locs : List Loc) (ls : Array Slot), lp_X11_begin_89 n S x1 x2 = X → lq_X11_begin_89 n S x1 x2 → va_P G vwCl (hW K h g S) H → va_D A (hW K h g S) → va_S A s.heap H locs → lv_has ls 3 [(0, .ref h), (1, .int x1), (2, .int x2)] → W p l e ({ frames := 0, cells := 0, slots := 0, locals := 0 } : Room) s m #[Value.ref h, Value.int a1] below meth c H locs 0 0 Q (F0 m 89 ls []) := by
    intro n1
    induction n1 with
    | zero => intro S x1 x2 H locs ls hE hp; exact False.elim hp
    | succ n1 ih1 =>
      intro S x1 x2 H locs ls hO1 hp hP hD hS hl
      rw [lp_X11_begin_89] at hO1
      rw [lq_X11_begin_89] at hp
      obtain ⟨hp, hq1⟩ := hp
      generalize hE : st_X11_begin_89 S x1 x2 = Y1 at hO1 hq1
      unfold st_X11_begin_89 at hE
      unfold ps_X11_begin_89 at hp
      have B_111 : ∀ (S : HS) (x1 x2 y0 y1 : Int32) (H : Heap) (locs : List Loc) (ls : Array Slot), b_X11_begin_111 S x1 x2 y0 y1 = Y1 → q_X11_begin_111 S x1 x2 y0 y1 → va_P G vwCl (hW K h g S) H → va_D A (hW K h g S) → va_S A s.heap H locs → lv_has ls 3 [(0, .ref h), (1, .int x1), (2, .int x2)] → W p l e ({ frames := 0, cells := 0, slots := 0, locals := 0 } : Room) s m #[Value.ref h, Value.int a1] below meth c H locs 0 0 Q (F0 m 111 ls [.int y0, .int y1, .ref (g 12)]) := by
        intro S x1 x2 y0 y1 H locs ls hE hp hP hD hS hl
        unfold b_X11_begin_111 at hE
        unfold q_X11_begin_111 at hp
        obtain ⟨hy8, hp⟩ := hp
        refine va_iast hx hb hK hP hD hS 2 0 rfl rfl hy8 dX11_begin_111 (fun H locs hP hD hS => ?_)
        rw [sA_12] at hP hD
        refine lv_iinc (v := (x2 + 1)) (lv' := [(2, .int (x2 + 1)), (0, .ref h), (1, .int x1)]) hx hb dX11_begin_112 hl (k := 2) rfl rfl (by decide) rfl (fun ls hl => ?_)
        refine lv_goto (tgt := 89) hx hb dX11_begin_115 (by decide) ?_
        subst hE
        dsimp only at hO1 hq1
        exact ih1 (sA S 12 y1.toNatClampNeg y0) x1 (x2 + 1) _ _ _ hO1 hq1 hP hD hS (lv_sub hl [1, 2, 0] rfl)
      refine lv_iload_n hx hb dX11_begin_89 rfl (lv_at hl 2 rfl) ?_
      refine lv_bipush (v := 9) hx hb dX11_begin_90 (by decide) ?_
      refine lv_icmp_ge (tgt := 118) hx hb dX11_begin_92 (by decide) (fun c2 => ?_) (fun c2 => ?_)
      · rw [if_pos c2] at hE hp
        subst hE
        have hE := hO1
        dsimp only at hE
        refine lv_iconst (v := 0) hx hb dX11_begin_118 (by decide) ?_
        refine lv_istore_n (lv' := [(2, .int 0), (0, .ref h), (1, .int x1)]) hx hb dX11_begin_119 rfl hl (by decide) rfl (fun ls hl => ?_)
        exact L_120 100000 S x1 0 _ _ _ hE hp hP hD hS (lv_sub hl [1, 2, 0] rfl)
      · rw [if_neg c2] at hE hp
        refine lv_aload_n hx hb dX11_begin_95 rfl (lv_at hl 0 rfl) ?_
        refine va_get (D := G) (ci := 8) (v := .ref (g 12)) (C := RX11) (T := TX11) (N := 42) hx hb hts iX11 hown hK hP 0 rfl rfl 12 (by decide) (hw (.fieldLink RX11 15 "MotionFloorModel$Hall" "majority" "[I") (List.mem_of_getElem? (i := 15) rfl)) (fun _ h9 => h9) rfl dX11_begin_96 ?_
        refine lv_iload_n hx hb dX11_begin_99 rfl (lv_at hl 2 rfl) ?_
        refine lv_iload_n hx hb dX11_begin_100 rfl (lv_at hl 2 rfl) ?_
        refine lv_bipush (v := 6) hx hb dX11_begin_101 (by decide) ?_
        refine lv_icmp_ne (tgt := 110) hx hb dX11_begin_103 (by decide) (fun c7 => ?_) (fun c7 => ?_)
        · rw [if_neg c7] at hE hp
          refine lv_iconst (v := 1) hx hb dX11_begin_110 (by decide) ?_
          exact B_111 S x1 x2 1 x2 _ _ _ hE hp hP hD hS (lv_sub hl [0, 1, 2] rfl)
        · rw [if_pos c7] at hE hp
          refine lv_iconst (v := 2) hx hb dX11_begin_106 (by decide) ?_
          refine lv_goto (tgt := 111) hx hb dX11_begin_107 (by decide) ?_
          exact B_111 S x1 x2 2 x2 _ _ _ hE hp hP hD hS (lv_sub hl [0, 1, 2] rfl)
  have L_67 : ∀ (n : Nat) (S : HS) (x1 x2 : Int32) (H : Heap) (locs : List Loc) (ls : Array Slot), lp_X11_begin_67 n S x1 x2 = X → lq_X11_begin_67 n S x1 x2 → va_P G vwCl (hW K h g S) H → va_D A (hW K h g S) → va_S A s.heap H locs → lv_has ls 3 [(0, .ref h), (1, .int x1), (2, .int x2)] → W p l e ({ frames := 0, cells := 0, slots := 0, locals := 0 } : Room) s m #[Value.ref h, Value.int a1] below meth c H locs 0 0 Q (F0 m 67 ls []) := by
    intro n1
    induction n1 with
    | zero => intro S x1 x2 H locs ls hE hp; exact False.elim hp
    | succ n1 ih1 =>
      intro S x1 x2 H locs ls hO1 hp hP hD hS hl
      rw [lp_X11_begin_67] at hO1
      rw [lq_X11_begin_67] at hp
      obtain ⟨hp, hq1⟩ := hp
      generalize hE : st_X11_begin_67 S x1 x2 = Y1 at hO1 hq1
      unfold st_X11_begin_67 at hE
      unfold ps_X11_begin_67 at hp
      refine lv_iload_n hx hb dX11_begin_67 rfl (lv_at hl 2 rfl) ?_
      refine lv_sipush (v := 200) hx hb dX11_begin_68 (by decide) ?_
      refine lv_icmp_ge (tgt := 87) hx hb dX11_begin_71 (by decide) (fun c1 => ?_) (fun c1 => ?_)
      · rw [if_pos c1] at hE hp
        subst hE
        have hE := hO1
        dsimp only at hE
        refine lv_iconst (v := 0) hx hb dX11_begin_87 (by decide) ?_
        refine lv_istore_n (lv' := [(2, .int 0), (0, .ref h), (1, .int x1)]) hx hb dX11_begin_88 rfl hl (by decide) rfl (fun ls hl => ?_)
        exact L_89 100000 S x1 0 _ _ _ hE hp hP hD hS (lv_sub hl [1, 2, 0] rfl)
      · rw [if_neg c1] at hE hp
        refine lv_aload_n hx hb dX11_begin_74 rfl (lv_at hl 0 rfl) ?_
        refine va_get (D := G) (ci := 8) (v := .ref (g 11)) (C := RX11) (T := TX11) (N := 42) hx hb hts iX11 hown hK hP 0 rfl rfl 11 (by decide) (hw (.fieldLink RX11 9 "MotionFloorModel$Hall" "isThere" "[Z") (List.mem_of_getElem? (i := 16) rfl)) (fun _ h9 => h9) rfl dX11_begin_75 ?_
        refine lv_iload_n hx hb dX11_begin_78 rfl (lv_at hl 2 rfl) ?_
        refine lv_iconst (v := 0) hx hb dX11_begin_79 (by decide) ?_
        obtain ⟨hy9, hp⟩ := hp
        refine va_zast hx hb hK hP hD hS 1 1 rfl rfl hy9 dX11_begin_80 (fun H locs hP hD hS => ?_)
        rw [sA_11] at hP hD
        refine lv_iinc (v := (x2 + 1)) (lv' := [(2, .int (x2 + 1)), (0, .ref h), (1, .int x1)]) hx hb dX11_begin_81 hl (k := 2) rfl rfl (by decide) rfl (fun ls hl => ?_)
        refine lv_goto (tgt := 67) hx hb dX11_begin_84 (by decide) ?_
        subst hE
        dsimp only at hO1 hq1
        exact ih1 (sA S 11 x2.toNatClampNeg (vp_nar .boolean 0)) x1 (x2 + 1) _ _ _ hO1 hq1 hP hD hS (lv_sub hl [1, 2, 0] rfl)
  have B_M : ∀ (S : HS) (x1 : Int32) (H : Heap) (locs : List Loc) (ls : Array Slot), f_X11_begin S x1 = X → p_X11_begin S x1 → va_P G vwCl (hW K h g S) H → va_D A (hW K h g S) → va_S A s.heap H locs → lv_has ls 3 [(0, .ref h), (1, .int x1)] → W p l e ({ frames := 0, cells := 0, slots := 0, locals := 0 } : Room) s m #[Value.ref h, Value.int a1] below meth c H locs 0 0 Q (F0 m 0 ls []) := by
    intro S x1 H locs ls hE hp hP hD hS hl
    unfold f_X11_begin at hE
    unfold p_X11_begin at hp
    refine lv_aload_n hx hb dX11_begin_0 rfl (lv_at hl 0 rfl) ?_
    refine lv_iload_n hx hb dX11_begin_1 rfl (lv_at hl 1 rfl) ?_
    refine va_put (D := G) (ci := 8) (v := .int x1) (ty := .int) (C := RX11) (T := TX11) (N := 42) hx hb hts iX11 tyX11 tyX11_ok nmX11 hown hK hP hD hS 0 rfl rfl 0 (by decide) (hw (.fieldLink RX11 96 "MotionFloorModel$Hall" "seats" "I") (List.mem_of_getElem? (i := 0) rfl)) (fun _ h9 => h9) rfl (by decide +kernel) rfl rfl (Nat.le_of_ble_eq_true rfl) dX11_begin_2 (fun H locs hP hD hS => ?_)
    rw [sI_0] at hP hD
    refine lv_aload_n hx hb dX11_begin_5 rfl (lv_at hl 0 rfl) ?_
    refine lv_iconst (v := 0) hx hb dX11_begin_6 (by decide) ?_
    refine va_put (D := G) (ci := 8) (v := .int 0) (ty := .int) (C := RX11) (T := TX11) (N := 42) hx hb hts iX11 tyX11 tyX11_ok nmX11 hown hK hP hD hS 0 rfl rfl 1 (by decide) (hw (.fieldLink RX11 100 "MotionFloorModel$Hall" "there" "I") (List.mem_of_getElem? (i := 1) rfl)) (fun _ h9 => h9) rfl (by decide +kernel) rfl rfl (Nat.le_of_ble_eq_true rfl) dX11_begin_7 (fun H locs hP hD hS => ?_)
    rw [sI_1] at hP hD
    refine lv_aload_n hx hb dX11_begin_10 rfl (lv_at hl 0 rfl) ?_
    refine lv_iconst (v := (-1)) hx hb dX11_begin_11 (by decide) ?_
    refine va_put (D := G) (ci := 8) (v := .int (-1)) (ty := .int) (C := RX11) (T := TX11) (N := 42) hx hb hts iX11 tyX11 tyX11_ok nmX11 hown hK hP hD hS 0 rfl rfl 2 (by decide) (hw (.fieldLink RX11 103 "MotionFloorModel$Hall" "chair" "I") (List.mem_of_getElem? (i := 2) rfl)) (fun _ h9 => h9) rfl (by decide +kernel) rfl rfl (Nat.le_of_ble_eq_true rfl) dX11_begin_12 (fun H locs hP hD hS => ?_)
    rw [sI_2] at hP hD
    refine lv_aload_n hx hb dX11_begin_15 rfl (lv_at hl 0 rfl) ?_
    refine lv_iconst (v := 0) hx hb dX11_begin_16 (by decide) ?_
    refine va_put (D := G) (ci := 8) (v := .int 0) (ty := .int) (C := RX11) (T := TX11) (N := 42) hx hb hts iX11 tyX11 tyX11_ok nmX11 hown hK hP hD hS 0 rfl rfl 3 (by decide) (hw (.fieldLink RX11 106 "MotionFloorModel$Hall" "quorum" "I") (List.mem_of_getElem? (i := 3) rfl)) (fun _ h9 => h9) rfl (by decide +kernel) rfl rfl (Nat.le_of_ble_eq_true rfl) dX11_begin_17 (fun H locs hP hD hS => ?_)
    rw [sI_3] at hP hD
    refine lv_aload_n hx hb dX11_begin_20 rfl (lv_at hl 0 rfl) ?_
    refine lv_iconst (v := 0) hx hb dX11_begin_21 (by decide) ?_
    refine va_put (D := G) (ci := 8) (v := .int 0) (ty := .int) (C := RX11) (T := TX11) (N := 42) hx hb hts iX11 tyX11 tyX11_ok nmX11 hown hK hP hD hS 0 rfl rfl 4 (by decide) (hw (.fieldLink RX11 109 "MotionFloorModel$Hall" "limit" "I") (List.mem_of_getElem? (i := 4) rfl)) (fun _ h9 => h9) rfl (by decide +kernel) rfl rfl (Nat.le_of_ble_eq_true rfl) dX11_begin_22 (fun H locs hP hD hS => ?_)
    rw [sI_4] at hP hD
    refine lv_aload_n hx hb dX11_begin_25 rfl (lv_at hl 0 rfl) ?_
    refine lv_iconst (v := (-1)) hx hb dX11_begin_26 (by decide) ?_
    refine va_put (D := G) (ci := 8) (v := .int (-1)) (ty := .int) (C := RX11) (T := TX11) (N := 42) hx hb hts iX11 tyX11 tyX11_ok nmX11 hown hK hP hD hS 0 rfl rfl 5 (by decide) (hw (.fieldLink RX11 112 "MotionFloorModel$Hall" "floor" "I") (List.mem_of_getElem? (i := 5) rfl)) (fun _ h9 => h9) rfl (by decide +kernel) rfl rfl (Nat.le_of_ble_eq_true rfl) dX11_begin_27 (fun H locs hP hD hS => ?_)
    rw [sI_5] at hP hD
    refine lv_aload_n hx hb dX11_begin_30 rfl (lv_at hl 0 rfl) ?_
    refine lv_iconst (v := 0) hx hb dX11_begin_31 (by decide) ?_
    refine va_put (D := G) (ci := 8) (v := .int 0) (ty := .int) (C := RX11) (T := TX11) (N := 42) hx hb hts iX11 tyX11 tyX11_ok nmX11 hown hK hP hD hS 0 rfl rfl 6 (by decide) (hw (.fieldLink RX11 115 "MotionFloorModel$Hall" "pending" "I") (List.mem_of_getElem? (i := 6) rfl)) (fun _ h9 => h9) rfl (by decide +kernel) rfl rfl (Nat.le_of_ble_eq_true rfl) dX11_begin_32 (fun H locs hP hD hS => ?_)
    rw [sI_6] at hP hD
    refine lv_aload_n hx hb dX11_begin_35 rfl (lv_at hl 0 rfl) ?_
    refine lv_iconst (v := 0) hx hb dX11_begin_36 (by decide) ?_
    refine va_put (D := G) (ci := 8) (v := .int 0) (ty := .int) (C := RX11) (T := TX11) (N := 42) hx hb hts iX11 tyX11 tyX11_ok nmX11 hown hK hP hD hS 0 rfl rfl 7 (by decide) (hw (.fieldLink RX11 118 "MotionFloorModel$Hall" "entries" "I") (List.mem_of_getElem? (i := 7) rfl)) (fun _ h9 => h9) rfl (by decide +kernel) rfl rfl (Nat.le_of_ble_eq_true rfl) dX11_begin_37 (fun H locs hP hD hS => ?_)
    rw [sI_7] at hP hD
    refine lv_aload_n hx hb dX11_begin_40 rfl (lv_at hl 0 rfl) ?_
    refine lv_iconst (v := 0) hx hb dX11_begin_41 (by decide) ?_
    refine va_put (D := G) (ci := 8) (v := .int 0) (ty := .int) (C := RX11) (T := TX11) (N := 42) hx hb hts iX11 tyX11 tyX11_ok nmX11 hown hK hP hD hS 0 rfl rfl 8 (by decide) (hw (.fieldLink RX11 121 "MotionFloorModel$Hall" "results" "I") (List.mem_of_getElem? (i := 8) rfl)) (fun _ h9 => h9) rfl (by decide +kernel) rfl rfl (Nat.le_of_ble_eq_true rfl) dX11_begin_42 (fun H locs hP hD hS => ?_)
    rw [sI_8] at hP hD
    refine lv_aload_n hx hb dX11_begin_45 rfl (lv_at hl 0 rfl) ?_
    refine lv_iconst (v := 0) hx hb dX11_begin_46 (by decide) ?_
    refine va_put (D := G) (ci := 8) (v := .int 0) (ty := .int) (C := RX11) (T := TX11) (N := 42) hx hb hts iX11 tyX11 tyX11_ok nmX11 hown hK hP hD hS 0 rfl rfl 9 (by decide) (hw (.fieldLink RX11 124 "MotionFloorModel$Hall" "adopted" "I") (List.mem_of_getElem? (i := 9) rfl)) (fun _ h9 => h9) rfl (by decide +kernel) rfl rfl (Nat.le_of_ble_eq_true rfl) dX11_begin_47 (fun H locs hP hD hS => ?_)
    rw [sI_9] at hP hD
    refine lv_aload_n hx hb dX11_begin_50 rfl (lv_at hl 0 rfl) ?_
    refine lv_iconst (v := 0) hx hb dX11_begin_51 (by decide) ?_
    refine va_put (D := G) (ci := 8) (v := .int 0) (ty := .int) (C := RX11) (T := TX11) (N := 42) hx hb hts iX11 tyX11 tyX11_ok nmX11 hown hK hP hD hS 0 rfl rfl 10 (by decide) (hw (.fieldLink RX11 127 "MotionFloorModel$Hall" "why" "I") (List.mem_of_getElem? (i := 10) rfl)) (fun _ h9 => h9) rfl (by decide +kernel) rfl rfl (Nat.le_of_ble_eq_true rfl) dX11_begin_52 (fun H locs hP hD hS => ?_)
    rw [sI_10] at hP hD
    refine lv_aload_n hx hb dX11_begin_55 rfl (lv_at hl 0 rfl) ?_
    refine lv_iconst (v := 0) hx hb dX11_begin_56 (by decide) ?_
    refine va_put (D := G) (ci := 8) (v := .int 0) (ty := .int) (C := RX11) (T := TX11) (N := 42) hx hb hts iX11 tyX11 tyX11_ok nmX11 hown hK hP hD hS 0 rfl rfl 35 (by decide) (hw (.fieldLink RX11 130 "MotionFloorModel$Hall" "drafted" "I") (List.mem_of_getElem? (i := 11) rfl)) (fun _ h9 => h9) rfl (by decide +kernel) rfl rfl (Nat.le_of_ble_eq_true rfl) dX11_begin_57 (fun H locs hP hD hS => ?_)
    rw [sI_35] at hP hD
    refine lv_aload_n hx hb dX11_begin_60 rfl (lv_at hl 0 rfl) ?_
    refine lv_iconst (v := (-1)) hx hb dX11_begin_61 (by decide) ?_
    refine va_put (D := G) (ci := 8) (v := .int (-1)) (ty := .int) (C := RX11) (T := TX11) (N := 42) hx hb hts iX11 tyX11 tyX11_ok nmX11 hown hK hP hD hS 0 rfl rfl 39 (by decide) (hw (.fieldLink RX11 133 "MotionFloorModel$Hall" "lastWords" "I") (List.mem_of_getElem? (i := 12) rfl)) (fun _ h9 => h9) rfl (by decide +kernel) rfl rfl (Nat.le_of_ble_eq_true rfl) dX11_begin_62 (fun H locs hP hD hS => ?_)
    rw [sI_39] at hP hD
    refine lv_iconst (v := 0) hx hb dX11_begin_65 (by decide) ?_
    refine lv_istore_n (lv' := [(2, .int 0), (0, .ref h), (1, .int x1)]) hx hb dX11_begin_66 rfl hl (by decide) rfl (fun ls hl => ?_)
    exact L_67 100000 (sI (sI (sI (sI (sI (sI (sI (sI (sI (sI (sI (sI (sI S 0 x1) 1 0) 2 (-1)) 3 0) 4 0) 5 (-1)) 6 0) 7 0) 8 0) 9 0) 10 0) 35 0) 39 (-1)) x1 0 _ _ _ hE hp hP hD hS (lv_sub hl [1, 2, 0] rfl)
  exact B_M S0 a1 _ _ _ hX hp hP hD hS hl
theorem gdX12_seats_0 : ckS (List.drop 0 cX12_seats.data.toList) 0 [(0, .iload_n 1, 1), (1, .iconst 1, 1), (2, .sipush 200, 3), (5, .invokestatic 1, 3), (8, .ifCond .ne 6, 3), (11, .bipush (-9), 2), (13, .ireturn, 1), (14, .aload_n 0, 1), (15, .getfield 16, 3), (18, .iload_n 1, 1), (19, .invokevirtual 36, 3), (22, .iload_n 1, 1), (23, .ireturn, 1)] = true := by decide +kernel
theorem dX12_seats_0 : decode cX12_seats 0 = .ok (.iload_n 1, 1) := ckS_g gdX12_seats_0 0 rfl
theorem dX12_seats_1 : decode cX12_seats 1 = .ok (.iconst 1, 1) := ckS_g gdX12_seats_0 1 rfl
theorem dX12_seats_2 : decode cX12_seats 2 = .ok (.sipush 200, 3) := ckS_g gdX12_seats_0 2 rfl
theorem dX12_seats_5 : decode cX12_seats 5 = .ok (.invokestatic 1, 3) := ckS_g gdX12_seats_0 3 rfl
theorem dX12_seats_8 : decode cX12_seats 8 = .ok (.ifCond .ne 6, 3) := ckS_g gdX12_seats_0 4 rfl
theorem dX12_seats_11 : decode cX12_seats 11 = .ok (.bipush (-9), 2) := ckS_g gdX12_seats_0 5 rfl
theorem dX12_seats_13 : decode cX12_seats 13 = .ok (.ireturn, 1) := ckS_g gdX12_seats_0 6 rfl
theorem dX12_seats_14 : decode cX12_seats 14 = .ok (.aload_n 0, 1) := ckS_g gdX12_seats_0 7 rfl
theorem dX12_seats_15 : decode cX12_seats 15 = .ok (.getfield 16, 3) := ckS_g gdX12_seats_0 8 rfl
theorem dX12_seats_18 : decode cX12_seats 18 = .ok (.iload_n 1, 1) := ckS_g gdX12_seats_0 9 rfl
theorem dX12_seats_19 : decode cX12_seats 19 = .ok (.invokevirtual 36, 3) := ckS_g gdX12_seats_0 10 rfl
theorem dX12_seats_22 : decode cX12_seats 22 = .ok (.iload_n 1, 1) := ckS_g gdX12_seats_0 11 rfl
theorem dX12_seats_23 : decode cX12_seats 23 = .ok (.ireturn, 1) := ckS_g gdX12_seats_0 12 rfl
set_option maxRecDepth 100000 in
theorem z209 : wZ (.laysFinal "MotionFloorModel" "MotionFloorModel" "hall" "LMotionFloorModel$Hall;") := ⟨wT5 (List.mem_of_getElem? (i := 207) (by decide +kernel)), Or.inl rfl⟩
set_option maxRecDepth 100000 in
theorem z210 : wZ (.laysFinal "MotionFloorModel" "MotionFloorModel" "spare" "LMotionFloorModel$Hall;") := ⟨wT5 (List.mem_of_getElem? (i := 209) (by decide +kernel)), Or.inl rfl⟩
set_option maxRecDepth 100000 in
theorem z211 : wZ (.laysFinal "MotionFloorModel" "MotionFloorModel" "imageSeats" "[I") := ⟨wT5 (List.mem_of_getElem? (i := 211) (by decide +kernel)), Or.inl rfl⟩
set_option maxRecDepth 100000 in
theorem z212 : wZ (.laysFinal "MotionFloorModel" "MotionFloorModel" "imageEntries" "[I") := ⟨wT5 (List.mem_of_getElem? (i := 213) (by decide +kernel)), Or.inl rfl⟩
set_option maxRecDepth 100000 in
theorem z213 : wZ (.laysFinal "MotionFloorModel" "MotionFloorModel" "images" "[I") := ⟨wT5 (List.mem_of_getElem? (i := 215) (by decide +kernel)), Or.inl rfl⟩
set_option maxRecDepth 100000 in
theorem z214 : wZ (.laysFinal "MotionFloorModel" "MotionFloorModel" "told" "[I") := ⟨wT5 (List.mem_of_getElem? (i := 217) (by decide +kernel)), Or.inl rfl⟩
set_option maxRecDepth 100000 in
theorem z215 : wZ (.lays "MotionFloorModel" "MotionFloorModel" "tolds" "I") := ⟨wT5 (List.mem_of_getElem? (i := 219) (by decide +kernel)), Or.inl rfl⟩
theorem zcX12 : GoodIn lw_tbl wsX120 := by
  show GoodIn lw_tbl [.laysFinal "MotionFloorModel" "MotionFloorModel" "hall" "LMotionFloorModel$Hall;", .laysFinal "MotionFloorModel" "MotionFloorModel" "spare" "LMotionFloorModel$Hall;", .laysFinal "MotionFloorModel" "MotionFloorModel" "imageSeats" "[I", .laysFinal "MotionFloorModel" "MotionFloorModel" "imageEntries" "[I", .laysFinal "MotionFloorModel" "MotionFloorModel" "images" "[I", .laysFinal "MotionFloorModel" "MotionFloorModel" "told" "[I", .lays "MotionFloorModel" "MotionFloorModel" "tolds" "I"]
  exact wGc z209 (wGc z210 (wGc z211 (wGc z212 (wGc z213 (wGc z214 (wGc z215 (wG0)))))))
set_option maxRecDepth 100000 in
theorem z216 : wZ (.selects RX11 yX11_begin yX11_begin) := ⟨wT5 (List.mem_of_getElem? (i := 198) (by decide +kernel)), Or.inl rfl⟩
set_option maxRecDepth 100000 in
theorem z217 : wZ (.instanceMethod yX11_begin) := ⟨wT5 (List.mem_of_getElem? (i := 197) (by decide +kernel)), Or.inl rfl⟩
set_option maxRecDepth 100000 in
theorem z218 : wZ (.methodLink RX12 36 yX11_begin) := ⟨wT5 (List.mem_of_getElem? (i := 196) (by decide +kernel)), Or.inl rfl⟩
set_option maxRecDepth 100000 in
theorem z219 : wZ (.fieldLink RX12 16 "MotionFloorModel" "hall" "LMotionFloorModel$Hall;") := ⟨wT5 (List.mem_of_getElem? (i := 200) (by decide +kernel)), Or.inl rfl⟩
set_option maxRecDepth 100000 in
theorem z220 : wZ (.code yX12_seats cX12_seats 2 (some .int)) := ⟨wT5 (List.mem_of_getElem? (i := 225) rfl), Or.inl rfl⟩
def b_X12_seats_a22 (S : MS) (x1 : Int32) : Int32 × MS := (x1, S)
def q_X12_seats_a22 (S : MS) (x1 : Int32) : Prop := True
def f_X12_seats (S : MS) (x1 : Int32) : Int32 × MS := if (f_X12_in x1 1 200) = 0 then ((-9), S) else (b_X12_seats_a22 (mH S ((f_X11_begin S.2.1 x1).2)) x1)
def p_X12_seats (S : MS) (x1 : Int32) : Prop := (p_X12_in x1 1 200) ∧ (if (f_X12_in x1 1 200) = 0 then True else (p_X11_begin S.2.1 x1) ∧ (q_X12_seats_a22 (mH S ((f_X11_begin S.2.1 x1).2)) x1))
def e_X12_seats : List Cond := [.methodLink RX12 1 yX12_in, .static yX12_in, .initialized RX12, .fieldLink RX12 16 "MotionFloorModel" "hall" "LMotionFloorModel$Hall;", .methodLink RX12 36 yX11_begin, .instanceMethod yX11_begin, .selects RX11 yX11_begin yX11_begin, .initialized RX11]
def v_X12_seats : List Cond := .code yX12_seats cX12_seats 2 (some .int) :: (e_X12_seats ++ (wsX120 ++ (v_X12_in ++ (v_X11_begin ++ []))))
theorem te_X12_seats : GoodIn lw_tbl e_X12_seats := wGc z3 (wGc z2 (wGc z1 (wGc z219 (wGc z218 (wGc z217 (wGc z216 (wGc z51 (wG0))))))))
theorem t_X12_seats : GoodIn lw_tbl v_X12_seats := wGc z220 (wGa te_X12_seats (wGa zcX12 (wGa t_X12_in (wGa t_X11_begin (wG0)))))
set_option maxHeartbeats 4000000 in
set_option maxRecDepth 100000 in
theorem c_X12_seats (l : Launch) (G : va_G) (K : Nat → ClassId) (m0 : Nat) (gm : Nat → Nat) (h1 : Nat) (g1 : Nat → Nat) (h2 : Nat) (g2 : Nat → Nat) (S0 : MS) (a1 : Int32) (sz : Nat) : Met l yX12_seats v_X12_seats ({ frames := 1, cells := 0, slots := 0, locals := 22 }) (va_Pc [.ref m0, .int a1] (mSt G K m0 gm h1 g1 h2 g2 sz S0 (p_X12_seats S0 a1))) (va_Qi (fun (r : Int32) (u : MS) => (r, u) = f_X12_seats S0 a1) (mB G K m0 gm h1 g1 h2 g2 (va_A (mW K m0 gm h1 g1 h2 g2 S0) sz)) (va_A (mW K m0 gm h1 g1 h2 g2 S0) sz)) 0 0 (va_A (mW K m0 gm h1 g1 h2 g2 S0) sz) := by
  refine Met.ofW (cc := cX12_seats) (maxL := 2) (ret := (some .int)) (by decide) rfl ?_
  intro p e s m args below meth c s₁ B hml hv
  obtain ⟨rfl, ⟨hsz, hP, hK, hD0, hTE⟩, hp⟩ := hv
  have hx := B.exec
  have hb := B.bytes
  have hr := B.returns
  have hts := atoms_spec (ws := v_X12_seats) B.pre
  have t_ := t_X12_seats
  have mw : ∀ w ∈ e_X12_seats, w ∈ v_X12_seats := fun w h => List.mem_cons_of_mem _ (List.mem_append_left _ h)
  have hw := fun w (h : w ∈ e_X12_seats) => hts w (mw w h)
  have iX12 : ∀ w ∈ wsX120, w ∈ v_X12_seats := fun w h => List.mem_cons_of_mem _ (List.mem_append_right _ (List.mem_append_left _ h))
  have j_X12_in : ∀ w ∈ v_X12_in, w ∈ v_X12_seats := fun w h => List.mem_cons_of_mem _ (List.mem_append_right _ (List.mem_append_right _ (List.mem_append_left _ h)))
  have j_X11_begin : ∀ w ∈ v_X11_begin, w ∈ v_X12_seats := fun w h => List.mem_cons_of_mem _ (List.mem_append_right _ (List.mem_append_right _ (List.mem_append_right _ (List.mem_append_left _ h))))
  have hown : s.vm.findClass RX12 = some m.cls := findClass_of_methodNamed B.named
  have hlocks := B.notSynchronized
  subst hsz
  have hD := hD0.self (sz := s.heap.size)
  generalize hAe : va_A (mW K m0 gm h1 g1 h2 g2 S0) s.heap.size = A at hD ⊢
  have hA : ∀ q : Nat, s.heap.size ≤ q → A q := fun q h => by rw [← hAe]; exact Or.inr h
  have hS : va_S A s.heap s.heap [] := va_S.rf
  have hl := lv_entry ([.ref m0, .int a1]) (n := 2) (Nat.le_of_ble_eq_true rfl)
  rw [lg_entry_eq]
  generalize (lg_sl ([.ref m0, .int a1]) ++ List.replicate (2 - (lg_sl ([.ref m0, .int a1])).length) Slot.unset).toArray = ls at hl ⊢
  have hl : lv_has ls 2 [(0, .ref m0), (1, .int a1)] := hl
  refine wGen (fun Q hQ => ?_)
  obtain ⟨X, hX⟩ : ∃ X, f_X12_seats S0 a1 = X := ⟨_, rfl⟩
  have B_M : ∀ (S : MS) (x1 : Int32) (H : Heap) (locs : List Loc) (ls : Array Slot), f_X12_seats S x1 = X → p_X12_seats S x1 → va_P G vwCl (mW K m0 gm h1 g1 h2 g2 S) H → va_D A (mW K m0 gm h1 g1 h2 g2 S) → va_S A s.heap H locs → lv_has ls 2 [(0, .ref m0), (1, .int x1)] → W p l e ({ frames := 1, cells := 0, slots := 0, locals := 22 } : Room) s m #[Value.ref m0, Value.int a1] below meth c H locs 0 0 Q (F0 m 0 ls []) := by
    intro S x1 H locs ls hE hp hP hD hS hl
    unfold f_X12_seats at hE
    unfold p_X12_seats at hp
    refine lv_iload_n hx hb dX12_seats_0 rfl (lv_at hl 1 rfl) ?_
    refine lv_iconst (v := 1) hx hb dX12_seats_1 (by decide) ?_
    refine lv_sipush (v := 200) hx hb dX12_seats_2 (by decide) ?_
    obtain ⟨hy1, hp⟩ := hp
    refine nGoi (va_runS (As := [.int x1, .int 1, .int 200]) (rest := []) ⟨hx, hb, hml, hown, hts⟩ (c_X12_in l G K x1 1 200 _) (va_cwS 3 hts (wGS t_ (mw (.methodLink RX12 1 yX12_in) (List.mem_of_getElem? (i := 0) rfl)) (mw (.static yX12_in) (List.mem_of_getElem? (i := 1) rfl)) (mw (.initialized RX12) (List.mem_of_getElem? (i := 2) rfl)) j_X12_in) rfl rfl rfl (by decide +kernel) ⟨Nat.le_of_ble_eq_true rfl, Nat.le_of_ble_eq_true rfl⟩) (nPS hK hTE hy1) rfl rfl hl.1 rfl (lv_room (Nat.le_of_ble_eq_true rfl)) dX12_seats_5 ⟨Nat.le_of_ble_eq_true rfl, Nat.le_of_ble_eq_true rfl⟩) hP hS hA (fun r H locs hv hP hS => ?_)
    subst hv
    refine lv_if_ne (tgt := 14) hx hb dX12_seats_8 (by decide) (fun c2 => ?_) (fun c2 => ?_)
    · rw [if_neg c2] at hE hp
      refine lv_aload_n hx hb dX12_seats_14 rfl (lv_at hl 0 rfl) ?_
      refine va_get (D := G) (ci := 9) (v := .ref h1) (C := RX12) (T := TX12) (N := 7) hx hb hts iX12 hown hK hP 0 rfl rfl 0 (by decide) (hw (.fieldLink RX12 16 "MotionFloorModel" "hall" "LMotionFloorModel$Hall;") (List.mem_of_getElem? (i := 3) rfl)) (fun _ h9 => h9) rfl dX12_seats_15 ?_
      refine lv_iload_n hx hb dX12_seats_18 rfl (lv_at hl 1 rfl) ?_
      obtain ⟨hy3, hp⟩ := hp
      refine mGov_h (va_runV (As := [.int x1]) (rest := []) ⟨hx, hb, hml, hown, hts⟩ (c_X11_begin l G K h1 g1 S.2.1 x1 _) (cwV 1 hts (wGV t_ (mw (.methodLink RX12 36 yX11_begin) (List.mem_of_getElem? (i := 4) rfl)) (mw (.instanceMethod yX11_begin) (List.mem_of_getElem? (i := 5) rfl)) (mw (.selects RX11 yX11_begin yX11_begin) (List.mem_of_getElem? (i := 6) rfl)) (mw (.initialized RX11) (List.mem_of_getElem? (i := 7) rfl)) j_X11_begin) rfl rfl rfl (by decide +kernel) ⟨Nat.le_of_ble_eq_true rfl, Nat.le_of_ble_eq_true rfl⟩) (hPV hK hTE (mP_h hP) (mD_h hD) hy3) rfl rfl hl.1 rfl (lv_room (Nat.le_of_ble_eq_true rfl)) dX12_seats_19 ⟨Nat.le_of_ble_eq_true rfl, Nat.le_of_ble_eq_true rfl⟩) hP hD hS hA (fun u4 H locs hv hP hD hS => ?_)
      rw [← hv] at hE hp
      dsimp only at hE hp
      unfold b_X12_seats_a22 at hE
      unfold q_X12_seats_a22 at hp
      refine lv_iload_n hx hb dX12_seats_22 rfl (lv_at hl 1 rfl) ?_
      subst hQ
      exact W.iret (v := x1) hx hb hr (fun t ht hW => ⟨⟨x1, (mH S u4), rfl, hE.trans hX.symm, by rw [ht]; exact hP, hD⟩, hS.F ht⟩) hS.2.2 dX12_seats_23
    · rw [if_pos c2] at hE hp
      refine lv_bipush (v := (-9)) hx hb dX12_seats_11 (by decide) ?_
      subst hQ
      exact W.iret (v := (-9)) hx hb hr (fun t ht hW => ⟨⟨(-9), S, rfl, hE.trans hX.symm, by rw [ht]; exact hP, hD⟩, hS.F ht⟩) hS.2.2 dX12_seats_13
  exact B_M S0 a1 _ _ _ hX hp hP hD hS hl
theorem gdX12_there_0 : ckS (List.drop 0 cX12_there.data.toList) 0 [(0, .aload_n 0, 1), (1, .getfield 16, 3), (4, .iconst 1, 1), (5, .iload_n 1, 1), (6, .iconst 0, 1), (7, .iconst 0, 1), (8, .iconst 0, 1), (9, .invokevirtual 40, 3), (12, .ireturn, 1)] = true := by decide +kernel
theorem dX12_there_0 : decode cX12_there 0 = .ok (.aload_n 0, 1) := ckS_g gdX12_there_0 0 rfl
theorem dX12_there_1 : decode cX12_there 1 = .ok (.getfield 16, 3) := ckS_g gdX12_there_0 1 rfl
theorem dX12_there_4 : decode cX12_there 4 = .ok (.iconst 1, 1) := ckS_g gdX12_there_0 2 rfl
theorem dX12_there_5 : decode cX12_there 5 = .ok (.iload_n 1, 1) := ckS_g gdX12_there_0 3 rfl
theorem dX12_there_6 : decode cX12_there 6 = .ok (.iconst 0, 1) := ckS_g gdX12_there_0 4 rfl
theorem dX12_there_7 : decode cX12_there 7 = .ok (.iconst 0, 1) := ckS_g gdX12_there_0 5 rfl
theorem dX12_there_8 : decode cX12_there 8 = .ok (.iconst 0, 1) := ckS_g gdX12_there_0 6 rfl
theorem dX12_there_9 : decode cX12_there 9 = .ok (.invokevirtual 40, 3) := ckS_g gdX12_there_0 7 rfl
theorem dX12_there_12 : decode cX12_there 12 = .ok (.ireturn, 1) := ckS_g gdX12_there_0 8 rfl
set_option maxRecDepth 100000 in
theorem z221 : wZ (.selects RX11 yX11_act yX11_act) := ⟨wT5 (List.mem_of_getElem? (i := 235) (by decide +kernel)), Or.inl rfl⟩
set_option maxRecDepth 100000 in
theorem z222 : wZ (.instanceMethod yX11_act) := ⟨wT5 (List.mem_of_getElem? (i := 234) (by decide +kernel)), Or.inl rfl⟩
set_option maxRecDepth 100000 in
theorem z223 : wZ (.methodLink RX12 40 yX11_act) := ⟨wT5 (List.mem_of_getElem? (i := 233) (by decide +kernel)), Or.inl rfl⟩
set_option maxRecDepth 100000 in
theorem z224 : wZ (.code yX12_there cX12_there 2 (some .int)) := ⟨wT5 (List.mem_of_getElem? (i := 232) rfl), Or.inl rfl⟩
def b_X12_there_a12 (S : MS) (x1 y0 : Int32) : Int32 × MS := (y0, S)
def q_X12_there_a12 (S : MS) (x1 y0 : Int32) : Prop := True
def f_X12_there (S : MS) (x1 : Int32) : Int32 × MS := (b_X12_there_a12 (mH S ((f_X11_act S.2.1 1 x1 0 0 0).2)) x1 (f_X11_act S.2.1 1 x1 0 0 0).1)
def p_X12_there (S : MS) (x1 : Int32) : Prop := (p_X11_act S.2.1 1 x1 0 0 0) ∧ (q_X12_there_a12 (mH S ((f_X11_act S.2.1 1 x1 0 0 0).2)) x1 (f_X11_act S.2.1 1 x1 0 0 0).1)
def e_X12_there : List Cond := [.fieldLink RX12 16 "MotionFloorModel" "hall" "LMotionFloorModel$Hall;", .methodLink RX12 40 yX11_act, .instanceMethod yX11_act, .selects RX11 yX11_act yX11_act, .initialized RX11]
def v_X12_there : List Cond := .code yX12_there cX12_there 2 (some .int) :: (e_X12_there ++ (wsX120 ++ (v_X11_act ++ [])))
theorem te_X12_there : GoodIn lw_tbl e_X12_there := wGc z219 (wGc z223 (wGc z222 (wGc z221 (wGc z51 (wG0)))))
theorem t_X12_there : GoodIn lw_tbl v_X12_there := wGc z224 (wGa te_X12_there (wGa zcX12 (wGa t_X11_act (wG0))))
set_option maxHeartbeats 4000000 in
set_option maxRecDepth 100000 in
theorem c_X12_there (l : Launch) (G : va_G) (K : Nat → ClassId) (m0 : Nat) (gm : Nat → Nat) (h1 : Nat) (g1 : Nat → Nat) (h2 : Nat) (g2 : Nat → Nat) (S0 : MS) (a1 : Int32) (sz : Nat) : Met l yX12_there v_X12_there ({ frames := 6, cells := 0, slots := 0, locals := 156 }) (va_Pc [.ref m0, .int a1] (mSt G K m0 gm h1 g1 h2 g2 sz S0 (p_X12_there S0 a1))) (va_Qi (fun (r : Int32) (u : MS) => (r, u) = f_X12_there S0 a1) (mB G K m0 gm h1 g1 h2 g2 (va_A (mW K m0 gm h1 g1 h2 g2 S0) sz)) (va_A (mW K m0 gm h1 g1 h2 g2 S0) sz)) 0 0 (va_A (mW K m0 gm h1 g1 h2 g2 S0) sz) := by
  refine Met.ofW (cc := cX12_there) (maxL := 2) (ret := (some .int)) (by decide) rfl ?_
  intro p e s m args below meth c s₁ B hml hv
  obtain ⟨rfl, ⟨hsz, hP, hK, hD0, hTE⟩, hp⟩ := hv
  have hx := B.exec
  have hb := B.bytes
  have hr := B.returns
  have hts := atoms_spec (ws := v_X12_there) B.pre
  have t_ := t_X12_there
  have mw : ∀ w ∈ e_X12_there, w ∈ v_X12_there := fun w h => List.mem_cons_of_mem _ (List.mem_append_left _ h)
  have hw := fun w (h : w ∈ e_X12_there) => hts w (mw w h)
  have iX12 : ∀ w ∈ wsX120, w ∈ v_X12_there := fun w h => List.mem_cons_of_mem _ (List.mem_append_right _ (List.mem_append_left _ h))
  have j_X11_act : ∀ w ∈ v_X11_act, w ∈ v_X12_there := fun w h => List.mem_cons_of_mem _ (List.mem_append_right _ (List.mem_append_right _ (List.mem_append_left _ h)))
  have hown : s.vm.findClass RX12 = some m.cls := findClass_of_methodNamed B.named
  have hlocks := B.notSynchronized
  subst hsz
  have hD := hD0.self (sz := s.heap.size)
  generalize hAe : va_A (mW K m0 gm h1 g1 h2 g2 S0) s.heap.size = A at hD ⊢
  have hA : ∀ q : Nat, s.heap.size ≤ q → A q := fun q h => by rw [← hAe]; exact Or.inr h
  have hS : va_S A s.heap s.heap [] := va_S.rf
  have hl := lv_entry ([.ref m0, .int a1]) (n := 2) (Nat.le_of_ble_eq_true rfl)
  rw [lg_entry_eq]
  generalize (lg_sl ([.ref m0, .int a1]) ++ List.replicate (2 - (lg_sl ([.ref m0, .int a1])).length) Slot.unset).toArray = ls at hl ⊢
  have hl : lv_has ls 2 [(0, .ref m0), (1, .int a1)] := hl
  refine wGen (fun Q hQ => ?_)
  obtain ⟨X, hX⟩ : ∃ X, f_X12_there S0 a1 = X := ⟨_, rfl⟩
  have B_M : ∀ (S : MS) (x1 : Int32) (H : Heap) (locs : List Loc) (ls : Array Slot), f_X12_there S x1 = X → p_X12_there S x1 → va_P G vwCl (mW K m0 gm h1 g1 h2 g2 S) H → va_D A (mW K m0 gm h1 g1 h2 g2 S) → va_S A s.heap H locs → lv_has ls 2 [(0, .ref m0), (1, .int x1)] → W p l e ({ frames := 6, cells := 0, slots := 0, locals := 156 } : Room) s m #[Value.ref m0, Value.int a1] below meth c H locs 0 0 Q (F0 m 0 ls []) := by
    intro S x1 H locs ls hE hp hP hD hS hl
    unfold f_X12_there at hE
    unfold p_X12_there at hp
    refine lv_aload_n hx hb dX12_there_0 rfl (lv_at hl 0 rfl) ?_
    refine va_get (D := G) (ci := 9) (v := .ref h1) (C := RX12) (T := TX12) (N := 7) hx hb hts iX12 hown hK hP 0 rfl rfl 0 (by decide) (hw (.fieldLink RX12 16 "MotionFloorModel" "hall" "LMotionFloorModel$Hall;") (List.mem_of_getElem? (i := 0) rfl)) (fun _ h9 => h9) rfl dX12_there_1 ?_
    refine lv_iconst (v := 1) hx hb dX12_there_4 (by decide) ?_
    refine lv_iload_n hx hb dX12_there_5 rfl (lv_at hl 1 rfl) ?_
    refine lv_iconst (v := 0) hx hb dX12_there_6 (by decide) ?_
    refine lv_iconst (v := 0) hx hb dX12_there_7 (by decide) ?_
    refine lv_iconst (v := 0) hx hb dX12_there_8 (by decide) ?_
    obtain ⟨hy1, hp⟩ := hp
    refine mGoi_h (va_runV (As := [.int 1, .int x1, .int 0, .int 0, .int 0]) (rest := []) ⟨hx, hb, hml, hown, hts⟩ (c_X11_act l G K h1 g1 S.2.1 1 x1 0 0 0 _) (cwV 5 hts (wGV t_ (mw (.methodLink RX12 40 yX11_act) (List.mem_of_getElem? (i := 1) rfl)) (mw (.instanceMethod yX11_act) (List.mem_of_getElem? (i := 2) rfl)) (mw (.selects RX11 yX11_act yX11_act) (List.mem_of_getElem? (i := 3) rfl)) (mw (.initialized RX11) (List.mem_of_getElem? (i := 4) rfl)) j_X11_act) rfl rfl rfl (by decide +kernel) ⟨Nat.le_of_ble_eq_true rfl, Nat.le_of_ble_eq_true rfl⟩) (hPV hK hTE (mP_h hP) (mD_h hD) hy1) rfl rfl hl.1 rfl (lv_room (Nat.le_of_ble_eq_true rfl)) dX12_there_9 ⟨Nat.le_of_ble_eq_true rfl, Nat.le_of_ble_eq_true rfl⟩) hP hD hS hA (fun r3 u2 H locs hv hP hD hS => ?_)
    rw [← hv] at hE hp
    dsimp only at hE hp
    unfold b_X12_there_a12 at hE
    unfold q_X12_there_a12 at hp
    subst hQ
    exact W.iret (v := r3) hx hb hr (fun t ht hW => ⟨⟨r3, (mH S u2), rfl, hE.trans hX.symm, by rw [ht]; exact hP, hD⟩, hS.F ht⟩) hS.2.2 dX12_there_12
  exact B_M S0 a1 _ _ _ hX hp hP hD hS hl
theorem gdX12_gone_0 : ckS (List.drop 0 cX12_gone.data.toList) 0 [(0, .aload_n 0, 1), (1, .getfield 16, 3), (4, .iconst 2, 1), (5, .iload_n 1, 1), (6, .iconst 0, 1), (7, .iconst 0, 1), (8, .iconst 0, 1), (9, .invokevirtual 40, 3), (12, .ireturn, 1)] = true := by decide +kernel
theorem dX12_gone_0 : decode cX12_gone 0 = .ok (.aload_n 0, 1) := ckS_g gdX12_gone_0 0 rfl
theorem dX12_gone_1 : decode cX12_gone 1 = .ok (.getfield 16, 3) := ckS_g gdX12_gone_0 1 rfl
theorem dX12_gone_4 : decode cX12_gone 4 = .ok (.iconst 2, 1) := ckS_g gdX12_gone_0 2 rfl
theorem dX12_gone_5 : decode cX12_gone 5 = .ok (.iload_n 1, 1) := ckS_g gdX12_gone_0 3 rfl
theorem dX12_gone_6 : decode cX12_gone 6 = .ok (.iconst 0, 1) := ckS_g gdX12_gone_0 4 rfl
theorem dX12_gone_7 : decode cX12_gone 7 = .ok (.iconst 0, 1) := ckS_g gdX12_gone_0 5 rfl
theorem dX12_gone_8 : decode cX12_gone 8 = .ok (.iconst 0, 1) := ckS_g gdX12_gone_0 6 rfl
theorem dX12_gone_9 : decode cX12_gone 9 = .ok (.invokevirtual 40, 3) := ckS_g gdX12_gone_0 7 rfl
theorem dX12_gone_12 : decode cX12_gone 12 = .ok (.ireturn, 1) := ckS_g gdX12_gone_0 8 rfl
set_option maxRecDepth 100000 in
theorem z225 : wZ (.code yX12_gone cX12_gone 2 (some .int)) := ⟨wT6 (List.mem_of_getElem? (i := 119) rfl), Or.inl rfl⟩
def b_X12_gone_a12 (S : MS) (x1 y0 : Int32) : Int32 × MS := (y0, S)
def q_X12_gone_a12 (S : MS) (x1 y0 : Int32) : Prop := True
def f_X12_gone (S : MS) (x1 : Int32) : Int32 × MS := (b_X12_gone_a12 (mH S ((f_X11_act S.2.1 2 x1 0 0 0).2)) x1 (f_X11_act S.2.1 2 x1 0 0 0).1)
def p_X12_gone (S : MS) (x1 : Int32) : Prop := (p_X11_act S.2.1 2 x1 0 0 0) ∧ (q_X12_gone_a12 (mH S ((f_X11_act S.2.1 2 x1 0 0 0).2)) x1 (f_X11_act S.2.1 2 x1 0 0 0).1)
def e_X12_gone : List Cond := [.fieldLink RX12 16 "MotionFloorModel" "hall" "LMotionFloorModel$Hall;", .methodLink RX12 40 yX11_act, .instanceMethod yX11_act, .selects RX11 yX11_act yX11_act, .initialized RX11]
def v_X12_gone : List Cond := .code yX12_gone cX12_gone 2 (some .int) :: (e_X12_gone ++ (wsX120 ++ (v_X11_act ++ [])))
theorem te_X12_gone : GoodIn lw_tbl e_X12_gone := wGc z219 (wGc z223 (wGc z222 (wGc z221 (wGc z51 (wG0)))))
theorem t_X12_gone : GoodIn lw_tbl v_X12_gone := wGc z225 (wGa te_X12_gone (wGa zcX12 (wGa t_X11_act (wG0))))
set_option maxHeartbeats 4000000 in
set_option maxRecDepth 100000 in
theorem c_X12_gone (l : Launch) (G : va_G) (K : Nat → ClassId) (m0 : Nat) (gm : Nat → Nat) (h1 : Nat) (g1 : Nat → Nat) (h2 : Nat) (g2 : Nat → Nat) (S0 : MS) (a1 : Int32) (sz : Nat) : Met l yX12_gone v_X12_gone ({ frames := 6, cells := 0, slots := 0, locals := 156 }) (va_Pc [.ref m0, .int a1] (mSt G K m0 gm h1 g1 h2 g2 sz S0 (p_X12_gone S0 a1))) (va_Qi (fun (r : Int32) (u : MS) => (r, u) = f_X12_gone S0 a1) (mB G K m0 gm h1 g1 h2 g2 (va_A (mW K m0 gm h1 g1 h2 g2 S0) sz)) (va_A (mW K m0 gm h1 g1 h2 g2 S0) sz)) 0 0 (va_A (mW K m0 gm h1 g1 h2 g2 S0) sz) := by
  refine Met.ofW (cc := cX12_gone) (maxL := 2) (ret := (some .int)) (by decide) rfl ?_
  intro p e s m args below meth c s₁ B hml hv
  obtain ⟨rfl, ⟨hsz, hP, hK, hD0, hTE⟩, hp⟩ := hv
  have hx := B.exec
  have hb := B.bytes
  have hr := B.returns
  have hts := atoms_spec (ws := v_X12_gone) B.pre
  have t_ := t_X12_gone
  have mw : ∀ w ∈ e_X12_gone, w ∈ v_X12_gone := fun w h => List.mem_cons_of_mem _ (List.mem_append_left _ h)
  have hw := fun w (h : w ∈ e_X12_gone) => hts w (mw w h)
  have iX12 : ∀ w ∈ wsX120, w ∈ v_X12_gone := fun w h => List.mem_cons_of_mem _ (List.mem_append_right _ (List.mem_append_left _ h))
  have j_X11_act : ∀ w ∈ v_X11_act, w ∈ v_X12_gone := fun w h => List.mem_cons_of_mem _ (List.mem_append_right _ (List.mem_append_right _ (List.mem_append_left _ h)))
  have hown : s.vm.findClass RX12 = some m.cls := findClass_of_methodNamed B.named
  have hlocks := B.notSynchronized
  subst hsz
  have hD := hD0.self (sz := s.heap.size)
  generalize hAe : va_A (mW K m0 gm h1 g1 h2 g2 S0) s.heap.size = A at hD ⊢
  have hA : ∀ q : Nat, s.heap.size ≤ q → A q := fun q h => by rw [← hAe]; exact Or.inr h
  have hS : va_S A s.heap s.heap [] := va_S.rf
  have hl := lv_entry ([.ref m0, .int a1]) (n := 2) (Nat.le_of_ble_eq_true rfl)
  rw [lg_entry_eq]
  generalize (lg_sl ([.ref m0, .int a1]) ++ List.replicate (2 - (lg_sl ([.ref m0, .int a1])).length) Slot.unset).toArray = ls at hl ⊢
  have hl : lv_has ls 2 [(0, .ref m0), (1, .int a1)] := hl
  refine wGen (fun Q hQ => ?_)
  obtain ⟨X, hX⟩ : ∃ X, f_X12_gone S0 a1 = X := ⟨_, rfl⟩
  have B_M : ∀ (S : MS) (x1 : Int32) (H : Heap) (locs : List Loc) (ls : Array Slot), f_X12_gone S x1 = X → p_X12_gone S x1 → va_P G vwCl (mW K m0 gm h1 g1 h2 g2 S) H → va_D A (mW K m0 gm h1 g1 h2 g2 S) → va_S A s.heap H locs → lv_has ls 2 [(0, .ref m0), (1, .int x1)] → W p l e ({ frames := 6, cells := 0, slots := 0, locals := 156 } : Room) s m #[Value.ref m0, Value.int a1] below meth c H locs 0 0 Q (F0 m 0 ls []) := by
    intro S x1 H locs ls hE hp hP hD hS hl
    unfold f_X12_gone at hE
    unfold p_X12_gone at hp
    refine lv_aload_n hx hb dX12_gone_0 rfl (lv_at hl 0 rfl) ?_
    refine va_get (D := G) (ci := 9) (v := .ref h1) (C := RX12) (T := TX12) (N := 7) hx hb hts iX12 hown hK hP 0 rfl rfl 0 (by decide) (hw (.fieldLink RX12 16 "MotionFloorModel" "hall" "LMotionFloorModel$Hall;") (List.mem_of_getElem? (i := 0) rfl)) (fun _ h9 => h9) rfl dX12_gone_1 ?_
    refine lv_iconst (v := 2) hx hb dX12_gone_4 (by decide) ?_
    refine lv_iload_n hx hb dX12_gone_5 rfl (lv_at hl 1 rfl) ?_
    refine lv_iconst (v := 0) hx hb dX12_gone_6 (by decide) ?_
    refine lv_iconst (v := 0) hx hb dX12_gone_7 (by decide) ?_
    refine lv_iconst (v := 0) hx hb dX12_gone_8 (by decide) ?_
    obtain ⟨hy1, hp⟩ := hp
    refine mGoi_h (va_runV (As := [.int 2, .int x1, .int 0, .int 0, .int 0]) (rest := []) ⟨hx, hb, hml, hown, hts⟩ (c_X11_act l G K h1 g1 S.2.1 2 x1 0 0 0 _) (cwV 5 hts (wGV t_ (mw (.methodLink RX12 40 yX11_act) (List.mem_of_getElem? (i := 1) rfl)) (mw (.instanceMethod yX11_act) (List.mem_of_getElem? (i := 2) rfl)) (mw (.selects RX11 yX11_act yX11_act) (List.mem_of_getElem? (i := 3) rfl)) (mw (.initialized RX11) (List.mem_of_getElem? (i := 4) rfl)) j_X11_act) rfl rfl rfl (by decide +kernel) ⟨Nat.le_of_ble_eq_true rfl, Nat.le_of_ble_eq_true rfl⟩) (hPV hK hTE (mP_h hP) (mD_h hD) hy1) rfl rfl hl.1 rfl (lv_room (Nat.le_of_ble_eq_true rfl)) dX12_gone_9 ⟨Nat.le_of_ble_eq_true rfl, Nat.le_of_ble_eq_true rfl⟩) hP hD hS hA (fun r3 u2 H locs hv hP hD hS => ?_)
    rw [← hv] at hE hp
    dsimp only at hE hp
    unfold b_X12_gone_a12 at hE
    unfold q_X12_gone_a12 at hp
    subst hQ
    exact W.iret (v := r3) hx hb hr (fun t ht hW => ⟨⟨r3, (mH S u2), rfl, hE.trans hX.symm, by rw [ht]; exact hP, hD⟩, hS.F ht⟩) hS.2.2 dX12_gone_12
  exact B_M S0 a1 _ _ _ hX hp hP hD hS hl
